/-! ===== signed ints as whole numbers, within bounds ===== -/
theorem fb_rng (x : Int32) : -2147483648 ≤ x.toInt ∧ x.toInt < 2147483648 := by
  have h1 := Int32.le_toInt x
  have h2 := Int32.toInt_lt x
  omega
theorem fb_bmod {z : Int} (h1 : -2147483648 ≤ z) (h2 : z < 2147483648) : z.bmod (2 ^ 32) = z := by
  rw [Int.bmod_eq_of_le (by omega) (by omega)]
theorem fb_addI {x y : Int32} (h1 : -2147483648 ≤ x.toInt + y.toInt) (h2 : x.toInt + y.toInt < 2147483648) : (x + y).toInt = x.toInt + y.toInt := by
  rw [Int32.toInt_add, fb_bmod h1 h2]
theorem fb_subI {x y : Int32} (h1 : -2147483648 ≤ x.toInt - y.toInt) (h2 : x.toInt - y.toInt < 2147483648) : (x - y).toInt = x.toInt - y.toInt := by
  rw [Int32.toInt_sub, fb_bmod h1 h2]
theorem fb_mulI {x y : Int32} (h1 : -2147483648 ≤ x.toInt * y.toInt) (h2 : x.toInt * y.toInt < 2147483648) : (x * y).toInt = x.toInt * y.toInt := by
  rw [Int32.toInt_mul, fb_bmod h1 h2]
theorem fb_negI {x : Int32} (h : x.toInt ≠ -2147483648) : (-x).toInt = -x.toInt := by
  have := fb_rng x
  rw [Int32.toInt_neg, fb_bmod (by omega) (by omega)]
theorem fb_ofI {z : Int} (h1 : -2147483648 ≤ z) (h2 : z < 2147483648) : (Int32.ofInt z).toInt = z := by
  rw [Int32.toInt_ofInt, fb_bmod h1 h2]
theorem fb_asI (x : Int32) : Int32.ofInt x.toInt = x := Int32.ofInt_toInt x
theorem fb_rngL (x : Int64) : -9223372036854775808 ≤ x.toInt ∧ x.toInt < 9223372036854775808 := by
  have h1 := Int64.le_toInt x
  have h2 := Int64.toInt_lt x
  omega
theorem fb_bmodL {z : Int} (h1 : -9223372036854775808 ≤ z) (h2 : z < 9223372036854775808) : z.bmod (2 ^ 64) = z := by
  rw [Int.bmod_eq_of_le (by omega) (by omega)]
theorem fb_addL {x y : Int64} (h1 : -9223372036854775808 ≤ x.toInt + y.toInt) (h2 : x.toInt + y.toInt < 9223372036854775808) : (x + y).toInt = x.toInt + y.toInt := by
  rw [Int64.toInt_add, fb_bmodL h1 h2]
theorem fb_subL {x y : Int64} (h1 : -9223372036854775808 ≤ x.toInt - y.toInt) (h2 : x.toInt - y.toInt < 9223372036854775808) : (x - y).toInt = x.toInt - y.toInt := by
  rw [Int64.toInt_sub, fb_bmodL h1 h2]
theorem fb_mulL {x y : Int64} (h1 : -9223372036854775808 ≤ x.toInt * y.toInt) (h2 : x.toInt * y.toInt < 9223372036854775808) : (x * y).toInt = x.toInt * y.toInt := by
  rw [Int64.toInt_mul, fb_bmodL h1 h2]
/-! rows for the walks of the class's public methods -/
theorem a_flt_z {N : Nat} {D R : Nat → Int32} {x : Int32} (hN : 1 ≤ N ∧ N ≤ 64) (h : a_flt N D R x = 0) : ∃ q, q < N ∧ x = nI q := by
  by_cases c : inB x N = 0
  · rw [a_flt_0 c] at h
    exact absurd h (by decide)
  · exact inB_1 (by omega) c
theorem s_rdF_0 {N : Nat} {D R F : Nat → Int32} {x : Int32} {q : Nat} (h : a_flt N D R x = 0) (hx : x = nI q) (hq : q < 2 ^ 31) : va_cpy D F (8 + 64 * q) 0 64 = s_rdF N D R F x := by unfold s_rdF; rw [if_pos h, hx, nI_clamp hq]
theorem s_rdF_1 {N : Nat} {D R F : Nat → Int32} {x : Int32} (h : ¬ a_flt N D R x = 0) : F = s_rdF N D R F x := by unfold s_rdF; rw [if_neg h]
theorem s_inc_0 {N : Nat} {D R : Nat → Int32} {x n : Int32} (h : a_flt N D R x = 0) : n + 1 = s_inc N D R x n := by unfold s_inc; rw [if_pos h]
theorem s_inc_1 {N : Nat} {D R : Nat → Int32} {x n : Int32} (h : ¬ a_flt N D R x = 0) : n = s_inc N D R x n := by unfold s_inc; rw [if_neg h]
theorem s_ft_0 {N : Nat} {D R : Nat → Int32} {x n : Int32} (h : a_flt N D R x = 0) : n = s_ft N D R x n := by unfold s_ft; rw [if_pos h]
theorem s_ft_1 {N : Nat} {D R : Nat → Int32} {x n : Int32} (h0 : ¬ a_flt N D R x = 0) (h : a_flt N D R x = -1) : n = s_ft N D R x n := by unfold s_ft; rw [if_neg h0, if_pos h]
theorem s_ft_2 {N : Nat} {D R : Nat → Int32} {x n : Int32} (h0 : ¬ a_flt N D R x = 0) (h : ¬ a_flt N D R x = -1) : n + 1 = s_ft N D R x n := by unfold s_ft; rw [if_neg h0, if_neg h]
theorem s_wrD_0 {N : Nat} {D R F : Nat → Int32} {x : Int32} {q : Nat} (h : a_flt N D R x = 0) (hx : x = nI q) (hq : q < 2 ^ 31) : sWay N (va_cpy F D 0 (8 + 64 * q) 64) q (lvs N) = s_wrD N D R F x := by unfold s_wrD; rw [if_pos h, hx, nI_clamp hq]
theorem s_wrD_1 {N : Nat} {D R F : Nat → Int32} {x : Int32} (h : ¬ a_flt N D R x = 0) : D = s_wrD N D R F x := by unfold s_wrD; rw [if_neg h]
theorem s_wrR_0 {N : Nat} {D R F : Nat → Int32} {x : Int32} {q : Nat} (h : a_flt N D R x = 0) (hx : x = nI q) (hq : q < 2 ^ 31) : sRoot N (sWay N (va_cpy F D 0 (8 + 64 * q) 64) q (lvs N)) R = s_wrR N D R F x := by unfold s_wrR; rw [if_pos h, hx, nI_clamp hq]
theorem s_wrR_1 {N : Nat} {D R F : Nat → Int32} {x : Int32} (h : ¬ a_flt N D R x = 0) : R = s_wrR N D R F x := by unfold s_wrR; rw [if_neg h]
theorem s_put_0 {F : Nat → Int32} {x v : Int32} (h : inB x 64 = 0) : F = s_put F x v := by unfold s_put; rw [if_pos h]
theorem s_put_1 {F : Nat → Int32} {v : Int32} {q : Nat} (h : q < 64) : upd F q (v &&& 255) = s_put F (nI q) v := by unfold s_put; rw [if_neg (inB_nz h (by decide)), nI_clamp (by omega)]
theorem s_fill_0 {F : Nat → Int32} {x : Int32} {v : Int64} (h : inB x 8 = 0) : F = s_fill F x v := by unfold s_fill; rw [if_pos h]
theorem s_fill_1 {F : Nat → Int32} {v : Int64} {q : Nat} (h : q < 8) : filN F q v 8 = s_fill F (nI q) v := by unfold s_fill; rw [if_neg (inB_nz h (by decide)), nI_clamp (by omega)]
theorem a_fill_0 {x : Int32} (h : inB x 8 = 0) : -1 = a_fill x := by unfold a_fill; rw [if_pos h]
theorem a_fill_1 {q : Nat} (h : q < 8) : nI (8 * q) = a_fill (nI q) := by unfold a_fill; rw [if_neg (inB_nz h (by decide)), nI_clamp (by omega)]
theorem s_alt_0 {N : Nat} {D : Nat → Int32} {x v : Int32} (h : inB x (siz N) = 0) : D = s_alt N D x v := by unfold s_alt; rw [if_pos h]
theorem s_alt_1 {N : Nat} {D : Nat → Int32} {v : Int32} {q : Nat} (hN : 1 ≤ N ∧ N ≤ 64) (h : q < siz N) : upd D q (D q ^^^ (v &&& 255)) = s_alt N D (nI q) v := by
  have hz := siz_le hN
  unfold s_alt
  rw [if_neg (inB_nz h (by omega)), nI_clamp (by omega)]
theorem sub_in {a : Nat} {z : Int32} (ha : a < 10000) (hz : ¬ z < 0) : (nI a - z).toInt = a - z.toInt := by
  rw [Int32.lt_iff_toInt_lt, Int32.toInt_zero] at hz
  have h2 := fb_rng z
  rw [fb_subI (by rw [nI_toInt (by omega)]; omega) (by rw [nI_toInt (by omega)]; omega), nI_toInt (by omega)]
theorem car_f {N : Nat} {x y z : Int32} (h : ¬ carOk N x y z) : carB N x y z = false := by
  cases e : carB N x y z with
  | false => rfl
  | true => exact absurd ((carB_iff N x y z).mp e) h
theorem car_t {N : Nat} {x y z : Int32} (hN : 1 ≤ N ∧ N ≤ 64) (h : carB N x y z = true) : ∃ qx qy qz : Nat, x = nI qx ∧ y = nI qy ∧ z = nI qz ∧ qx + qz ≤ siz N ∧ qy + qz ≤ siz N := by
  obtain ⟨h1, h2, h3, h4, h5⟩ := (carB_iff N x y z).mp h
  obtain ⟨qx, b1, rfl⟩ := nI_of (x := x) (by rw [Int32.lt_iff_toInt_lt, Int32.toInt_zero]; omega)
  obtain ⟨qy, b2, rfl⟩ := nI_of (x := y) (by rw [Int32.lt_iff_toInt_lt, Int32.toInt_zero]; omega)
  obtain ⟨qz, b3, rfl⟩ := nI_of (x := z) (by rw [Int32.lt_iff_toInt_lt, Int32.toInt_zero]; omega)
  rw [nI_toInt b1, nI_toInt b3] at h4
  rw [nI_toInt b2, nI_toInt b3] at h5
  exact ⟨qx, qy, qz, rfl, rfl, rfl, by omega, by omega⟩
theorem bsd_lt {p l : Nat} (hp : p < 64) : bsd p l < 65 := by
  have : p / 2 ^ l ≤ p := Nat.div_le_self _ _
  unfold bsd
  split <;> omega
theorem bsd_last {N p : Nat} (hN : 1 ≤ N ∧ N ≤ 64) (hp : p < N) : ¬ bsd p (lvs N - 1) < nod N (lvs N - 1) := by
  have h := way_in hp (lvs N - 1)
  rw [nod_last hN] at h ⊢
  have e : p / 2 ^ (lvs N - 1) = 0 := by
    generalize p / 2 ^ (lvs N - 1) = q at h ⊢
    omega
  unfold bsd
  rw [e]
  decide
theorem prf_s (N p l : Nat) : prfN N p (l + 1) = prfN N p l + if bsd p l < nod N l then 1 else 0 := rfl
theorem prf_last {N p : Nat} (hN : 1 ≤ N ∧ N ≤ 64) (hp : p < N) : prfN N p (lvs N) = prfN N p (lvs N - 1) := by
  have h := lvs_in hN
  have e : lvs N = lvs N - 1 + 1 := by omega
  rw [e, prf_s, if_neg (bsd_last hN hp)]
  rfl
theorem prf_le (N p : Nat) : ∀ l, prfN N p l ≤ l
  | 0 => Nat.le_refl _
  | l + 1 => by
    have := prf_le N p l
    rw [prf_s]
    split <;> omega
/-- the class's search for a node beside a way: it counts up to the number wanted -/
def besY (N : Nat) (D : Nat → Int32) (p i : Nat) (y : Int32) : Nat → Nat → Nat → Int32
  | 0, _, _ => -1
  | f + 1, l, c => if bsd p l < nod N l then (if nI c = y then D (plc N l (bsd p l) + i) else besY N D p i y f (l + 1) (c + 1)) else besY N D p i y f (l + 1) c
theorem besY_neg {N : Nat} {D : Nat → Int32} {p i : Nat} {y : Int32} (hy : y < 0) : ∀ f l c, f + c < 1000 → besY N D p i y f l c = -1
  | 0, _, _, _ => rfl
  | f + 1, l, c, h => by
    have e : ¬ nI c = y := fun z => nI_pos (n := c) (by omega) (z ▸ hy)
    show (if bsd p l < nod N l then (if nI c = y then D (plc N l (bsd p l) + i) else besY N D p i y f (l + 1) (c + 1)) else besY N D p i y f (l + 1) c) = -1
    rw [if_neg e, besY_neg hy f (l + 1) (c + 1) (by omega), besY_neg hy f (l + 1) c (by omega)]
    split <;> rfl
theorem besY_pos {N : Nat} {D : Nat → Int32} {p i k : Nat} (hk : k < 2 ^ 31) : ∀ f l c, f + c < 1000 → c ≤ k → besY N D p i (nI k) f l c = besN N D p i f l (k - c)
  | 0, _, _, _, _ => rfl
  | f + 1, l, c, h, hc => by
    show (if bsd p l < nod N l then (if nI c = nI k then D (plc N l (bsd p l) + i) else besY N D p i (nI k) f (l + 1) (c + 1)) else besY N D p i (nI k) f (l + 1) c) = (if bsd p l < nod N l then (if k - c = 0 then D (plc N l (bsd p l) + i) else besN N D p i f (l + 1) (k - c - 1)) else besN N D p i f (l + 1) (k - c))
    rw [besY_pos hk f (l + 1) c (by omega) hc]
    by_cases e : c = k
    · subst e
      rw [if_pos rfl, Nat.sub_self, if_pos rfl]
    · rw [if_neg (fun z => e ((nI_eq (by omega) hk).mp z)), if_neg (show ¬ k - c = 0 by omega), besY_pos hk f (l + 1) (c + 1) (by omega) (by omega), show k - (c + 1) = k - c - 1 by omega]
theorem besN_last {N : Nat} {D : Nat → Int32} {p i : Nat} (hN : 1 ≤ N ∧ N ≤ 64) (hp : p < N) : ∀ f l k, l + f = lvs N - 1 → besN N D p i (f + 1) l k = besN N D p i f l k
  | 0, l, k, h => by
    have e : l = lvs N - 1 := by omega
    show (if bsd p l < nod N l then _ else (-1 : Int32)) = -1
    rw [e, if_neg (bsd_last hN hp)]
  | f + 1, l, k, h => by
    show (if bsd p l < nod N l then (if k = 0 then D (plc N l (bsd p l) + i) else besN N D p i (f + 1) (l + 1) (k - 1)) else besN N D p i (f + 1) (l + 1) k) = (if bsd p l < nod N l then (if k = 0 then D (plc N l (bsd p l) + i) else besN N D p i f (l + 1) (k - 1)) else besN N D p i f (l + 1) k)
    rw [besN_last hN hp f (l + 1) (k - 1) (by omega), besN_last hN hp f (l + 1) k (by omega)]
theorem besY_a {N : Nat} {D : Nat → Int32} {p i : Nat} (hN : 1 ≤ N ∧ N ≤ 64) (hp : p < N) (hi : i < 32) (y : Int32) : besY N D p i y (lvs N) 0 0 = a_bes N D (nI p) y (nI i) := by
  have hl := lvs_in hN
  unfold a_bes
  rw [if_neg (inB_nz hp (by omega)), if_neg (inB_nz hi (by decide)), nI_clamp (by omega), nI_clamp (by omega)]
  by_cases c : y < 0
  · rw [if_pos c, besY_neg c _ _ _ (by omega)]
  · obtain ⟨k, hk, rfl⟩ := nI_of c
    have e : lvs N = lvs N - 1 + 1 := by omega
    rw [if_neg c, besY_pos hk _ _ _ (by omega) (Nat.zero_le _), nI_clamp hk, Nat.sub_zero, e, besN_last hN hp _ _ _ (by omega), Nat.add_sub_cancel]
/-- what the class's survey lays: the fault of the way down to a node -/
def pth (N : Nat) (D R : Nat → Int32) : Nat → Nat → Nat → Nat
  | 0, l, k => if fltA N D R = 0 then nf N D l k else fltA N D R
  | d + 1, l, k => if pth N D R d (l + 1) (k / 2) = 0 then nf N D l k else pth N D R d (l + 1) (k / 2)
theorem fltL_s (N : Nat) (D : Nat → Int32) (p l : Nat) : fltL N D p (l + 1) = if nf N D l (p / 2 ^ l) = 0 then fltL N D p l else nf N D l (p / 2 ^ l) := by
  show (if nok N D l (p / 2 ^ l) then fltL N D p l else 3 + l) = _
  unfold nf
  by_cases c : nok N D l (p / 2 ^ l) = true
  · rw [if_pos c, if_pos c, if_pos rfl]
  · rw [if_neg c, if_neg c, if_neg (by omega)]
theorem pth_flt {N : Nat} {D R : Nat → Int32} {p : Nat} : ∀ d l, l + d + 1 = lvs N → flt N D R p = if pth N D R d l (p / 2 ^ l) = 0 then fltL N D p l else pth N D R d l (p / 2 ^ l)
  | 0, l, h => by
    unfold flt
    rw [← h, fltL_s]
    show _ = if (if fltA N D R = 0 then nf N D l (p / 2 ^ l) else fltA N D R) = 0 then fltL N D p l else (if fltA N D R = 0 then nf N D l (p / 2 ^ l) else fltA N D R)
    by_cases c : fltA N D R = 0
    · simp only [if_pos c]
    · simp only [if_neg c]
  | d + 1, l, h => by
    have ih := pth_flt (N := N) (D := D) (R := R) (p := p) d (l + 1) (by omega)
    rw [Nat.pow_succ, ← Nat.div_div_eq_div_mul] at ih
    rw [ih, fltL_s]
    show _ = if (if pth N D R d (l + 1) (p / 2 ^ l / 2) = 0 then nf N D l (p / 2 ^ l) else pth N D R d (l + 1) (p / 2 ^ l / 2)) = 0 then fltL N D p l else (if pth N D R d (l + 1) (p / 2 ^ l / 2) = 0 then nf N D l (p / 2 ^ l) else pth N D R d (l + 1) (p / 2 ^ l / 2))
    by_cases c : pth N D R d (l + 1) (p / 2 ^ l / 2) = 0
    · simp only [if_pos c]
    · simp only [if_neg c]
theorem pth_page {N : Nat} {D R : Nat → Int32} (hN : 1 ≤ N ∧ N ≤ 64) (p : Nat) : pth N D R (lvs N - 1) 0 p = flt N D R p := by
  have h := lvs_in hN
  have e := pth_flt (N := N) (D := D) (R := R) (p := p) (lvs N - 1) 0 (by omega)
  rw [Nat.pow_zero, Nat.div_one] at e
  rw [e]
  show _ = if _ = 0 then 0 else _
  split <;> omega
theorem nf_le (N : Nat) (D : Nat → Int32) (l k : Nat) : nf N D l k ≤ 3 + l := by
  unfold nf
  split <;> omega
theorem pth_le {N : Nat} {D R : Nat → Int32} : ∀ d l k, pth N D R d l k ≤ 3 + l + d
  | 0, l, k => by
    have h1 := nf_le N D l k
    have h2 := fltA_le N D R
    show (if fltA N D R = 0 then nf N D l k else fltA N D R) ≤ _
    split <;> omega
  | d + 1, l, k => by
    have h1 := nf_le N D l k
    have h2 := pth_le (N := N) (D := D) (R := R) d (l + 1) (k / 2)
    show (if pth N D R d (l + 1) (k / 2) = 0 then nf N D l k else pth N D R d (l + 1) (k / 2)) ≤ _
    split <;> omega
theorem held_s (N : Nat) (D R : Nat → Int32) (p : Nat) : heldN N D R (p + 1) = heldN N D R p + if flt N D R p = 0 then 1 else 0 := rfl
theorem dif_s (f h : Nat → Int32) (n : Nat) : difN f h (n + 1) = difN f h n + if f n = h n then 0 else 1 := rfl
theorem zl_s {zl : Nat} (h : ¬ nI zl - 1 < 0) : ∃ zm, zl = zm + 1 := by
  rcases Nat.eq_zero_or_pos zl with e | e
  · subst e
    exact absurd (show nI 0 - 1 < 0 by decide) h
  · exact ⟨zl - 1, by omega⟩
theorem zl_0 {zl : Nat} (hz : zl < 2 ^ 31) (h : nI zl - 1 < 0) : zl = 0 := by
  rcases Nat.eq_zero_or_pos zl with e | e
  · exact e
  · obtain ⟨zm, rfl⟩ : ∃ zm, zl = zm + 1 := ⟨zl - 1, by omega⟩
    rw [nI_pred] at h
    exact absurd h (nI_pos (by omega))
theorem if_z (v : Nat) : (if v = 0 then 0 else v) = v := by split <;> omega
theorem besY_s (N : Nat) (D : Nat → Int32) (p i : Nat) (y : Int32) (f l c : Nat) : besY N D p i y (f + 1) l c = if bsd p l < nod N l then (if nI c = y then D (plc N l (bsd p l) + i) else besY N D p i y f (l + 1) (c + 1)) else besY N D p i y f (l + 1) c := rfl
theorem fst_s (N : Nat) (D R : Nat → Int32) (k p : Nat) : fstN N D R (k + 1) p = if flt N D R p = 0 then fstN N D R k (p + 1) else nI p := rfl
theorem fa_65 {x : Int32} (h : 64 < x) : nI 65 ≤ x := by
  rw [Int32.lt_iff_toInt_lt, show (64 : Int32).toInt = 64 from rfl] at h
  rw [Int32.le_iff_toInt_le, nI_toInt (by decide)]
  omega
theorem fa_66 {x : Int32} (h : nI 65 ≤ x) : 64 < x := by
  rw [Int32.le_iff_toInt_le, nI_toInt (by decide)] at h
  rw [Int32.lt_iff_toInt_lt, show (64 : Int32).toInt = 64 from rfl]
  omega
theorem ahd_mono (N : Nat) {l m : Nat} (h : l ≤ m) : ahd N l ≤ ahd N m := by
  induction h with
  | refl => exact Nat.le_refl _
  | step _ ih => exact Nat.le_trans ih (Nat.le_add_right _ _)
