/-! what each call answers and changes, as functions: the same for the class and for the reference -/
def inB (x : Int32) (n : Nat) : Int32 := if 0 ≤ x.toInt ∧ x.toInt < n then 1 else 0
theorem inB_t {x : Int32} {n : Nat} (hn : n < 2 ^ 31) (h1 : ¬ x < 0) (h2 : ¬ nI n ≤ x) : inB x n = 1 := by
  rw [Int32.lt_iff_toInt_lt, Int32.toInt_zero] at h1
  rw [Int32.le_iff_toInt_le, nI_toInt hn] at h2
  unfold inB
  rw [if_pos (by omega)]
theorem inB_f1 {x : Int32} {n : Nat} (h1 : x < 0) : inB x n = 0 := by
  rw [Int32.lt_iff_toInt_lt, Int32.toInt_zero] at h1
  unfold inB
  rw [if_neg (by omega)]
theorem inB_f2 {x : Int32} {n : Nat} (hn : n < 2 ^ 31) (h2 : nI n ≤ x) : inB x n = 0 := by
  rw [Int32.le_iff_toInt_le, nI_toInt hn] at h2
  unfold inB
  rw [if_neg (by omega)]
theorem inB_1 {x : Int32} {n : Nat} (hn : n < 2 ^ 31) (h : ¬ inB x n = 0) : ∃ j : Nat, j < n ∧ x = nI j := by
  unfold inB at h
  by_cases c : 0 ≤ x.toInt ∧ x.toInt < n
  · exact vp_in_of (vp_in_iff.mpr c) hn
  · rw [if_neg c] at h
    exact absurd rfl h
theorem inB_n {j n : Nat} (hj : j < 2 ^ 31) : inB (nI j) n = if j < n then 1 else 0 := by
  unfold inB
  rw [nI_toInt hj]
  by_cases c : j < n
  · rw [if_pos c, if_pos (by omega)]
  · rw [if_neg c, if_neg (by omega)]
theorem inB_y {j n : Nat} (hj : j < n) (hn : n < 2 ^ 31) : inB (nI j) n = 1 := by rw [inB_n (by omega), if_pos hj]
theorem inB_nz {j n : Nat} (hj : j < n) (hn : n < 2 ^ 31) : ¬ inB (nI j) n = 0 := by rw [inB_y hj hn]; decide
theorem inB_01 (x : Int32) (n : Nat) : inB x n = 0 ∨ inB x n = 1 := by
  unfold inB
  split
  · exact Or.inr rfl
  · exact Or.inl rfl
theorem inB_z (x : Int32) (n : Nat) : narrow .boolean (.int (inB x n)) = .int (inB x n) := by
  rcases inB_01 x n with h | h <;> rw [h] <;> rfl
def inN (N : Nat) (x y : Int32) : Int32 := if inB x (lvs N) = 0 then 0 else inB y (nod N x.toNatClampNeg)
theorem inN_n {N l k : Nat} (hN : 1 ≤ N ∧ N ≤ 64) (hl : l < lvs N) (hk : k < 2 ^ 31) : inN N (nI l) (nI k) = if k < nod N l then 1 else 0 := by
  have h := lvs_in hN
  unfold inN
  rw [if_neg (inB_nz hl (by omega)), nI_clamp (by omega), inB_n hk]
theorem inN_o {N l : Nat} (hN : 1 ≤ N ∧ N ≤ 64) (hl : l < lvs N) (y : Int32) : inN N (nI l) y = inB y (nod N l) := by
  have h := lvs_in hN
  unfold inN
  rw [if_neg (inB_nz hl (by omega)), nI_clamp (by omega)]
theorem inN_0 {N : Nat} {x y : Int32} (h : inB x (lvs N) = 0) : inN N x y = 0 := by unfold inN; rw [if_pos h]
theorem inN_1 {N : Nat} {x y : Int32} (hN : 1 ≤ N ∧ N ≤ 64) (h : ¬ inN N x y = 0) : ∃ l k : Nat, l < lvs N ∧ k < nod N l ∧ x = nI l ∧ y = nI k := by
  have h1 := lvs_in hN
  by_cases c : inB x (lvs N) = 0
  · exact absurd (inN_0 c) h
  · obtain ⟨l, hl, rfl⟩ := inB_1 (by omega) c
    rw [inN_o hN hl] at h
    have h2 := nod_le N hN.1 l
    obtain ⟨k, hk, rfl⟩ := inB_1 (by omega) h
    exact ⟨l, k, hl, hk, rfl, rfl⟩
theorem inN_y {N l k : Nat} (hN : 1 ≤ N ∧ N ≤ 64) (hl : l < lvs N) (hk : k < nod N l) : ¬ inN N (nI l) (nI k) = 0 := by
  have h2 := nod_le N hN.1 l
  rw [inN_n hN hl (by omega), if_pos hk]
  decide
theorem inN_z (N : Nat) (x y : Int32) : narrow .boolean (.int (inN N x y)) = .int (inN N x y) := by
  unfold inN
  split
  · rfl
  · exact inB_z _ _
def a_put (F : Nat → Int32) (x : Int32) : Int32 := if inB x 64 = 0 then -1 else F x.toNatClampNeg
def s_put (F : Nat → Int32) (x v : Int32) : Nat → Int32 := if inB x 64 = 0 then F else upd F x.toNatClampNeg (v &&& 255)
def a_fill (x : Int32) : Int32 := if inB x 8 = 0 then -1 else nI (8 * x.toNatClampNeg)
def s_fill (F : Nat → Int32) (x : Int32) (v : Int64) : Nat → Int32 := if inB x 8 = 0 then F else filN F x.toNatClampNeg v 8
def a_at (F : Nat → Int32) (n : Nat) (x : Int32) : Int32 := if inB x n = 0 then -1 else F x.toNatClampNeg
def a_flt (N : Nat) (D R : Nat → Int32) (x : Int32) : Int32 := if inB x N = 0 then -1 else nI (flt N D R x.toNatClampNeg)
def s_rdF (N : Nat) (D R F : Nat → Int32) (x : Int32) : Nat → Int32 := if a_flt N D R x = 0 then va_cpy D F (8 + 64 * x.toNatClampNeg) 0 64 else F
def s_inc (N : Nat) (D R : Nat → Int32) (x n : Int32) : Int32 := if a_flt N D R x = 0 then n + 1 else n
def s_ft (N : Nat) (D R : Nat → Int32) (x n : Int32) : Int32 := if a_flt N D R x = 0 then n else if a_flt N D R x = -1 then n else n + 1
def s_wrD (N : Nat) (D R F : Nat → Int32) (x : Int32) : Nat → Int32 := if a_flt N D R x = 0 then sWay N (va_cpy F D 0 (8 + 64 * x.toNatClampNeg) 64) x.toNatClampNeg (lvs N) else D
def s_wrR (N : Nat) (D R F : Nat → Int32) (x : Int32) : Nat → Int32 := if a_flt N D R x = 0 then sRoot N (sWay N (va_cpy F D 0 (8 + 64 * x.toNatClampNeg) 64) x.toNatClampNeg (lvs N)) R else R
def s_alt (N : Nat) (D : Nat → Int32) (x v : Int32) : Nat → Int32 := if inB x (siz N) = 0 then D else upd D x.toNatClampNeg (D x.toNatClampNeg ^^^ (v &&& 255))
def carOk (N : Nat) (x y z : Int32) : Prop := 0 ≤ z.toInt ∧ 0 ≤ x.toInt ∧ 0 ≤ y.toInt ∧ x.toInt + z.toInt ≤ siz N ∧ y.toInt + z.toInt ≤ siz N
theorem carOk_dec (N : Nat) (x y z : Int32) : carOk N x y z ∨ ¬ carOk N x y z := by
  unfold carOk
  omega
def carB (N : Nat) (x y z : Int32) : Bool := decide (0 ≤ z.toInt) && decide (0 ≤ x.toInt) && decide (0 ≤ y.toInt) && decide (x.toInt + z.toInt ≤ siz N) && decide (y.toInt + z.toInt ≤ siz N)
theorem carB_iff (N : Nat) (x y z : Int32) : carB N x y z = true ↔ carOk N x y z := by
  unfold carB carOk
  simp only [Bool.and_eq_true, decide_eq_true_eq]
  constructor
  · rintro ⟨⟨⟨⟨h1, h2⟩, h3⟩, h4⟩, h5⟩
    exact ⟨h1, h2, h3, h4, h5⟩
  · rintro ⟨h1, h2, h3, h4, h5⟩
    exact ⟨⟨⟨⟨h1, h2⟩, h3⟩, h4⟩, h5⟩
def a_car (N : Nat) (x y z : Int32) : Int32 := if carB N x y z = true then z else -1
def s_car (N : Nat) (D : Nat → Int32) (x y z : Int32) : Nat → Int32 := if carB N x y z = true then va_cpy D D x.toNatClampNeg y.toNatClampNeg z.toNatClampNeg else D
def a_node (N : Nat) (x y : Int32) : Int32 := if inN N x y = 0 then -1 else nI (plc N x.toNatClampNeg y.toNatClampNeg)
def a_prf (N : Nat) (x : Int32) : Int32 := if inB x N = 0 then -1 else nI (prfN N x.toNatClampNeg (lvs N - 1))
def a_bes (N : Nat) (D : Nat → Int32) (x y z : Int32) : Int32 := if inB x N = 0 then -1 else if inB z 32 = 0 then -1 else if y < 0 then -1 else besN N D x.toNatClampNeg z.toNatClampNeg (lvs N - 1) 0 y.toNatClampNeg
def a_bak (N : Nat) (D KD : Nat → Int32) (kp : Int32) : Int32 := if kp = 0 then -1 else nI (difN D KD (siz N))
def s_bak (N : Nat) (D KD : Nat → Int32) (kp : Int32) : Nat → Int32 := if kp = 0 then D else va_cpy KD D 0 0 (siz N)
def s_opn (R KR : Nat → Int32) (kp : Int32) : Nat → Int32 := if kp = 0 then R else va_cpy KR R 0 0 32
def a_hsh (F : Nat → Int32) (x y : Int32) : Int32 := if inB x 65 = 0 then -1 else if inB y 32 = 0 then -1 else sha F x.toNatClampNeg y.toNatClampNeg
def a_told (N : Nat) (rd wr ft x : Int32) : Int32 := if x = 0 then nI N else if x = 1 then rd else if x = 2 then wr else if x = 3 then ft else -1
theorem a_at_0 {F : Nat → Int32} {n : Nat} {x : Int32} (h : inB x n = 0) : a_at F n x = -1 := by unfold a_at; rw [if_pos h]
theorem a_at_1 {F : Nat → Int32} {n j : Nat} (hj : j < n) (hn : n < 2 ^ 31) : a_at F n (nI j) = F j := by unfold a_at; rw [if_neg (inB_nz hj hn), nI_clamp (by omega)]
theorem a_flt_0 {N : Nat} {D R : Nat → Int32} {x : Int32} (h : inB x N = 0) : a_flt N D R x = -1 := by unfold a_flt; rw [if_pos h]
theorem a_flt_1 {N : Nat} {D R : Nat → Int32} {j : Nat} (hN : 1 ≤ N ∧ N ≤ 64) (hj : j < N) : a_flt N D R (nI j) = nI (flt N D R j) := by unfold a_flt; rw [if_neg (inB_nz hj (by omega)), nI_clamp (by omega)]
/-! rows for the walks of the class's methods -/
theorem hby_ag {st st' : Nat → Int32} (h : ag 8 st st') : ag 32 (hby st) (hby st') := by
  intro i hi
  unfold hby
  rw [h (i / 4) (by omega)]
theorem dec_1 (x : Int32) : x + Int32.ofInt (-1) = x - 1 := by
  rw [Int32.sub_eq_add_neg]
  rfl
theorem cpy_hC (SU : Nat → Int32) : ag 8 (va_cpy hC SU 0 0 8) hC := fun j hj => by rw [pk_cpy_in (by omega) (by omega)]; congr 1; omega
theorem msg_0 {D : Nat → Int32} {ql qk bs len : Nat} (h : 2 ≤ len) : pad (nmsg D ql qk bs) len 0 = nI ql := by rw [pad_in _ (by omega)]; rfl
theorem msg_1 {D : Nat → Int32} {ql qk bs len : Nat} (h : 2 ≤ len) : pad (nmsg D ql qk bs) len (0 + 1) = nI qk := by rw [pad_in _ (by omega)]; rfl
theorem msg_2 {D : Nat → Int32} {ql qk bs len q : Nat} (h : 2 + q < len) : pad (nmsg D ql qk bs) len (0 + 1 + 1 + q) = D (bs + q) := by
  rw [pad_in _ (by omega)]
  unfold nmsg
  rw [if_neg (by omega), if_neg (by omega)]
  congr 1
  omega
theorem nlen_0 (N qk : Nat) : nlen N 0 qk = 66 := rfl
theorem nlen_in (N ql qk : Nat) : nlen N ql qk = 66 ∨ nlen N ql qk = 34 := by
  unfold nlen
  split
  · exact Or.inl rfl
  · split
    · exact Or.inl rfl
    · exact Or.inr rfl
theorem nlen_2 {N ql qk : Nat} (h0 : ¬ ql = 0) (h : 2 * qk + 1 < nod N (ql - 1)) : nlen N ql qk = 66 := by unfold nlen; rw [if_neg h0, if_pos h]
theorem nlen_1 {N ql qk : Nat} (h0 : ¬ ql = 0) (h : ¬ 2 * qk + 1 < nod N (ql - 1)) : nlen N ql qk = 34 := by unfold nlen; rw [if_neg h0, if_neg h]
theorem nbas_0 (N qk : Nat) : nbas N 0 qk = 8 + 64 * qk := rfl
theorem nbas_1 {N ql qk : Nat} (h0 : ¬ ql = 0) : nbas N ql qk = plc N (ql - 1) (2 * qk) := by unfold nbas; rw [if_neg h0]
/-- the nodes below a node lie on the disk -/
theorem below_in {N ql qk : Nat} (hN : 1 ≤ N ∧ N ≤ 64) (h0 : ¬ ql = 0) (hl : ql < lvs N) (hk : qk < nod N ql) : 2 * qk < nod N (ql - 1) ∧ plc N (ql - 1) (2 * qk) + 32 ≤ siz N ∧ (2 * qk + 1 < nod N (ql - 1) → plc N (ql - 1) (2 * qk) + 64 ≤ siz N) := by
  obtain ⟨zl, rfl⟩ : ∃ zl, ql = zl + 1 := ⟨ql - 1, by omega⟩
  rw [Nat.add_sub_cancel]
  rw [nod_s] at hk
  have h1 : 2 * qk < nod N zl := by omega
  refine ⟨h1, plc_in hN (by omega) h1, fun h2 => ?_⟩
  have h3 := plc_in hN (show zl < lvs N by omega) h2
  unfold plc at h3 ⊢
  omega
theorem page_in {N p : Nat} (hp : p < N) : 8 + 64 * p + 64 ≤ siz N := by
  unfold siz
  omega
theorem rmsg_a {N : Nat} {D : Nat → Int32} {q : Nat} (h : q < 8) : pad (rmsg N D) 40 (0 + q) = D (0 + q) := by
  rw [pad_in _ (by omega)]
  unfold rmsg
  rw [if_pos (by omega)]
theorem rmsg_b {N : Nat} {D : Nat → Int32} {q : Nat} (h : q < 32) : pad (rmsg N D) 40 (0 + 8 + q) = D (plc N (lvs N - 1) 0 + q) := by
  rw [pad_in _ (by omega)]
  unfold rmsg
  rw [if_neg (by omega)]
  congr 1
  omega
theorem fltA_1 {N : Nat} {D R : Nat → Int32} (h : hok N D = false) : fltA N D R = 1 := by unfold fltA; rw [h]; rfl
theorem fltA_b {N : Nat} {D R : Nat → Int32} (h : hok N D = true) : fltA N D R = if rok N D R = true then 0 else 2 := by unfold fltA; rw [if_pos h]
def nf (N : Nat) (D : Nat → Int32) (l k : Nat) : Nat := if nok N D l k = true then 0 else 3 + l
theorem bI_0 {b : Bool} (h : bI b = 0) : b = false := by cases b with | false => rfl | true => exact absurd h (by decide)
theorem bI_1 {b : Bool} (h : ¬ bI b = 0) : b = true := by cases b with | true => rfl | false => exact absurd rfl h
theorem xor1 : ∀ q, q < 65 → q ^^^ 1 = if q % 2 = 0 then q + 1 else q - 1 := by decide +kernel
theorem sw_out {x : Int32} (h0 : ¬ x = 0) (h1 : ¬ x = 1) (h2 : ¬ x = 2) (h3 : ¬ x = 3) : x.toInt < 0 ∨ 3 < x.toInt := by
  have z0 : ¬ x.toInt = 0 := lv_neT h0 rfl
  have z1 : ¬ x.toInt = 1 := lv_neT h1 rfl
  have z2 : ¬ x.toInt = 2 := lv_neT h2 rfl
  have z3 : ¬ x.toInt = 3 := lv_neT h3 rfl
  omega
