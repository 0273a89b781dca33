/-! rows for the walks of the reference -/
def Mrow (f RW : Nat → Int32) (L : Nat) : Prop := ∀ q, q < L → RW q = f q &&& 255
theorem Mrow_0 (f RW : Nat → Int32) : Mrow f RW 0 := fun q h => absurd h (Nat.not_lt_zero _)
theorem Mrow_s {f RW : Nat → Int32} {L : Nat} {b : Int32} (h : Mrow f RW L) (hb : b &&& 255 = f L &&& 255) : Mrow f (upd RW L (b &&& 255)) (L + 1) := by
  intro q hq
  by_cases e : q = L
  · subst e
    rw [pk_us, hb]
  · rw [pk_un e]
    exact h q (by omega)
def shf (v : Nat → Int32) (k : Nat) : Nat → Int32 := fun j => if k < j ∧ j ≤ 7 then v (j - 1) else v j
theorem shf_s {v : Nat → Int32} {k : Nat} (h1 : 0 < k) (h2 : k ≤ 7) : upd (shf v k) k (shf v k (k - 1)) = shf v (k - 1) := by
  funext j
  unfold upd shf
  by_cases e : j = k
  · subst e
    rw [if_pos rfl, if_neg (by omega), if_pos (by omega)]
  · rw [if_neg e]
    by_cases q : k < j ∧ j ≤ 7
    · rw [if_pos q, if_pos (by omega)]
    · rw [if_neg q, if_neg (by omega)]
theorem fin_m : ∀ L, L < 67 → ∀ k, k < 8 → 4 ≤ k → us (nI (8 * L)) (nI (24 - 8 * (k - 4))) &&& 255 = nI (8 * L / 256 ^ (7 - k)) &&& 255 := by decide +kernel
theorem fin_0 : ∀ L, L < 67 → ∀ k, k < 4 → (0 : Int32) &&& 255 = nI (8 * L / 256 ^ (7 - k)) &&& 255 := by decide +kernel
theorem bI_z (b : Bool) : narrow .boolean (.int (bI b)) = .int (bI b) := by cases b <;> rfl
theorem flt_0 {N : Nat} {D R : Nat → Int32} (p : Nat) (h1 : hok N D = true) (h2 : rok N D R = true) : flt N D R p = fltL N D p (lvs N) := by
  have e : fltA N D R = 0 := by rw [fltA_b h1, if_pos h2]
  unfold flt
  rw [if_pos e]
theorem flt_1 {N : Nat} {D R : Nat → Int32} (p : Nat) (h1 : hok N D = false) : flt N D R p = 1 := by
  have e : fltA N D R = 1 := fltA_1 h1
  unfold flt
  rw [e]
  rfl
theorem flt_2 {N : Nat} {D R : Nat → Int32} (p : Nat) (h1 : hok N D = true) (h2 : rok N D R = false) : flt N D R p = 2 := by
  have e : fltA N D R = 2 := by rw [fltA_b h1, h2]; rfl
  unfold flt
  rw [e]
  rfl
def bsdI (N p l : Nat) : Int32 := if bsd p l < nod N l then nI (bsd p l) else -1
theorem mix_fin {ST W0 WK f : Nat → Int32} {b0 : Nat} (h1 : ag 16 W0 (fun i => wrd f (b0 + 4 * i))) (h2 : ag 8 WK (rnds ST (spr W0 48) 64)) : ag 8 (va_cpy (fun j => ST j + WK j) ST 0 0 8) (cmp ST (spr (fun i => wrd f (b0 + 4 * i)) 48)) := by
  intro j hj
  rw [pk_cpy_in (by omega) (by omega)]
  show ST (0 + (j - 0)) + WK (0 + (j - 0)) = _
  rw [show 0 + (j - 0) = j by omega, h2 j hj, rnds_ag ag_rf (spr_ag h1 48) 64 (Nat.le_refl _) j hj]
  rfl
theorem lvs_is {N j : Nat} (hN : 1 ≤ N ∧ N ≤ 64) (hj : j + 1 ≤ lvs N) (h : nod N j ≤ 1) : j + 1 = lvs N := by
  rcases Nat.lt_or_ge (j + 1) (lvs N) with q | q
  · have := nod_two hN q
    omega
  · omega
theorem lvs_no {N j : Nat} (hN : 1 ≤ N ∧ N ≤ 64) (hj : j + 1 ≤ lvs N) (h : ¬ nod N j ≤ 1) : j + 1 + 1 ≤ lvs N := by
  rcases Nat.lt_or_ge (j + 1) (lvs N) with q | q
  · omega
  · have h2 := nod_last hN
    rw [show lvs N - 1 = j by omega] at h2
    omega
theorem nl_q {N ql qk q : Nat} (h0 : ¬ ql = 0) (hq : q ≤ 1) (h : 2 * qk + q < nod N (ql - 1)) : 2 + 32 * (q + 1) ≤ nlen N ql qk := by
  rcases (show q = 0 ∨ q = 1 by omega) with e | e
  · have := nlen_in N ql qk
    omega
  · rw [nlen_2 h0 (by omega)]
    omega
