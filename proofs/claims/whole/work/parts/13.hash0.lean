/-! the class's hasher: rows for its walk -/
theorem r_7 (x : Int32) : rot x 7 = us x 7 ||| sl x 25 := by unfold rot; rw [show (32 : Int32) - 7 = 25 from by decide]
theorem r_18 (x : Int32) : rot x 18 = us x 18 ||| sl x 14 := by unfold rot; rw [show (32 : Int32) - 18 = 14 from by decide]
theorem r_17 (x : Int32) : rot x 17 = us x 17 ||| sl x 15 := by unfold rot; rw [show (32 : Int32) - 17 = 15 from by decide]
theorem r_19 (x : Int32) : rot x 19 = us x 19 ||| sl x 13 := by unfold rot; rw [show (32 : Int32) - 19 = 13 from by decide]
theorem r_6 (x : Int32) : rot x 6 = us x 6 ||| sl x 26 := by unfold rot; rw [show (32 : Int32) - 6 = 26 from by decide]
theorem r_11 (x : Int32) : rot x 11 = us x 11 ||| sl x 21 := by unfold rot; rw [show (32 : Int32) - 11 = 21 from by decide]
theorem r_25 (x : Int32) : rot x 25 = us x 25 ||| sl x 7 := by unfold rot; rw [show (32 : Int32) - 25 = 7 from by decide]
theorem r_2 (x : Int32) : rot x 2 = us x 2 ||| sl x 30 := by unfold rot; rw [show (32 : Int32) - 2 = 30 from by decide]
theorem r_13 (x : Int32) : rot x 13 = us x 13 ||| sl x 19 := by unfold rot; rw [show (32 : Int32) - 13 = 19 from by decide]
theorem r_22 (x : Int32) : rot x 22 = us x 22 ||| sl x 10 := by unfold rot; rw [show (32 : Int32) - 22 = 10 from by decide]
theorem spr_s (w : Nat → Int32) (k : Nat) : spr w (k + 1) = upd (spr w k) (16 + k) (sprS (spr w k) (16 + k)) := rfl
def zrs (L : Nat) : Nat := 64 * nbk L - 9 - L
theorem zrs_eq : ∀ L, L < 67 → (56 - nI (L + 1)) &&& 63 = nI (zrs L) := by decide +kernel
theorem zrs_lt : ∀ L, L < 67 → zrs L < 64 ∧ L + 1 + zrs L + 8 = 64 * nbk L := by decide +kernel
theorem fin_b : ∀ L, L < 67 → ∀ i, i < 8 → (lus (8 * (nI L).toInt64) (nI (56 - 8 * i))).toInt32 &&& 255 = nI (8 * L / 256 ^ (7 - i)) &&& 255 := by decide +kernel
theorem pad_128 (m : Nat → Int32) (L : Nat) : pad m L L = 128 := by unfold pad; rw [if_neg (by omega), if_pos rfl]
theorem pad_0 (m : Nat → Int32) {L i : Nat} (h1 : L < i) (h2 : i < 64 * nbk L - 8) : pad m L i = 0 := by unfold pad; rw [if_neg (by omega), if_neg (by omega), if_pos h2]
theorem pad_e (m : Nat → Int32) {L i : Nat} (hL : L < 67) (hi : i < 8) : pad m L (L + 1 + zrs L + i) = nI (8 * L / 256 ^ (7 - i)) := by
  have h := zrs_lt L hL
  unfold pad
  rw [if_neg (by omega), if_neg (by omega), if_neg (by omega), show 64 * nbk L - 1 - (L + 1 + zrs L + i) = 7 - i by omega]
theorem pad_in (m : Nat → Int32) {L i : Nat} (h : i < L) : pad m L i = m i := by unfold pad; rw [if_pos h]
