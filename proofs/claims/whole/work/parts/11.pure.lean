/-! the mathematics: one value for the class and for the reference -/
def us (x n : Int32) : Int32 := (x.toUInt32 >>> (n.toUInt32 &&& Int32.toUInt32 31)).toInt32
def sl (x n : Int32) : Int32 := x <<< (n &&& 31)
def lus (x : Int64) (n : Int32) : Int64 := (x.toUInt64 >>> (n.toInt64.toUInt64 &&& Int64.toUInt64 63)).toInt64
def lsl (x : Int64) (n : Int32) : Int64 := x <<< (n.toInt64 &&& 63)
def rot (x n : Int32) : Int32 := us x n ||| sl x (32 - n)
def sg0 (x : Int32) : Int32 := rot x 7 ^^^ rot x 18 ^^^ us x 3
def sg1 (y : Int32) : Int32 := rot y 17 ^^^ rot y 19 ^^^ us y 10
def sprS (w : Nat → Int32) (t : Nat) : Int32 := w (t - 16) + sg0 (w (t - 15)) + w (t - 7) + sg1 (w (t - 2))
def spr (w : Nat → Int32) : Nat → (Nat → Int32)
  | 0 => w
  | k + 1 => upd (spr w k) (16 + k) (sprS (spr w k) (16 + k))
def rT1 (v : Nat → Int32) (k w : Int32) : Int32 := v 7 + (rot (v 4) 6 ^^^ rot (v 4) 11 ^^^ rot (v 4) 25) + ((v 4 &&& v 5) ^^^ ((v 4 ^^^ (-1)) &&& v 6)) + k + w
def rT2 (v : Nat → Int32) : Int32 := (rot (v 0) 2 ^^^ rot (v 0) 13 ^^^ rot (v 0) 22) + ((v 0 &&& v 1) ^^^ (v 0 &&& v 2) ^^^ (v 1 &&& v 2))
def rnd (v : Nat → Int32) (k w : Int32) : Nat → Int32 := fun j => if j = 0 then rT1 v k w + rT2 v else if j = 4 then v 3 + rT1 v k w else v (j - 1)
def rnds (v w : Nat → Int32) : Nat → (Nat → Int32)
  | 0 => v
  | t + 1 => rnd (rnds v w t) (kC t) (w t)
def cmp (su w : Nat → Int32) : Nat → Int32 := fun j => su j + rnds su w 64 j
def wrd (f : Nat → Int32) (b : Nat) : Int32 := sl (f b &&& 255) 24 ||| sl (f (b + 1) &&& 255) 16 ||| sl (f (b + 2) &&& 255) 8 ||| (f (b + 3) &&& 255)
def blk (f : Nat → Int32) : Nat → (Nat → Int32)
  | 0 => hC
  | n + 1 => cmp (blk f n) (spr (fun i => wrd f (64 * n + 4 * i)) 48)
def hby (st : Nat → Int32) (i : Nat) : Int32 := us (st (i / 4)) (nI (24 - 8 * (i % 4))) &&& 255
def nbk (L : Nat) : Nat := (L + 72) / 64
def pad (m : Nat → Int32) (L : Nat) : Nat → Int32 := fun i => if i < L then m i else if i = L then 128 else if i < 64 * nbk L - 8 then 0 else nI (8 * L / 256 ^ (64 * nbk L - 1 - i))
def sha (m : Nat → Int32) (L : Nat) : Nat → Int32 := hby (blk (pad m L) (nbk L))
/-! agreement on the first places -/
def ag (n : Nat) (f h : Nat → Int32) : Prop := ∀ j, j < n → f j = h j
theorem ag_rf {n : Nat} {f : Nat → Int32} : ag n f f := fun _ _ => rfl
theorem ag_sy {n : Nat} {f h : Nat → Int32} (a : ag n f h) : ag n h f := fun j hj => (a j hj).symm
theorem ag_tr {n : Nat} {f h k : Nat → Int32} (a : ag n f h) (b : ag n h k) : ag n f k := fun j hj => (a j hj).trans (b j hj)
theorem ag_le {n m : Nat} {f h : Nat → Int32} (a : ag n f h) (hm : m ≤ n) : ag m f h := fun j hj => a j (Nat.lt_of_lt_of_le hj hm)
theorem spr_ag {w w' : Nat → Int32} (h : ag 16 w w') : ∀ k, ag (16 + k) (spr w k) (spr w' k)
  | 0 => h
  | k + 1 => by
    have ih := spr_ag h k
    intro j hj
    show upd (spr w k) (16 + k) (sprS (spr w k) (16 + k)) j = upd (spr w' k) (16 + k) (sprS (spr w' k) (16 + k)) j
    by_cases e : j = 16 + k
    · subst e
      rw [pk_us, pk_us]
      unfold sprS
      rw [ih _ (show 16 + k - 16 < 16 + k by omega), ih _ (show 16 + k - 15 < 16 + k by omega), ih _ (show 16 + k - 7 < 16 + k by omega), ih _ (show 16 + k - 2 < 16 + k by omega)]
    · rw [pk_un e, pk_un e]
      exact ih j (by omega)
theorem rnd_ag {v v' : Nat → Int32} (h : ag 8 v v') (k w : Int32) : ag 8 (rnd v k w) (rnd v' k w) := by
  have e1 : rT1 v k w = rT1 v' k w := by
    unfold rT1
    rw [h 7 (by omega), h 4 (by omega), h 5 (by omega), h 6 (by omega)]
  have e2 : rT2 v = rT2 v' := by
    unfold rT2
    rw [h 0 (by omega), h 1 (by omega), h 2 (by omega)]
  intro j hj
  unfold rnd
  rw [e1, e2, h 3 (by omega), h (j - 1) (by omega)]
theorem rnds_ag {v v' w w' : Nat → Int32} (hv : ag 8 v v') (hw : ag 64 w w') : ∀ t, t ≤ 64 → ag 8 (rnds v w t) (rnds v' w' t)
  | 0, _ => hv
  | t + 1, ht => by
    show ag 8 (rnd (rnds v w t) (kC t) (w t)) (rnd (rnds v' w' t) (kC t) (w' t))
    rw [hw t (by omega)]
    exact rnd_ag (rnds_ag hv hw t (by omega)) _ _
theorem cmp_ag {v v' w w' : Nat → Int32} (hv : ag 8 v v') (hw : ag 64 w w') : ag 8 (cmp v w) (cmp v' w') := by
  intro j hj
  unfold cmp
  rw [hv j hj, rnds_ag hv hw 64 (Nat.le_refl _) j hj]
theorem wrd_ag {f h : Nat → Int32} {b : Nat} (a : ∀ j, j < 4 → f (b + j) &&& 255 = h (b + j) &&& 255) : wrd f b = wrd h b := by
  have a0 := a 0 (by omega)
  have a1 := a 1 (by omega)
  have a2 := a 2 (by omega)
  have a3 := a 3 (by omega)
  unfold wrd
  rw [Nat.add_zero] at a0
  rw [a0, a1, a2, a3]
/-! a word out of four bytes, pushed in one behind another -/
def prt (old : Int32) (f : Nat → Int32) (b : Nat) : Nat → Int32
  | 0 => old
  | r + 1 => sl (prt old f b r) 8 ||| (f (b + r) &&& 255)
theorem bt_sl (n : Nat) (hn : n < 32) (x : Int32) {i : Nat} (hi : i < 32) : bt (sl x (nI n)) i = (decide (n ≤ i) && bt x (i - n)) := b_shl n hn x hi
theorem prt4 (old : Int32) (f : Nat → Int32) (b : Nat) : prt old f b 4 = wrd f b := by
  show sl (sl (sl (sl old 8 ||| (f (b + 0) &&& 255)) 8 ||| (f (b + 1) &&& 255)) 8 ||| (f (b + 2) &&& 255)) 8 ||| (f (b + 3) &&& 255) = _
  unfold wrd
  apply b_ext
  intro i hi
  have s8 : ∀ (x : Int32) {i : Nat}, i < 32 → bt (sl x 8) i = (decide (8 ≤ i) && bt x (i - 8)) := fun x _ h => bt_sl 8 (by omega) x h
  have s16 : ∀ (x : Int32) {i : Nat}, i < 32 → bt (sl x 16) i = (decide (16 ≤ i) && bt x (i - 16)) := fun x _ h => bt_sl 16 (by omega) x h
  have s24 : ∀ (x : Int32) {i : Nat}, i < 32 → bt (sl x 24) i = (decide (24 ≤ i) && bt x (i - 24)) := fun x _ h => bt_sl 24 (by omega) x h
  rw [b_or, b_or, b_or, b_or, s8 _ hi, s8 _ hi, s16 _ hi, s24 _ hi, b_or, s8 _ (show i - 8 < 32 by omega), b_or, s8 _ (show i - 8 - 8 < 32 by omega), b_or, s8 _ (show i - 8 - 8 - 8 < 32 by omega)]
  simp only [b_and, b_255, Nat.add_zero]
  have e1 : i - 8 - 8 = i - 16 := by omega
  have e2 : i - 16 - 8 = i - 24 := by omega
  rw [e1, e2]
  rcases (show i < 8 ∨ (8 ≤ i ∧ i < 16) ∨ (16 ≤ i ∧ i < 24) ∨ 24 ≤ i by omega) with h | h | h | h
  · simp [show ¬ 8 ≤ i by omega, show ¬ 16 ≤ i by omega, show ¬ 24 ≤ i by omega]
  · simp [show 8 ≤ i by omega, show ¬ 16 ≤ i by omega, show ¬ 24 ≤ i by omega, show ¬ i < 8 by omega, show ¬ 8 ≤ i - 8 by omega]
  · simp [show 8 ≤ i by omega, show 16 ≤ i by omega, show ¬ 24 ≤ i by omega, show ¬ i < 8 by omega, show 8 ≤ i - 8 by omega, show ¬ i - 8 < 8 by omega, show ¬ 8 ≤ i - 16 by omega]
  · simp [show 8 ≤ i by omega, show 16 ≤ i by omega, show 24 ≤ i by omega, show ¬ i < 8 by omega, show 8 ≤ i - 8 by omega, show ¬ i - 8 < 8 by omega, show 8 ≤ i - 16 by omega, show ¬ i - 16 < 8 by omega, show ¬ i - 24 - 8 = 99 by omega, show ¬ 8 ≤ i - 24 by omega]
/-- the class's hasher behind L bytes of f -/
def Str (f SU WO : Nat → Int32) (L : Nat) : Prop := ag 8 SU (blk f (L / 64)) ∧ (∀ i, i < L % 64 / 4 → WO i = wrd f (64 * (L / 64) + 4 * i)) ∧ ∃ old, WO (L % 64 / 4) = prt old f (64 * (L / 64) + 4 * (L % 64 / 4)) (L % 4)
theorem Str0 {f SU WO : Nat → Int32} (h : ag 8 SU hC) : Str f SU WO 0 := ⟨h, fun i hi => absurd hi (by omega), WO 0, rfl⟩
theorem Str_word {f SU WO : Nat → Int32} {L : Nat} {b : Int32} (h : Str f SU WO L) (hb : b &&& 255 = f L &&& 255) : ∃ old, sl (WO (L % 64 / 4)) 8 ||| (b &&& 255) = prt old f (64 * (L / 64) + 4 * (L % 64 / 4)) (L % 4 + 1) := by
  obtain ⟨-, -, old, ho⟩ := h
  refine ⟨old, ?_⟩
  show _ = sl (prt old f _ (L % 4)) 8 ||| (f (64 * (L / 64) + 4 * (L % 64 / 4) + L % 4) &&& 255)
  rw [ho, hb, show 64 * (L / 64) + 4 * (L % 64 / 4) + L % 4 = L by omega]
/-- a byte that doesn't fill the block -/
theorem Str_in {f SU WO : Nat → Int32} {L : Nat} {b : Int32} (h : Str f SU WO L) (hb : b &&& 255 = f L &&& 255) (hL : ¬ (L + 1) % 64 = 0) : Str f SU (upd WO (L % 64 / 4) (sl (WO (L % 64 / 4)) 8 ||| (b &&& 255))) (L + 1) := by
  obtain ⟨old, ho⟩ := Str_word h hb
  have ed : (L + 1) / 64 = L / 64 := by omega
  refine ⟨by rw [ed]; exact h.1, fun i hi => ?_, ?_⟩
  · rw [ed]
    by_cases e : i = L % 64 / 4
    · subst e
      rw [pk_us, ho, show L % 4 + 1 = 4 by omega, prt4]
    · rw [pk_un e]
      exact h.2.1 i (by omega)
  · rw [ed]
    rcases (show L % 4 = 3 ∨ L % 4 < 3 by omega) with q | q
    · rw [show (L + 1) % 4 = 0 by omega]
      exact ⟨_, rfl⟩
    · rw [show (L + 1) % 64 / 4 = L % 64 / 4 by omega, pk_us, ho, show (L + 1) % 4 = L % 4 + 1 by omega]
      exact ⟨old, rfl⟩
/-- a byte that fills it -/
theorem Str_full {f SU WO : Nat → Int32} {L : Nat} {b : Int32} (h : Str f SU WO L) (hb : b &&& 255 = f L &&& 255) (hL : (L + 1) % 64 = 0) : ag 16 (upd WO (L % 64 / 4) (sl (WO (L % 64 / 4)) 8 ||| (b &&& 255))) (fun i => wrd f (64 * (L / 64) + 4 * i)) := by
  obtain ⟨old, ho⟩ := Str_word h hb
  intro i hi
  by_cases e : i = L % 64 / 4
  · subst e
    rw [pk_us, ho, show L % 4 + 1 = 4 by omega, prt4]
  · rw [pk_un e]
    exact h.2.1 i (by omega)
theorem Str_next {f SU WO : Nat → Int32} {L : Nat} {b : Int32} (h : Str f SU WO L) (hb : b &&& 255 = f L &&& 255) (hL : (L + 1) % 64 = 0) {SU2 WO2 : Nat → Int32} (hs : ag 8 SU2 (cmp SU (spr (upd WO (L % 64 / 4) (sl (WO (L % 64 / 4)) 8 ||| (b &&& 255))) 48))) : Str f SU2 WO2 (L + 1) := by
  refine ⟨?_, fun i hi => absurd hi (by omega), ?_⟩
  · rw [show (L + 1) / 64 = L / 64 + 1 by omega]
    exact ag_tr hs (cmp_ag h.1 (spr_ag (Str_full h hb hL) 48))
  · rw [show (L + 1) % 4 = 0 by omega]
    exact ⟨_, rfl⟩
