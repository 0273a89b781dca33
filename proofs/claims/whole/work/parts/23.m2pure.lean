/-! rows for the walks of the reference's public methods -/
theorem inB_a {x : Int32} {n : Nat} (hn : n + 1 < 2 ^ 31) (h1 : ¬ x < 0) (h2 : x ≤ nI n) : ¬ inB x (n + 1) = 0 := by
  rw [Int32.lt_iff_toInt_lt, Int32.toInt_zero] at h1
  rw [Int32.le_iff_toInt_le, nI_toInt (by omega)] at h2
  unfold inB
  rw [if_pos (by omega)]
  decide
theorem inB_b {x : Int32} {n : Nat} (hn : n + 1 < 2 ^ 31) (h2 : ¬ x ≤ nI n) : inB x (n + 1) = 0 := by
  rw [Int32.le_iff_toInt_le, nI_toInt (by omega)] at h2
  unfold inB
  rw [if_neg (by omega)]
theorem fl_m1 {v : Nat} (hv : v < 2 ^ 31) : ¬ nI v = -1 := fun h => by
  have h1 := nI_toInt hv
  rw [h, show (-1 : Int32).toInt = -1 from rfl] at h1
  omega
theorem bsdI_neg {N p l : Nat} (hp : p < 64) (h : bsdI N p l < 0) : ¬ bsd p l < nod N l := fun c => by
  have hb := bsd_lt (l := l) hp
  unfold bsdI at h
  rw [if_pos c] at h
  exact nI_pos (by omega) h
theorem bsdI_pos {N p l : Nat} (h : ¬ bsdI N p l < 0) : bsd p l < nod N l ∧ bsdI N p l = nI (bsd p l) := by
  by_cases c : bsd p l < nod N l
  · exact ⟨c, by unfold bsdI; rw [if_pos c]⟩
  · unfold bsdI at h
    rw [if_neg c] at h
    exact absurd (by decide) h
theorem besN_s (N : Nat) (D : Nat → Int32) (p i f l k : Nat) : besN N D p i (f + 1) l k = if bsd p l < nod N l then (if k = 0 then D (plc N l (bsd p l) + i) else besN N D p i f (l + 1) (k - 1)) else besN N D p i f (l + 1) k := rfl
theorem bes_a {N : Nat} {D : Nat → Int32} {p i k : Nat} (hN : 1 ≤ N ∧ N ≤ 64) (hp : p < N) (hi : i < 32) (hk : k < 2 ^ 31) : besN N D p i (lvs N - 1) 0 k = a_bes N D (nI p) (nI k) (nI i) := by
  unfold a_bes
  rw [if_neg (inB_nz hp (by omega)), if_neg (inB_nz hi (by decide)), if_neg (nI_pos hk), nI_clamp (by omega), nI_clamp (by omega), nI_clamp hk]
theorem bak_neg {N : Nat} {D KD : Nat → Int32} {kp : Int32} (hN : 1 ≤ N ∧ N ≤ 64) (h : a_bak N D KD kp < 0) : kp = 0 := by
  by_cases c : kp = 0
  · exact c
  · have h1 := difN_le D KD (siz N)
    have h2 := siz_le hN
    unfold a_bak at h
    rw [if_neg c] at h
    exact absurd h (nI_pos (by omega))
theorem bak_pos {N : Nat} {D KD : Nat → Int32} {kp : Int32} (h : ¬ a_bak N D KD kp < 0) : ¬ kp = 0 := fun c => h (by unfold a_bak; rw [if_pos c]; decide)
