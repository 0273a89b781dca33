/-! the tree's numbers; what is asked and done, as functions -/
def nod (N : Nat) : Nat → Nat
  | 0 => N
  | l + 1 => (nod N l + 1) / 2
def lvs (N : Nat) : Nat := if N ≤ 1 then 1 else if N ≤ 2 then 2 else if N ≤ 4 then 3 else if N ≤ 8 then 4 else if N ≤ 16 then 5 else if N ≤ 32 then 6 else 7
def ahd (N : Nat) : Nat → Nat
  | 0 => 0
  | l + 1 => ahd N l + nod N l
def nds (N : Nat) : Nat := ahd N (lvs N)
def siz (N : Nat) : Nat := 8 + 64 * N + 32 * nds N
def plc (N l k : Nat) : Nat := 8 + 64 * N + 32 * (ahd N l + k)
def wid (N l : Nat) : Int32 := nI (if l < lvs N then nod N l else 0)
def ahA (N l : Nat) : Int32 := nI (if l < lvs N then ahd N l else 0)
theorem nd_t1 : ∀ N, N < 65 → 1 ≤ N → 1 ≤ lvs N ∧ lvs N ≤ 7 ∧ nds N ≤ 127 ∧ nod N (lvs N - 1) = 1 := by decide +kernel
theorem nd_t2 : ∀ N, N < 65 → 1 ≤ N → ∀ l, l < 7 → l < lvs N → ahd N l + nod N l ≤ nds N ∧ 1 ≤ nod N l := by decide +kernel
theorem nd_t3 : ∀ N, N < 65 → 1 ≤ N → ∀ l, l < 7 → l + 1 < lvs N → 2 ≤ nod N l := by decide +kernel
theorem lvs_in {N : Nat} (hN : 1 ≤ N ∧ N ≤ 64) : 1 ≤ lvs N ∧ lvs N ≤ 7 := ⟨(nd_t1 N (by omega) hN.1).1, (nd_t1 N (by omega) hN.1).2.1⟩
theorem nds_le {N : Nat} (hN : 1 ≤ N ∧ N ≤ 64) : nds N ≤ 127 := (nd_t1 N (by omega) hN.1).2.2.1
theorem siz_le {N : Nat} (hN : 1 ≤ N ∧ N ≤ 64) : siz N ≤ 8200 := by
  have := nds_le hN
  unfold siz
  omega
theorem siz_eq (N : Nat) : siz N = 8 + 64 * N + 32 * nds N := rfl
theorem nod_last {N : Nat} (hN : 1 ≤ N ∧ N ≤ 64) : nod N (lvs N - 1) = 1 := (nd_t1 N (by omega) hN.1).2.2.2
theorem nod_in {N l : Nat} (hN : 1 ≤ N ∧ N ≤ 64) (hl : l < lvs N) : ahd N l + nod N l ≤ nds N ∧ 1 ≤ nod N l := nd_t2 N (by omega) hN.1 l (by have := lvs_in hN; omega) hl
theorem nod_two {N l : Nat} (hN : 1 ≤ N ∧ N ≤ 64) (hl : l + 1 < lvs N) : 2 ≤ nod N l := nd_t3 N (by omega) hN.1 l (by have := lvs_in hN; omega) hl
theorem nod_le (N : Nat) (h : 1 ≤ N) : ∀ l, 1 ≤ nod N l ∧ nod N l ≤ N
  | 0 => ⟨h, Nat.le_refl _⟩
  | l + 1 => by
    have := nod_le N h l
    show 1 ≤ (nod N l + 1) / 2 ∧ (nod N l + 1) / 2 ≤ N
    omega
theorem nod_s (N l : Nat) : nod N (l + 1) = (nod N l + 1) / 2 := rfl
theorem ahd_s (N l : Nat) : ahd N (l + 1) = ahd N l + nod N l := rfl
theorem plc_in {N l k : Nat} (hN : 1 ≤ N ∧ N ≤ 64) (hl : l < lvs N) (hk : k < nod N l) : plc N l k + 32 ≤ siz N := by
  have := nod_in hN hl
  unfold plc siz
  omega
theorem way_in {N p : Nat} (hp : p < N) : ∀ l, p / 2 ^ l < nod N l
  | 0 => by rw [Nat.pow_zero, Nat.div_one]; exact hp
  | l + 1 => by
    have := way_in hp l
    rw [Nat.pow_succ, ← Nat.div_div_eq_div_mul, nod_s]
    omega
theorem wid_at {N l : Nat} (hl : l < lvs N) : wid N l = nI (nod N l) := by unfold wid; rw [if_pos hl]
theorem ahA_at {N l : Nat} (hl : l < lvs N) : ahA N l = nI (ahd N l) := by unfold ahA; rw [if_pos hl]
def hed (N i : Nat) : Int32 := if i = 0 then 83 else if i = 1 then 73 else if i = 2 then nI N else if i = 3 then 64 else 0
def nmsg (D : Nat → Int32) (l k b : Nat) : Nat → Int32 := fun i => if i = 0 then nI l else if i = 1 then nI k else D (b + (i - 2))
def nbas (N l k : Nat) : Nat := if l = 0 then 8 + 64 * k else plc N (l - 1) (2 * k)
def nlen (N l k : Nat) : Nat := if l = 0 then 66 else if 2 * k + 1 < nod N (l - 1) then 66 else 34
def nsha (N : Nat) (D : Nat → Int32) (l k : Nat) : Nat → Int32 := sha (nmsg D l k (nbas N l k)) (nlen N l k)
def rmsg (N : Nat) (D : Nat → Int32) : Nat → Int32 := fun i => if i < 8 then D i else D (plc N (lvs N - 1) 0 + (i - 8))
def rsha (N : Nat) (D : Nat → Int32) : Nat → Int32 := sha (rmsg N D) 40
def eqN (f h : Nat → Int32) : Nat → Bool
  | 0 => true
  | n + 1 => eqN f h n && (f n == h n)
theorem eqN_s (f h : Nat → Int32) (n : Nat) : eqN f h (n + 1) = (eqN f h n && (f n == h n)) := rfl
theorem eqN_no {f h : Nat → Int32} {i : Nat} (hne : ¬ f i = h i) : ∀ {n : Nat}, i < n → eqN f h n = false
  | 0, hi => absurd hi (Nat.not_lt_zero _)
  | n + 1, hi => by
    rw [eqN_s]
    by_cases e : i = n
    · subst e
      rw [beq_eq_false_iff_ne.mpr hne, Bool.and_false]
    · rw [eqN_no hne (show i < n by omega), Bool.false_and]
theorem eqN_cong {f f' h h' : Nat → Int32} : ∀ {n : Nat}, ag n f f' → ag n h h' → eqN f h n = eqN f' h' n
  | 0, _, _ => rfl
  | n + 1, a, b => by rw [eqN_s, eqN_s, eqN_cong (ag_le a (Nat.le_succ n)) (ag_le b (Nat.le_succ n)), a n (Nat.lt_succ_self n), b n (Nat.lt_succ_self n)]
def bI (b : Bool) : Int32 := if b then 1 else 0
def nok (N : Nat) (D : Nat → Int32) (l k : Nat) : Bool := eqN (fun i => D (plc N l k + i)) (nsha N D l k) 32
def hok (N : Nat) (D : Nat → Int32) : Bool := eqN D (hed N) 8
def rok (N : Nat) (D R : Nat → Int32) : Bool := eqN R (rsha N D) 32
def fltL (N : Nat) (D : Nat → Int32) (p : Nat) : Nat → Nat
  | 0 => 0
  | l + 1 => if nok N D l (p / 2 ^ l) then fltL N D p l else 3 + l
def fltA (N : Nat) (D R : Nat → Int32) : Nat := if hok N D then (if rok N D R then 0 else 2) else 1
def flt (N : Nat) (D R : Nat → Int32) (p : Nat) : Nat := if fltA N D R = 0 then fltL N D p (lvs N) else fltA N D R
theorem fltL_le (N : Nat) (D : Nat → Int32) (p : Nat) : ∀ l, fltL N D p l ≤ 3 + l
  | 0 => Nat.zero_le _
  | l + 1 => by
    have := fltL_le N D p l
    show (if nok N D l (p / 2 ^ l) then fltL N D p l else 3 + l) ≤ 3 + (l + 1)
    split <;> omega
theorem fltA_le (N : Nat) (D R : Nat → Int32) : fltA N D R ≤ 2 := by
  unfold fltA
  split
  · split <;> omega
  · omega
theorem flt_le {N : Nat} (hN : 1 ≤ N ∧ N ≤ 64) (D R : Nat → Int32) (p : Nat) : flt N D R p ≤ 10 := by
  have h1 := fltL_le N D p (lvs N)
  have h2 := fltA_le N D R
  have h3 := lvs_in hN
  unfold flt
  split <;> omega
def sNode (N : Nat) (D : Nat → Int32) (l k : Nat) : Nat → Int32 := va_cpy (nsha N D l k) D 0 (plc N l k) 32
def sWay (N : Nat) (D : Nat → Int32) (p : Nat) : Nat → (Nat → Int32)
  | 0 => D
  | l + 1 => sNode N (sWay N D p l) l (p / 2 ^ l)
def sLev (N l : Nat) (D : Nat → Int32) : Nat → (Nat → Int32)
  | 0 => D
  | k + 1 => sNode N (sLev N l D k) l k
def sTree (N : Nat) (D : Nat → Int32) : Nat → (Nat → Int32)
  | 0 => D
  | l + 1 => sLev N l (sTree N D l) (nod N l)
def sAll (N : Nat) (D : Nat → Int32) : Nat → Int32 := sTree N (va_cpy (hed N) D 0 0 8) (lvs N)
def sRoot (N : Nat) (D R : Nat → Int32) : Nat → Int32 := va_cpy (rsha N D) R 0 0 32
/-! rows copied place by place -/
theorem cpy_0 (f h : Nat → Int32) (a b : Nat) : va_cpy f h a b 0 = h := by
  funext k
  unfold va_cpy
  rw [if_neg (by omega)]
theorem cpy_s (f h : Nat → Int32) (a b n : Nat) : upd (va_cpy f h a b n) (b + n) (f (a + n)) = va_cpy f h a b (n + 1) := by
  funext k
  unfold upd va_cpy
  by_cases e : k = b + n
  · rw [if_pos e, if_pos (by omega), e, show b + n - b = n by omega]
  · rw [if_neg e]
    by_cases q : b ≤ k ∧ k < b + n
    · rw [if_pos q, if_pos (by omega)]
    · rw [if_neg q, if_neg (by omega)]
theorem cpy_ag {f f' h : Nat → Int32} {a a' b n : Nat} (e : ∀ j, j < n → f (a + j) = f' (a' + j)) : va_cpy f h a b n = va_cpy f' h a' b n := by
  funext k
  unfold va_cpy
  by_cases q : b ≤ k ∧ k < b + n
  · rw [if_pos q, if_pos q]
    exact e _ (by omega)
  · rw [if_neg q, if_neg q]
theorem cpy_skip {f h : Nat → Int32} {n : Nat} (e : h n = f n) : va_cpy f h 0 0 (n + 1) = va_cpy f h 0 0 n := by
  rw [← cpy_s, Nat.zero_add, ← e]
  funext k
  unfold upd
  by_cases q : k = n
  · rw [if_pos q, q, pk_cpy_out (by omega)]
  · rw [if_neg q]
def difN (f h : Nat → Int32) : Nat → Nat
  | 0 => 0
  | n + 1 => difN f h n + if f n = h n then 0 else 1
theorem difN_le (f h : Nat → Int32) : ∀ n, difN f h n ≤ n
  | 0 => Nat.le_refl _
  | n + 1 => by
    have := difN_le f h n
    show difN f h n + (if f n = h n then 0 else 1) ≤ n + 1
    split <;> omega
def heldN (N : Nat) (D R : Nat → Int32) : Nat → Nat
  | 0 => 0
  | p + 1 => heldN N D R p + if flt N D R p = 0 then 1 else 0
def fstN (N : Nat) (D R : Nat → Int32) : Nat → Nat → Int32
  | 0, _ => -1
  | k + 1, p => if flt N D R p = 0 then fstN N D R k (p + 1) else nI p
def bsd (p l : Nat) : Nat := if p / 2 ^ l % 2 = 0 then p / 2 ^ l + 1 else p / 2 ^ l - 1
def prfN (N p : Nat) : Nat → Nat
  | 0 => 0
  | l + 1 => prfN N p l + if bsd p l < nod N l then 1 else 0
def besN (N : Nat) (D : Nat → Int32) (p i : Nat) : Nat → Nat → Nat → Int32
  | 0, _, _ => -1
  | f + 1, l, k => if bsd p l < nod N l then (if k = 0 then D (plc N l (bsd p l) + i) else besN N D p i f (l + 1) (k - 1)) else besN N D p i f (l + 1) k
def filN (F : Nat → Int32) (k : Nat) (v : Int64) : Nat → (Nat → Int32)
  | 0 => F
  | i + 1 => upd (filN F k v i) (8 * k + i) ((lus v (nI (56 - 8 * i))).toInt32 &&& 255)
/-! the worlds: the class's thirteen cells, the reference's fourteen -/
abbrev xW (g : Nat → Nat) (cA : ClassId) (N : Nat) (D R F KD KR FL SU WO : Nat → Int32) (ln kp rd wr ft : Int32) : va_W := [(g 0, .inr (2, [.ref (g 1), .ref (g 2), .ref (g 3), .ref (g 4), .ref (g 5), .ref (g 6), .ref (g 7), .ref (g 8), .int kp, .int rd, .int wr, .int ft])), (g 1, .inr (1, [.int (nI N), .int (nI (lvs N)), .int (nI (nds N)), .int (nI (siz N)), .ref (g 9), .ref (g 10)])), (g 2, .inr (0, [.ref (g 11), .ref (g 12), .int ln])), (g 3, .inl (cA, siz N, .inl D)), (g 4, .inl (cA, 32, .inl R)), (g 5, .inl (cA, 64, .inl F)), (g 6, .inl (cA, siz N, .inl KD)), (g 7, .inl (cA, 32, .inl KR)), (g 8, .inl (cA, nds N, .inl FL)), (g 9, .inl (cA, 7, .inl (wid N))), (g 10, .inl (cA, 7, .inl (ahA N))), (g 11, .inl (cA, 8, .inl SU)), (g 12, .inl (cA, 64, .inl WO))]
abbrev mW (g : Nat → Nat) (cA : ClassId) (N : Nat) (zz : Int32) (D R F KD KR RW OU WO ST WK CA : Nat → Int32) (ln kp rd wr ft : Int32) : va_W := [(g 0, .inr (3, [.ref (g 1), .ref (g 2), .int (nI N), .int zz, .ref (g 3), .ref (g 4), .ref (g 5), .ref (g 6), .ref (g 7), .int kp, .int rd, .int wr, .int ft, .ref (g 8), .int ln, .ref (g 9), .ref (g 10), .ref (g 11), .ref (g 12), .ref (g 13)])), (g 1, .inl (cA, 64, .inl kC)), (g 2, .inl (cA, 8, .inl hC)), (g 3, .inl (cA, 8200, .inl D)), (g 4, .inl (cA, 32, .inl R)), (g 5, .inl (cA, 64, .inl F)), (g 6, .inl (cA, 8200, .inl KD)), (g 7, .inl (cA, 32, .inl KR)), (g 8, .inl (cA, 256, .inl RW)), (g 9, .inl (cA, 32, .inl OU)), (g 10, .inl (cA, 64, .inl WO)), (g 11, .inl (cA, 8, .inl ST)), (g 12, .inl (cA, 8, .inl WK)), (g 13, .inl (cA, 8200, .inl CA))]
