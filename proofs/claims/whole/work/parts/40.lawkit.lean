/-! THE CLAIM OUT OF ONE WALK OF THE LAW'S BODY. Your part is whole_start (and what it stands on); all else here is the same for every law, but numbers. -/
def R_law : String := "SealedPagesLaw"
def lw_P (b : Addr) (xs : List Int32) (args : Array Value) (s : State) : Prop := args = #[.ref b] ∧ s.IntsAt b xs ∧ xs.length ≤ 2049 ∧ (Jvm.Cond.and given_1 narrow_1).before args s = true
def lw_Q (_ : Array Value) (s : State) (o : Outcome) (t : State) : Prop := o = .returned (some (.int 1)) ∧ Framed s o t [] 600000 7302250
def lw_Z (below : List Frame) (a : Array Value) (s : State) : State → Prop := fun t => ∃ o, t.status = .running ∧ Ended t below o ∧ lw_Q a s o t
/-- the law's own end, with 1 on the stack, nothing written that was there before, its room as the claim has it -/
theorem lw_ret {p : Program} {l : Launch} {e : Env} {s : State} {m : MethodId} {below : List Frame} {meth : Method} {c : Code} {b : Nat} (hx : p.tables.exec = Jvm.exec) (hb : c.code = code) (hr : meth.sig.returnType = ret) (hlocks : meth.locks = false) {pc : Nat} {H : Heap} {ls : Array Slot} (hdg : decode code pc = .ok (.ireturn, 1)) : W p l e room_1 s m #[Value.ref b] below meth c H [] 600000 7302250 (lw_Z below #[Value.ref b] s) (F0 m pc ls [.int 1]) := by
  intro T hT X
  obtain ⟨fs, hret, hrun, hended, hW, hframe⟩ := X.leave (v := some (.int 1)) (hlocks := hlocks) (fun h => by rw [hr] at h; cases h)
  have hmeth' : T.vm.method? m = some meth := X.method'
  refine ⟨T.setFrames fs, ?_, .returned (some (.int 1)), hrun, hended, rfl, ⟨_, rfl⟩, hW, hframe⟩
  jvm_step X.here [X.here.top, hx, hb, hdg, hmeth', hr, ret, narrow_b1]
  (try refine ⟨rfl, ?_⟩); (try refine ⟨rfl, ?_⟩)
  first | (intro acts; rw [hret _ acts rfl rfl rfl]) | rw [hret _ _ rfl rfl rfl]
  exact Steps.refl _
/-- what holds at the law's entry: the machine, the code, the tables' words (any of lw_tbl by 'hts w (by decide +kernel)'), the script of L ints xs at the cell b, what the Statement gives of the start (any of its parts by flat_of_before) -/
def lw_At (p : Program) (s : State) (m : MethodId) (meth : Method) (c : Code) (b L : Nat) (xs : Nat → Int32) : Prop :=
  p.tables.exec = Jvm.exec ∧ c.code = code ∧ meth.sig.returnType = ret ∧ c.maxLocals = 4 ∧ s.vm.findClass R_law = some m.cls ∧ (∀ w ∈ lw_tbl, w.before #[Value.ref b] s = true) ∧ va_X b L xs s s.heap ∧ b < s.heap.size ∧ meth.locks = false ∧ (Jvm.Cond.and given_1 narrow_1).before #[Value.ref b] s = true
/-! own kit for the law: two objects side by side -/
section KL
variable {p : Program} {l : Launch} {e : Env} {R : Room} {s : State} {m : MethodId} {args : Array Value} {below : List Frame} {meth : Method} {c : Code} {H : Heap} {locs : List Loc} {cells slots : Nat} {Q : State → Prop}
variable {cc bytes : ByteArray} {pc nL maxL index k fr lo : Nat} {ls : Array Slot} {rest As st0 : List Value} {G : va_G} {cA : ClassId} {tF tC : Nat} {g g' : Nat → Nat} {n n' : Nat} {w w' : va_W} {own C : String} {y : MethodName} {ret : Option FieldType} {ws Ts : List Cond} {b : Nat} {S : Type} {ww : S → va_W} {postI : Int32 → S → Prop}
/-- a call on one of them: the other stays -/
theorem l_vi (S0 : CallFix p m c cc nL s args Ts own) (hM : CI l y ws fr lo G cA tF tC g n H.size w (.ref b :: As) ww postI) (cw : CallW R s args own C index y bytes maxL ret ws { frames := fr, cells := 0, slots := 0, locals := lo } 0 0 k)
    (hK : va_K G vwCl [(cA, .int)] s) (hP : va_P G vwCl w H) (hD : va_D (gA g n) w) (hP' : va_P G vwCl w' H) (hD' : va_D (gA g' n') w') (hdj : ∀ i j, i < n → j < n' → g i ≠ g' j) (hge : ∀ i, i < n → s.heap.size ≤ g i) (hS : va_S (fun q : Nat => s.heap.size ≤ q) s.heap H locs) (hT : xT tF tC (fun q : Nat => s.heap.size ≤ q) s s.heap) (q0 ci : Nat) {fs : List Value} {T : u_T} {N : Nat} (hc : vwCl[ci]? = some (C, T, N)) (he : w[q0]? = some (b, .inr (ci, fs)))
    (hn : As.length = k) (hsize : ls.size = nL) (hst : st0 = As.reverse ++ .ref b :: rest) (hW : (rest.map fun v => v.category).sum ≤ 8) (hdg : decode cc pc = .ok (.invokevirtual index, 3)) (hf : cells ≤ R.cells ∧ slots ≤ R.slots)
    (kk : ∀ (r : Int32) (u : S) (H1 : Heap) (locs1 : List Loc), postI r u → va_P G vwCl (ww u) H1 → va_D (gA g n) (ww u) → va_P G vwCl w' H1 → va_S (fun q : Nat => s.heap.size ≤ q) s.heap H1 locs1 → W p l e R s m args below meth c H1 locs1 cells slots Q (F0 m (pc + 3) ls (.int r :: rest))) : W p l e R s m args below meth c H locs cells slots Q (F0 m pc ls st0) := by
  subst hst
  have hsub : ∀ q, wA g n H.size q → s.heap.size ≤ q := by
    intro q z
    rcases z with ⟨i, hi, rfl⟩ | z
    · exact hge i hi
    · exact Nat.le_trans hS.1 z
  refine va_calli (va_runV (As := As) (rest := rest) S0 hM cw ⟨cPre_blind, va_recv hK hP hc he, fun U hU hW => ⟨rfl, by rw [hU], by rw [hU]; exact hP, va_K.moved hW.alike hK, hD, by rw [hU]; exact ((hT.warm hW).kept hS.2.1).narrow hsub⟩⟩ rfl hn hsize rfl (lv_room hW) hdg hf) hS (fun q _ z => hsub q z) hsub (fun r u t H1 locs1 ht hvm hw hB hz hk hS1 => ?_)
  obtain ⟨hP1, hK1, hD1⟩ := hB
  rw [ht] at hP1
  refine kk r u H1 locs1 hw hP1 hD1 (hP'.kept (fun i q hi => hk q.1 (hP' i q hi).lt (fun z => ?_))) hS1
  rcases z with ⟨i0, hi0, e0⟩ | z
  · obtain ⟨j, hj, e2⟩ := hD'.2 i q hi
    exact hdj i0 j hi0 hj (e0.symm.trans e2)
  · exact absurd (hP' i q hi).lt (Nat.not_lt.mpr z)
theorem l_sld (hx : p.tables.exec = Jvm.exec) (hb : c.code = cc) {L : Nat} {xs : Nat → Int32} (hX : va_X b L xs s s.heap) (hbl : b < s.heap.size) (hbA : ¬ (fun q : Nat => s.heap.size ≤ q) b) (hS : va_S (fun q : Nat => s.heap.size ≤ q) s.heap H locs) {i : Nat} (hi : i < L) (hL : L < 2 ^ 31) (hdg : decode cc pc = .ok (.iaload, 1))
    (kk : W p l e R s m args below meth c H locs cells slots Q (F0 m (pc + 1) ls (.int (xs i) :: rest))) : W p l e R s m args below meth c H locs cells slots Q (F0 m pc ls (.int (nI i) :: .ref b :: rest)) := by
  refine va_sld hx hb hX hbl hbA hS (vp_in_nI hi hL) hdg ?_
  rw [nI_clamp (by omega)]
  exact kk
end KL
def cel (L : Nat) (xs : Nat → Int32) : Int32 := if 0 < L then xs 0 else 0
theorem gA_lt {G : va_G} {g : Nat → Nat} {n : Nat} {w : va_W} {H : Heap} (hg : w.map Prod.fst = (List.range n).map g) (hP : va_P G vwCl w H) : ∀ i, i < n → g i < H.size := by
  intro i hi
  have h1 : (w.map Prod.fst)[i]? = some (g i) := by rw [hg, List.getElem?_map, List.getElem?_range hi]; rfl
  rw [List.getElem?_map] at h1
  cases h2 : w[i]? with
  | none => rw [h2] at h1; cases h1
  | some x =>
    rw [h2] at h1
    have e : x.1 = g i := Option.some.inj h1
    rw [← e]
    exact (hP i x h2).lt
/-- two worlds side by side lie apart -/
theorem apart_of {A : Nat → Prop} {g g' : Nat → Nat} {n n' : Nat} {w w' : va_W} (hg : w.map Prod.fst = (List.range n).map g) (hg' : w'.map Prod.fst = (List.range n').map g') (hD : va_D A (w ++ w')) : (∀ i j, i < n → j < n' → g i ≠ g' j) ∧ (∀ i, i < n → A (g i)) ∧ (∀ j, j < n' → A (g' j)) ∧ va_D (gA g n) w ∧ va_D (gA g' n') w' := by
  have at' : ∀ {g : Nat → Nat} {n : Nat} {w : va_W}, w.map Prod.fst = (List.range n).map g → ∀ i, i < n → ∃ x, w[i]? = some x ∧ x.1 = g i ∧ i < w.length := by
    intro g n w hg i hi
    have h1 : (w.map Prod.fst)[i]? = some (g i) := by rw [hg, List.getElem?_map, List.getElem?_range hi]; rfl
    rw [List.getElem?_map] at h1
    cases h2 : w[i]? with
    | none => rw [h2] at h1; cases h1
    | some x =>
      rw [h2] at h1
      exact ⟨x, rfl, Option.some.inj h1, (List.getElem?_eq_some_iff.mp h2).1⟩
  have inl : ∀ (i : Nat) (x : Nat × va_E), w[i]? = some x → (w ++ w')[i]? = some x := by
    intro i x h
    rw [List.getElem?_append_left (List.getElem?_eq_some_iff.mp h).1]
    exact h
  have inr : ∀ (j : Nat) (x : Nat × va_E), w'[j]? = some x → (w ++ w')[w.length + j]? = some x := by
    intro j x h
    rw [List.getElem?_append_right (by omega), show w.length + j - w.length = j by omega]
    exact h
  refine ⟨fun i j hi hj q => ?_, fun i hi => ?_, fun j hj => ?_, ?_, ?_⟩
  · obtain ⟨x, h1, h2, h3⟩ := at' hg i hi
    obtain ⟨y, h4, h5, h6⟩ := at' hg' j hj
    have := hD.1 i (w.length + j) x y (inl i x h1) (inr j y h4) (by rw [h2, h5]; exact q)
    omega
  · obtain ⟨x, h1, h2, h3⟩ := at' hg i hi
    rw [← h2]
    exact hD.2 i x (inl i x h1)
  · obtain ⟨y, h4, h5, h6⟩ := at' hg' j hj
    rw [← h5]
    exact hD.2 _ y (inr j y h4)
  · exact gA_of hg (G := A) ⟨fun i j x y hi hj q => hD.1 i j x y (inl i x hi) (inl j y hj) q, fun i x hi => hD.2 i x (inl i x hi)⟩
  · refine gA_of hg' (G := A) ⟨fun i j x y hi hj q => ?_, fun i x hi => hD.2 _ x (inr i x hi)⟩
    have := hD.1 _ _ x y (inr i x hi) (inr j y hj) q
    omega
theorem law_in {L i : Nat} (hL : L ≤ 2049) (hi : i ≤ 4000) (h : ¬ nI L - 4 < nI i) : i + 4 ≤ L := by
  rw [Int32.lt_iff_toInt_lt, nI_toInt (by omega), show (nI L - 4).toInt = (L : Int) - 4 from by rw [fb_subI (by rw [nI_toInt (by omega)]; show -2147483648 ≤ (L : Int) - 4; omega) (by rw [nI_toInt (by omega)]; show (L : Int) - 4 < 2147483648; omega), nI_toInt (by omega)]; rfl] at h
  omega
set_option maxHeartbeats 4000000 in
set_option maxRecDepth 100000 in
/-- cell(script, 0) -/
theorem c_L_cell (l : Launch) (b L : Nat) (xs : Nat → Int32) (hL : L < 2 ^ 31) : Met l yL_cell wsL_cell { frames := 0, cells := 0, slots := 0, locals := 0 } (va_Pc [.ref b, .int 0] (fun U => va_X b L xs U U.heap)) (va_Qi (fun r (_ : Unit) => r = cel L xs) (fun _ _ => True) (fun _ => False)) 0 0 (fun _ => False) := by
  refine Met.ofW (cc := cL_cell) (maxL := 2) (ret := (some .int)) (by decide) rfl ?_
  intro p e s m args below meth c s₁ B hml hv
  obtain ⟨rfl, hX⟩ := hv
  have hx := B.exec
  have hb := B.bytes
  have hr := B.returns
  have hlocks := B.notSynchronized
  have hS : va_S (fun _ : Nat => False) s.heap s.heap [] := va_S.rf
  have hbl : b < s.heap.size := by obtain ⟨scr, h1, -⟩ := hX; exact (Array.getElem?_eq_some_iff.mp h1).1
  have hbA : ¬ (fun _ : Nat => False) b := fun h => h
  have hl := lv_entry ([.ref b, .int 0]) (n := 2) (Nat.le_of_ble_eq_true rfl)
  rw [lg_entry_eq]
  generalize (lg_sl ([.ref b, .int 0]) ++ List.replicate (2 - (lg_sl ([.ref b, .int 0])).length) Slot.unset).toArray = ls at hl ⊢
  have hl : lv_has ls 2 [(0, .ref b), (1, .int 0)] := hl
  refine lv_iload_n hx hb dL_cell_0 rfl (lv_at hl 1 rfl) ?_
  refine lv_aload_n hx hb dL_cell_1 rfl (lv_at hl 0 rfl) ?_
  refine va_slen hx hb hX hbl hbA hS dL_cell_2 ?_
  refine x_eqi (y := nI L) rfl ?_
  refine lv_icmp_ge (tgt := 12) hx hb dL_cell_3 (by decide) (fun cc => ?_) (fun cc => ?_)
  · have h0 : L = 0 := by
      rcases Nat.eq_zero_or_pos L with h | h
      · exact h
      · exact absurd cc (nI_nle h hL)
    refine lv_iconst (v := 0) hx hb dL_cell_12 (by decide) ?_
    exact W.iret (v := 0) hx hb hr (fun t ht hW => ⟨⟨0, (), rfl, by unfold cel; rw [if_neg (by omega)], trivial⟩, hS.F ht⟩) hS.2.2 dL_cell_13
  · have h0 : 0 < L := by
      rcases Nat.eq_zero_or_pos L with h | h
      · subst h
        exact absurd (by decide) cc
      · exact h
    refine lv_aload_n hx hb dL_cell_6 rfl (lv_at hl 0 rfl) ?_
    refine lv_iload_n hx hb dL_cell_7 rfl (lv_at hl 1 rfl) ?_
    refine va_sld hx hb hX hbl hbA hS (vp_in_nI h0 hL) dL_cell_8 ?_
    refine lv_goto (tgt := 13) hx hb dL_cell_9 (by decide) ?_
    exact W.iret (v := xs 0) hx hb hr (fun t ht hW => ⟨⟨xs 0, (), rfl, by unfold cel; rw [if_pos h0], trivial⟩, hS.F ht⟩) hS.2.2 dL_cell_13
set_option maxHeartbeats 4000000 in
set_option maxRecDepth 100000 in
theorem el_hC {s : State} {b : Nat} (hgv : (Jvm.Cond.and given_1 narrow_1).before #[Value.ref b] s = true) : ∀ j : Nat, j < 8 → (Term.elem (.static "SealedPages$Hasher" "FIRST_SUMS" "[I") (.int (Int32.ofNat j))).eval #[Value.ref b] s none [] s = some (.int (hC j)) := by
  have hs := flat_of_before _ hgv
  intro j hj
  rcases (show j = 0 ∨ j = 1 ∨ j = 2 ∨ j = 3 ∨ j = 4 ∨ j = 5 ∨ j = 6 ∨ j = 7 by omega) with rfl | rfl | rfl | rfl | rfl | rfl | rfl | rfl
  · exact va_eqt (hs (Cond.eq (.elem (.static "SealedPages$Hasher" "FIRST_SUMS" "[I") (.int 0)) (.int (1779033703))) (by decide +kernel))
  · exact va_eqt (hs (Cond.eq (.elem (.static "SealedPages$Hasher" "FIRST_SUMS" "[I") (.int 1)) (.int (-1150833019))) (by decide +kernel))
  · exact va_eqt (hs (Cond.eq (.elem (.static "SealedPages$Hasher" "FIRST_SUMS" "[I") (.int 2)) (.int (1013904242))) (by decide +kernel))
  · exact va_eqt (hs (Cond.eq (.elem (.static "SealedPages$Hasher" "FIRST_SUMS" "[I") (.int 3)) (.int (-1521486534))) (by decide +kernel))
  · exact va_eqt (hs (Cond.eq (.elem (.static "SealedPages$Hasher" "FIRST_SUMS" "[I") (.int 4)) (.int (1359893119))) (by decide +kernel))
  · exact va_eqt (hs (Cond.eq (.elem (.static "SealedPages$Hasher" "FIRST_SUMS" "[I") (.int 5)) (.int (-1694144372))) (by decide +kernel))
  · exact va_eqt (hs (Cond.eq (.elem (.static "SealedPages$Hasher" "FIRST_SUMS" "[I") (.int 6)) (.int (528734635))) (by decide +kernel))
  · exact va_eqt (hs (Cond.eq (.elem (.static "SealedPages$Hasher" "FIRST_SUMS" "[I") (.int 7)) (.int (1541459225))) (by decide +kernel))
set_option maxHeartbeats 4000000 in
set_option maxRecDepth 100000 in
theorem el_kC {s : State} {b : Nat} (hgv : (Jvm.Cond.and given_1 narrow_1).before #[Value.ref b] s = true) : ∀ j : Nat, j < 64 → (Term.elem (.static "SealedPages$Hasher" "CONSTANTS" "[I") (.int (Int32.ofNat j))).eval #[Value.ref b] s none [] s = some (.int (kC j)) := by
  have hs := flat_of_before _ hgv
  intro j hj
  rcases (show j = 0 ∨ j = 1 ∨ j = 2 ∨ j = 3 ∨ j = 4 ∨ j = 5 ∨ j = 6 ∨ j = 7 ∨ j = 8 ∨ j = 9 ∨ j = 10 ∨ j = 11 ∨ j = 12 ∨ j = 13 ∨ j = 14 ∨ j = 15 ∨ j = 16 ∨ j = 17 ∨ j = 18 ∨ j = 19 ∨ j = 20 ∨ j = 21 ∨ j = 22 ∨ j = 23 ∨ j = 24 ∨ j = 25 ∨ j = 26 ∨ j = 27 ∨ j = 28 ∨ j = 29 ∨ j = 30 ∨ j = 31 ∨ j = 32 ∨ j = 33 ∨ j = 34 ∨ j = 35 ∨ j = 36 ∨ j = 37 ∨ j = 38 ∨ j = 39 ∨ j = 40 ∨ j = 41 ∨ j = 42 ∨ j = 43 ∨ j = 44 ∨ j = 45 ∨ j = 46 ∨ j = 47 ∨ j = 48 ∨ j = 49 ∨ j = 50 ∨ j = 51 ∨ j = 52 ∨ j = 53 ∨ j = 54 ∨ j = 55 ∨ j = 56 ∨ j = 57 ∨ j = 58 ∨ j = 59 ∨ j = 60 ∨ j = 61 ∨ j = 62 ∨ j = 63 by omega) with rfl | rfl | rfl | rfl | rfl | rfl | rfl | rfl | rfl | rfl | rfl | rfl | rfl | rfl | rfl | rfl | rfl | rfl | rfl | rfl | rfl | rfl | rfl | rfl | rfl | rfl | rfl | rfl | rfl | rfl | rfl | rfl | rfl | rfl | rfl | rfl | rfl | rfl | rfl | rfl | rfl | rfl | rfl | rfl | rfl | rfl | rfl | rfl | rfl | rfl | rfl | rfl | rfl | rfl | rfl | rfl | rfl | rfl | rfl | rfl | rfl | rfl | rfl | rfl
  · exact va_eqt (hs (Cond.eq (.elem (.static "SealedPages$Hasher" "CONSTANTS" "[I") (.int 0)) (.int (1116352408))) (by decide +kernel))
  · exact va_eqt (hs (Cond.eq (.elem (.static "SealedPages$Hasher" "CONSTANTS" "[I") (.int 1)) (.int (1899447441))) (by decide +kernel))
  · exact va_eqt (hs (Cond.eq (.elem (.static "SealedPages$Hasher" "CONSTANTS" "[I") (.int 2)) (.int (-1245643825))) (by decide +kernel))
  · exact va_eqt (hs (Cond.eq (.elem (.static "SealedPages$Hasher" "CONSTANTS" "[I") (.int 3)) (.int (-373957723))) (by decide +kernel))
  · exact va_eqt (hs (Cond.eq (.elem (.static "SealedPages$Hasher" "CONSTANTS" "[I") (.int 4)) (.int (961987163))) (by decide +kernel))
  · exact va_eqt (hs (Cond.eq (.elem (.static "SealedPages$Hasher" "CONSTANTS" "[I") (.int 5)) (.int (1508970993))) (by decide +kernel))
  · exact va_eqt (hs (Cond.eq (.elem (.static "SealedPages$Hasher" "CONSTANTS" "[I") (.int 6)) (.int (-1841331548))) (by decide +kernel))
  · exact va_eqt (hs (Cond.eq (.elem (.static "SealedPages$Hasher" "CONSTANTS" "[I") (.int 7)) (.int (-1424204075))) (by decide +kernel))
  · exact va_eqt (hs (Cond.eq (.elem (.static "SealedPages$Hasher" "CONSTANTS" "[I") (.int 8)) (.int (-670586216))) (by decide +kernel))
  · exact va_eqt (hs (Cond.eq (.elem (.static "SealedPages$Hasher" "CONSTANTS" "[I") (.int 9)) (.int (310598401))) (by decide +kernel))
  · exact va_eqt (hs (Cond.eq (.elem (.static "SealedPages$Hasher" "CONSTANTS" "[I") (.int 10)) (.int (607225278))) (by decide +kernel))
  · exact va_eqt (hs (Cond.eq (.elem (.static "SealedPages$Hasher" "CONSTANTS" "[I") (.int 11)) (.int (1426881987))) (by decide +kernel))
  · exact va_eqt (hs (Cond.eq (.elem (.static "SealedPages$Hasher" "CONSTANTS" "[I") (.int 12)) (.int (1925078388))) (by decide +kernel))
  · exact va_eqt (hs (Cond.eq (.elem (.static "SealedPages$Hasher" "CONSTANTS" "[I") (.int 13)) (.int (-2132889090))) (by decide +kernel))
  · exact va_eqt (hs (Cond.eq (.elem (.static "SealedPages$Hasher" "CONSTANTS" "[I") (.int 14)) (.int (-1680079193))) (by decide +kernel))
  · exact va_eqt (hs (Cond.eq (.elem (.static "SealedPages$Hasher" "CONSTANTS" "[I") (.int 15)) (.int (-1046744716))) (by decide +kernel))
  · exact va_eqt (hs (Cond.eq (.elem (.static "SealedPages$Hasher" "CONSTANTS" "[I") (.int 16)) (.int (-459576895))) (by decide +kernel))
  · exact va_eqt (hs (Cond.eq (.elem (.static "SealedPages$Hasher" "CONSTANTS" "[I") (.int 17)) (.int (-272742522))) (by decide +kernel))
  · exact va_eqt (hs (Cond.eq (.elem (.static "SealedPages$Hasher" "CONSTANTS" "[I") (.int 18)) (.int (264347078))) (by decide +kernel))
  · exact va_eqt (hs (Cond.eq (.elem (.static "SealedPages$Hasher" "CONSTANTS" "[I") (.int 19)) (.int (604807628))) (by decide +kernel))
  · exact va_eqt (hs (Cond.eq (.elem (.static "SealedPages$Hasher" "CONSTANTS" "[I") (.int 20)) (.int (770255983))) (by decide +kernel))
  · exact va_eqt (hs (Cond.eq (.elem (.static "SealedPages$Hasher" "CONSTANTS" "[I") (.int 21)) (.int (1249150122))) (by decide +kernel))
  · exact va_eqt (hs (Cond.eq (.elem (.static "SealedPages$Hasher" "CONSTANTS" "[I") (.int 22)) (.int (1555081692))) (by decide +kernel))
  · exact va_eqt (hs (Cond.eq (.elem (.static "SealedPages$Hasher" "CONSTANTS" "[I") (.int 23)) (.int (1996064986))) (by decide +kernel))
  · exact va_eqt (hs (Cond.eq (.elem (.static "SealedPages$Hasher" "CONSTANTS" "[I") (.int 24)) (.int (-1740746414))) (by decide +kernel))
  · exact va_eqt (hs (Cond.eq (.elem (.static "SealedPages$Hasher" "CONSTANTS" "[I") (.int 25)) (.int (-1473132947))) (by decide +kernel))
  · exact va_eqt (hs (Cond.eq (.elem (.static "SealedPages$Hasher" "CONSTANTS" "[I") (.int 26)) (.int (-1341970488))) (by decide +kernel))
  · exact va_eqt (hs (Cond.eq (.elem (.static "SealedPages$Hasher" "CONSTANTS" "[I") (.int 27)) (.int (-1084653625))) (by decide +kernel))
  · exact va_eqt (hs (Cond.eq (.elem (.static "SealedPages$Hasher" "CONSTANTS" "[I") (.int 28)) (.int (-958395405))) (by decide +kernel))
  · exact va_eqt (hs (Cond.eq (.elem (.static "SealedPages$Hasher" "CONSTANTS" "[I") (.int 29)) (.int (-710438585))) (by decide +kernel))
  · exact va_eqt (hs (Cond.eq (.elem (.static "SealedPages$Hasher" "CONSTANTS" "[I") (.int 30)) (.int (113926993))) (by decide +kernel))
  · exact va_eqt (hs (Cond.eq (.elem (.static "SealedPages$Hasher" "CONSTANTS" "[I") (.int 31)) (.int (338241895))) (by decide +kernel))
  · exact va_eqt (hs (Cond.eq (.elem (.static "SealedPages$Hasher" "CONSTANTS" "[I") (.int 32)) (.int (666307205))) (by decide +kernel))
  · exact va_eqt (hs (Cond.eq (.elem (.static "SealedPages$Hasher" "CONSTANTS" "[I") (.int 33)) (.int (773529912))) (by decide +kernel))
  · exact va_eqt (hs (Cond.eq (.elem (.static "SealedPages$Hasher" "CONSTANTS" "[I") (.int 34)) (.int (1294757372))) (by decide +kernel))
  · exact va_eqt (hs (Cond.eq (.elem (.static "SealedPages$Hasher" "CONSTANTS" "[I") (.int 35)) (.int (1396182291))) (by decide +kernel))
  · exact va_eqt (hs (Cond.eq (.elem (.static "SealedPages$Hasher" "CONSTANTS" "[I") (.int 36)) (.int (1695183700))) (by decide +kernel))
  · exact va_eqt (hs (Cond.eq (.elem (.static "SealedPages$Hasher" "CONSTANTS" "[I") (.int 37)) (.int (1986661051))) (by decide +kernel))
  · exact va_eqt (hs (Cond.eq (.elem (.static "SealedPages$Hasher" "CONSTANTS" "[I") (.int 38)) (.int (-2117940946))) (by decide +kernel))
  · exact va_eqt (hs (Cond.eq (.elem (.static "SealedPages$Hasher" "CONSTANTS" "[I") (.int 39)) (.int (-1838011259))) (by decide +kernel))
  · exact va_eqt (hs (Cond.eq (.elem (.static "SealedPages$Hasher" "CONSTANTS" "[I") (.int 40)) (.int (-1564481375))) (by decide +kernel))
  · exact va_eqt (hs (Cond.eq (.elem (.static "SealedPages$Hasher" "CONSTANTS" "[I") (.int 41)) (.int (-1474664885))) (by decide +kernel))
  · exact va_eqt (hs (Cond.eq (.elem (.static "SealedPages$Hasher" "CONSTANTS" "[I") (.int 42)) (.int (-1035236496))) (by decide +kernel))
  · exact va_eqt (hs (Cond.eq (.elem (.static "SealedPages$Hasher" "CONSTANTS" "[I") (.int 43)) (.int (-949202525))) (by decide +kernel))
  · exact va_eqt (hs (Cond.eq (.elem (.static "SealedPages$Hasher" "CONSTANTS" "[I") (.int 44)) (.int (-778901479))) (by decide +kernel))
  · exact va_eqt (hs (Cond.eq (.elem (.static "SealedPages$Hasher" "CONSTANTS" "[I") (.int 45)) (.int (-694614492))) (by decide +kernel))
  · exact va_eqt (hs (Cond.eq (.elem (.static "SealedPages$Hasher" "CONSTANTS" "[I") (.int 46)) (.int (-200395387))) (by decide +kernel))
  · exact va_eqt (hs (Cond.eq (.elem (.static "SealedPages$Hasher" "CONSTANTS" "[I") (.int 47)) (.int (275423344))) (by decide +kernel))
  · exact va_eqt (hs (Cond.eq (.elem (.static "SealedPages$Hasher" "CONSTANTS" "[I") (.int 48)) (.int (430227734))) (by decide +kernel))
  · exact va_eqt (hs (Cond.eq (.elem (.static "SealedPages$Hasher" "CONSTANTS" "[I") (.int 49)) (.int (506948616))) (by decide +kernel))
  · exact va_eqt (hs (Cond.eq (.elem (.static "SealedPages$Hasher" "CONSTANTS" "[I") (.int 50)) (.int (659060556))) (by decide +kernel))
  · exact va_eqt (hs (Cond.eq (.elem (.static "SealedPages$Hasher" "CONSTANTS" "[I") (.int 51)) (.int (883997877))) (by decide +kernel))
  · exact va_eqt (hs (Cond.eq (.elem (.static "SealedPages$Hasher" "CONSTANTS" "[I") (.int 52)) (.int (958139571))) (by decide +kernel))
  · exact va_eqt (hs (Cond.eq (.elem (.static "SealedPages$Hasher" "CONSTANTS" "[I") (.int 53)) (.int (1322822218))) (by decide +kernel))
  · exact va_eqt (hs (Cond.eq (.elem (.static "SealedPages$Hasher" "CONSTANTS" "[I") (.int 54)) (.int (1537002063))) (by decide +kernel))
  · exact va_eqt (hs (Cond.eq (.elem (.static "SealedPages$Hasher" "CONSTANTS" "[I") (.int 55)) (.int (1747873779))) (by decide +kernel))
  · exact va_eqt (hs (Cond.eq (.elem (.static "SealedPages$Hasher" "CONSTANTS" "[I") (.int 56)) (.int (1955562222))) (by decide +kernel))
  · exact va_eqt (hs (Cond.eq (.elem (.static "SealedPages$Hasher" "CONSTANTS" "[I") (.int 57)) (.int (2024104815))) (by decide +kernel))
  · exact va_eqt (hs (Cond.eq (.elem (.static "SealedPages$Hasher" "CONSTANTS" "[I") (.int 58)) (.int (-2067236844))) (by decide +kernel))
  · exact va_eqt (hs (Cond.eq (.elem (.static "SealedPages$Hasher" "CONSTANTS" "[I") (.int 59)) (.int (-1933114872))) (by decide +kernel))
  · exact va_eqt (hs (Cond.eq (.elem (.static "SealedPages$Hasher" "CONSTANTS" "[I") (.int 60)) (.int (-1866530822))) (by decide +kernel))
  · exact va_eqt (hs (Cond.eq (.elem (.static "SealedPages$Hasher" "CONSTANTS" "[I") (.int 61)) (.int (-1538233109))) (by decide +kernel))
  · exact va_eqt (hs (Cond.eq (.elem (.static "SealedPages$Hasher" "CONSTANTS" "[I") (.int 62)) (.int (-1090935817))) (by decide +kernel))
  · exact va_eqt (hs (Cond.eq (.elem (.static "SealedPages$Hasher" "CONSTANTS" "[I") (.int 63)) (.int (-965641998))) (by decide +kernel))
