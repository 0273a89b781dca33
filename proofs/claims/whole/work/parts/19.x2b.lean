set_option maxHeartbeats 4000000 in
set_option maxRecDepth 100000 in
theorem c_X2_put (l : Launch) (G : va_G) (cA : ClassId) (tF tC : Nat) (g : Nat → Nat) (sz N : Nat) (hN : 1 ≤ N ∧ N ≤ 64) (D R F KD KR FL SU WO : Nat → Int32) (ln kp rd wr ft : Int32) (x v : Int32) : CI l yX2_put wsX2_put 1 21 G cA tF tC g 13 sz (xW g cA N D R F KD KR FL SU WO ln kp rd wr ft) [.ref (g 0), .int x, .int v] (fun (u : Unit) => xW g cA N D R (s_put F x v) KD KR FL SU WO ln kp rd wr ft) (fun r _ => r = a_at F 64 x) := by
  refine x_entryI (cc := cX2_put) (maxL := 4) (by decide) rfl (fun _ => rfl) (Nat.le_of_ble_eq_true rfl) ?_
  intro p e s m args below meth c Q hx hb hml hown hts hK hP hD hS hT hret ls hl
  have hown : s.vm.findClass RX2 = some m.cls := hown
  have hl : lv_has ls 4 [(0, .ref (g 0)), (1, .int x), (2, .int v)] := hl
  have hinX2 : ∀ w ∈ wsX20, w ∈ wsX2_put := by decide +kernel
  refine lv_iload_n hx hb dX2_put_0 rfl (lv_at hl 1 rfl) ?_
  refine lv_bipush (v := 64) hx hb dX2_put_1 (by decide) ?_
  refine x_si ⟨hx, hb, hml, hown, hts⟩ (c_X2_isBelow l G cA tF tC g _ N hN D R F KD KR FL SU WO ln kp rd wr ft x 64 (by omega)) (va_cwS 2 hts gX2_put_X2_isBelow rfl rfl rfl (by decide +kernel) ⟨Nat.le_of_ble_eq_true rfl, Nat.le_of_ble_eq_true rfl⟩) hK hP hD hS hT rfl rfl hl.1 rfl (Nat.le_of_ble_eq_true rfl) dX2_put_3 ⟨Nat.le_refl _, Nat.le_refl _⟩ (fun r_2 u H locs hp_1 hP hD hS => ?_)
  have hP : va_P G vwCl (xW g cA N D R F KD KR FL SU WO ln kp rd wr ft) _ := hP
  have hD : va_D _ (xW g cA N D R F KD KR FL SU WO ln kp rd wr ft) := hD
  have hp_1 : r_2 = inB x 64 := hp_1
  subst hp_1
  refine lv_if_ne (tgt := 11) hx hb dX2_put_6 (by decide) (fun c_3 => ?_) (fun c_3 => ?_)
  · skip
    obtain ⟨zq, hq, rfl⟩ := inB_1 (by omega) c_3
    have hl : lv_has ls 4 [(0, .ref (g 0)), (1, .int (nI zq)), (2, .int v)] := hl
    refine lv_aload_n hx hb dX2_put_11 rfl (lv_at hl 0 rfl) ?_
    refine va_get (D := G) (ci := 2) (v := .ref (g 5)) (C := RX2) (T := TX2) (N := 12) hx hb hts hinX2 hown hK hP 0 rfl rfl 4 (by decide) (hts (.fieldLink RX2 45 "SealedPages" "draftBytes" "[I") (by decide +kernel)) (fun _ h => h) rfl dX2_put_12 ?_
    refine lv_iload_n hx hb dX2_put_15 rfl (lv_at hl 1 rfl) ?_
    refine x_ald (i := zq) hx hb hK hP 5 0 rfl rfl (by omega) (by decide) dX2_put_16 ?_
    refine lv_istore_n (lv' := [(3, .int (F zq)), (0, .ref (g 0)), (1, .int (nI zq)), (2, .int v)]) hx hb dX2_put_17 rfl hl (by decide) rfl (fun ls hl => ?_)
    refine lv_aload_n hx hb dX2_put_18 rfl (lv_at hl 1 rfl) ?_
    refine va_get (D := G) (ci := 2) (v := .ref (g 5)) (C := RX2) (T := TX2) (N := 12) hx hb hts hinX2 hown hK hP 0 rfl rfl 4 (by decide) (hts (.fieldLink RX2 45 "SealedPages" "draftBytes" "[I") (by decide +kernel)) (fun _ h => h) rfl dX2_put_19 ?_
    refine lv_iload_n hx hb dX2_put_22 rfl (lv_at hl 2 rfl) ?_
    refine lv_iload_n hx hb dX2_put_23 rfl (lv_at hl 3 rfl) ?_
    refine lv_sipush (v := 255) hx hb dX2_put_24 (by decide) ?_
    refine lv_iand hx hb dX2_put_27 ?_
    refine x_ast (i := zq) hx hb hK hP hD hS 5 0 rfl rfl (by omega) (by decide) dX2_put_28 (fun H locs hP hD hS => ?_)
    have hP : va_P G vwCl (xW g cA N D R (upd F zq (v &&& 255)) KD KR FL SU WO ln kp rd wr ft) _ := hP
    have hD : va_D _ (xW g cA N D R (upd F zq (v &&& 255)) KD KR FL SU WO ln kp rd wr ft) := hD
    have ec_4 : upd F zq (v &&& 255) = s_put F (nI zq) v := s_put_1 hq
    rw [show xW g cA N D R (upd F zq (v &&& 255)) KD KR FL SU WO ln kp rd wr ft = xW g cA N D R (s_put F (nI zq) v) KD KR FL SU WO ln kp rd wr ft from by rw [← ec_4]] at hP hD
    refine lv_iload_n hx hb dX2_put_29 rfl (lv_at hl 0 rfl) ?_
    exact hret _ () _ _ _ _ dX2_put_30 hP hD hS ((a_at_1 hq (by decide)).symm)
  · skip
    have hc := c_3
    have ec_5 : F = s_put F x v := s_put_0 hc
    rw [show xW g cA N D R F KD KR FL SU WO ln kp rd wr ft = xW g cA N D R (s_put F x v) KD KR FL SU WO ln kp rd wr ft from by rw [← ec_5]] at hP hD
    refine lv_iconst (v := (-1)) hx hb dX2_put_9 (by decide) ?_
    exact hret _ () _ _ _ _ dX2_put_10 hP hD hS ((a_at_0 hc).symm)

set_option maxHeartbeats 4000000 in
set_option maxRecDepth 100000 in
theorem c_X2_fill (l : Launch) (G : va_G) (cA : ClassId) (tF tC : Nat) (g : Nat → Nat) (sz N : Nat) (hN : 1 ≤ N ∧ N ≤ 64) (D R F KD KR FL SU WO : Nat → Int32) (ln kp rd wr ft : Int32) (x : Int32) (v : Int64) : CI l yX2_fill wsX2_fill 1 21 G cA tF tC g 13 sz (xW g cA N D R F KD KR FL SU WO ln kp rd wr ft) [.ref (g 0), .int x, .long v] (fun (u : Unit) => xW g cA N D R (s_fill F x v) KD KR FL SU WO ln kp rd wr ft) (fun r _ => r = a_fill x) := by
  refine x_entryI (cc := cX2_fill) (maxL := 6) (by decide) rfl (fun _ => rfl) (Nat.le_of_ble_eq_true rfl) ?_
  intro p e s m args below meth c Q hx hb hml hown hts hK hP hD hS hT hret ls hl
  have hown : s.vm.findClass RX2 = some m.cls := hown
  have hl : lv_has ls 6 [(0, .ref (g 0)), (1, .int x), (2, .long v)] := hl
  have hinX2 : ∀ w ∈ wsX20, w ∈ wsX2_fill := by decide +kernel
  refine lv_iload_n hx hb dX2_fill_0 rfl (lv_at hl 1 rfl) ?_
  refine lv_bipush (v := 8) hx hb dX2_fill_1 (by decide) ?_
  refine x_si ⟨hx, hb, hml, hown, hts⟩ (c_X2_isBelow l G cA tF tC g _ N hN D R F KD KR FL SU WO ln kp rd wr ft x 8 (by omega)) (va_cwS 2 hts gX2_fill_X2_isBelow rfl rfl rfl (by decide +kernel) ⟨Nat.le_of_ble_eq_true rfl, Nat.le_of_ble_eq_true rfl⟩) hK hP hD hS hT rfl rfl hl.1 rfl (Nat.le_of_ble_eq_true rfl) dX2_fill_3 ⟨Nat.le_refl _, Nat.le_refl _⟩ (fun r_2 u H locs hp_1 hP hD hS => ?_)
  have hP : va_P G vwCl (xW g cA N D R F KD KR FL SU WO ln kp rd wr ft) _ := hP
  have hD : va_D _ (xW g cA N D R F KD KR FL SU WO ln kp rd wr ft) := hD
  have hp_1 : r_2 = inB x 8 := hp_1
  subst hp_1
  refine lv_if_ne (tgt := 11) hx hb dX2_fill_6 (by decide) (fun c_3 => ?_) (fun c_3 => ?_)
  · skip
    obtain ⟨zq, hq, rfl⟩ := inB_1 (by omega) c_3
    have hl : lv_has ls 6 [(0, .ref (g 0)), (1, .int (nI zq)), (2, .long v)] := hl
    refine lv_bipush (v := 8) hx hb dX2_fill_11 (by decide) ?_
    refine lv_iload_n hx hb dX2_fill_13 rfl (lv_at hl 1 rfl) ?_
    refine lv_imul hx hb dX2_fill_14 ?_
    refine x_eqi (y := nI (8 * zq)) (pk_mul 8 zq) ?_
    refine lv_istore (lv' := [(4, .int (nI (8 * zq))), (0, .ref (g 0)), (1, .int (nI zq)), (2, .long v)]) hx hb dX2_fill_15 hl (by decide) rfl (fun ls hl => ?_)
    refine lv_iconst (v := 0) hx hb dX2_fill_17 (by decide) ?_
    refine lv_istore (lv' := [(5, .int 0), (4, .int (nI (8 * zq))), (0, .ref (g 0)), (1, .int (nI zq)), (2, .long v)]) hx hb dX2_fill_18 hl (by decide) rfl (fun ls hl => ?_)
    have loop_20 : ∀ (n_20 : Nat) (zi : Nat), (8 - zi) < n_20 → (zi ≤ 8) → ∀ (H : Heap) (locs : List Loc) (ls : Array Slot), va_P G vwCl (xW g cA N D R (filN F zq v zi) KD KR FL SU WO ln kp rd wr ft) H → va_D (wA g 13 s.heap.size) (xW g cA N D R (filN F zq v zi) KD KR FL SU WO ln kp rd wr ft) → va_S (wA g 13 s.heap.size) s.heap H locs → lv_has ls 6 [(0, .ref (g 0)), (1, .int (nI zq)), (2, .long v), (4, .int (nI (8 * zq))), (5, .int (nI zi))] → W p l e { frames := 1, cells := 0, slots := 0, locals := 21 } s m args below meth c H locs 0 0 Q (F0 m 20 ls []) := by
      intro n_20
      induction n_20 with
      | zero => intro zi hm_20; exact absurd hm_20 (Nat.not_lt_zero _)
      | succ n_20 ih_20 =>
        intro zi hm_20 hi H locs ls hP hD hS hl
        refine lv_iload hx hb dX2_fill_20 (lv_at hl 4 rfl) ?_
        refine lv_bipush (v := 8) hx hb dX2_fill_22 (by decide) ?_
        refine lv_icmp_ge (tgt := 58) hx hb dX2_fill_24 (by decide) (fun c_4 => ?_) (fun c_4 => ?_)
        · skip
          have c_4 : 8 ≤ zi := (nI_leI (a := 8) (b := zi) (by omega) (by omega)).mp c_4
          obtain rfl : zi = 8 := by omega
          have hl : lv_has ls 6 [(0, .ref (g 0)), (1, .int (nI zq)), (2, .long v), (4, .int (nI (8 * zq))), (5, .int (nI 8))] := hl
          have ec_5 : filN F zq v 8 = s_fill F (nI zq) v := s_fill_1 hq
          rw [show xW g cA N D R (filN F zq v 8) KD KR FL SU WO ln kp rd wr ft = xW g cA N D R (s_fill F (nI zq) v) KD KR FL SU WO ln kp rd wr ft from by rw [← ec_5]] at hP hD
          refine lv_iload hx hb dX2_fill_58 (lv_at hl 3 rfl) ?_
          exact hret _ () _ _ _ _ dX2_fill_60 hP hD hS (a_fill_1 hq)
        · skip
          have c_4 : ¬ 8 ≤ zi := fun z => c_4 ((nI_leI (a := 8) (b := zi) (by omega) (by omega)).mpr z)
          refine lv_aload_n hx hb dX2_fill_27 rfl (lv_at hl 0 rfl) ?_
          refine va_get (D := G) (ci := 2) (v := .ref (g 5)) (C := RX2) (T := TX2) (N := 12) hx hb hts hinX2 hown hK hP 0 rfl rfl 4 (by decide) (hts (.fieldLink RX2 45 "SealedPages" "draftBytes" "[I") (by decide +kernel)) (fun _ h => h) rfl dX2_fill_28 ?_
          refine lv_iload hx hb dX2_fill_31 (lv_at hl 3 rfl) ?_
          refine lv_iload hx hb dX2_fill_33 (lv_at hl 4 rfl) ?_
          refine lv_iadd hx hb dX2_fill_35 ?_
          refine x_eqi (y := nI ((8 * zq) + zi)) (nI_add (8 * zq) zi) ?_
          refine lv_lload_n hx hb dX2_fill_36 rfl (lv_at hl 2 rfl) ?_
          refine lv_bipush (v := 56) hx hb dX2_fill_37 (by decide) ?_
          refine lv_bipush (v := 8) hx hb dX2_fill_39 (by decide) ?_
          refine lv_iload hx hb dX2_fill_41 (lv_at hl 4 rfl) ?_
          refine lv_imul hx hb dX2_fill_43 ?_
          refine x_eqi (y := nI (8 * zi)) (pk_mul 8 zi) ?_
          refine lv_isub hx hb dX2_fill_44 ?_
          refine x_eqi (y := nI (56 - (8 * zi))) (pk_sub (a := 56) (b := 8 * zi) (by omega)) ?_
          refine lv_lushr (v := lus v (nI (56 - (8 * zi)))) hx hb dX2_fill_45 rfl ?_
          refine lv_l2i (v := (lus v (nI (56 - (8 * zi)))).toInt32) hx hb dX2_fill_46 rfl ?_
          refine lv_sipush (v := 255) hx hb dX2_fill_47 (by decide) ?_
          refine lv_iand hx hb dX2_fill_50 ?_
          refine x_ast (i := (8 * zq) + zi) hx hb hK hP hD hS 5 0 rfl rfl (by omega) (by decide) dX2_fill_51 (fun H locs hP hD hS => ?_)
          have hP : va_P G vwCl (xW g cA N D R (upd (filN F zq v zi) ((8 * zq) + zi) (((lus v (nI (56 - (8 * zi)))).toInt32) &&& 255)) KD KR FL SU WO ln kp rd wr ft) _ := hP
          have hD : va_D _ (xW g cA N D R (upd (filN F zq v zi) ((8 * zq) + zi) (((lus v (nI (56 - (8 * zi)))).toInt32) &&& 255)) KD KR FL SU WO ln kp rd wr ft) := hD
          have ec_6 : upd (filN F zq v zi) ((8 * zq) + zi) (((lus v (nI (56 - (8 * zi)))).toInt32) &&& 255) = filN F zq v (zi + 1) := rfl
          rw [show xW g cA N D R (upd (filN F zq v zi) ((8 * zq) + zi) (((lus v (nI (56 - (8 * zi)))).toInt32) &&& 255)) KD KR FL SU WO ln kp rd wr ft = xW g cA N D R (filN F zq v (zi + 1)) KD KR FL SU WO ln kp rd wr ft from by rw [← ec_6]] at hP hD
          refine lv_iinc (v := nI (zi + 1)) (lv' := [(5, .int (nI (zi + 1))), (0, .ref (g 0)), (1, .int (nI zq)), (2, .long v), (4, .int (nI (8 * zq)))]) hx hb dX2_fill_52 hl (k := 4) rfl (nI_1 _) (by decide) rfl (fun ls hl => ?_)
          refine lv_goto (tgt := 20) hx hb dX2_fill_55 (by decide) ?_
          exact ih_20 (zi + 1) (by omega) (by omega) _ _ _ hP hD hS (lv_sub hl [1, 2, 3, 4, 0] rfl)
    exact loop_20 _ 0 (Nat.lt_succ_self _) (by omega) _ _ _ hP hD hS (lv_sub hl [2, 3, 4, 1, 0] rfl)
  · skip
    have hc := c_3
    have ec_7 : F = s_fill F x v := s_fill_0 hc
    rw [show xW g cA N D R F KD KR FL SU WO ln kp rd wr ft = xW g cA N D R (s_fill F x v) KD KR FL SU WO ln kp rd wr ft from by rw [← ec_7]] at hP hD
    refine lv_iconst (v := (-1)) hx hb dX2_fill_9 (by decide) ?_
    exact hret _ () _ _ _ _ dX2_fill_10 hP hD hS (a_fill_0 hc)

set_option maxHeartbeats 4000000 in
set_option maxRecDepth 100000 in
theorem c_X2_draft (l : Launch) (G : va_G) (cA : ClassId) (tF tC : Nat) (g : Nat → Nat) (sz N : Nat) (hN : 1 ≤ N ∧ N ≤ 64) (D R F KD KR FL SU WO : Nat → Int32) (ln kp rd wr ft : Int32) (x : Int32) : CI l yX2_draft wsX2_draft 1 21 G cA tF tC g 13 sz (xW g cA N D R F KD KR FL SU WO ln kp rd wr ft) [.ref (g 0), .int x] (fun (u : Unit) => xW g cA N D R F KD KR FL SU WO ln kp rd wr ft) (fun r _ => r = a_at F (64) x) := by
  refine x_entryI (cc := cX2_draft) (maxL := 2) (by decide) rfl (fun _ => rfl) (Nat.le_of_ble_eq_true rfl) ?_
  intro p e s m args below meth c Q hx hb hml hown hts hK hP hD hS hT hret ls hl
  have hown : s.vm.findClass RX2 = some m.cls := hown
  have hl : lv_has ls 2 [(0, .ref (g 0)), (1, .int x)] := hl
  have hinX2 : ∀ w ∈ wsX20, w ∈ wsX2_draft := by decide +kernel
  have hz := siz_le hN
  have hse := siz_eq N
  have hnd := nds_le hN
  have hlv := lvs_in hN
  refine lv_iload_n hx hb dX2_draft_0 rfl (lv_at hl 1 rfl) ?_
  refine lv_bipush (v := 64) hx hb dX2_draft_1 (by decide) ?_
  refine x_si ⟨hx, hb, hml, hown, hts⟩ (c_X2_isBelow l G cA tF tC g _ N hN D R F KD KR FL SU WO ln kp rd wr ft x 64 (by omega)) (va_cwS 2 hts gX2_draft_X2_isBelow rfl rfl rfl (by decide +kernel) ⟨Nat.le_of_ble_eq_true rfl, Nat.le_of_ble_eq_true rfl⟩) hK hP hD hS hT rfl rfl hl.1 rfl (Nat.le_of_ble_eq_true rfl) dX2_draft_3 ⟨Nat.le_refl _, Nat.le_refl _⟩ (fun r_2 u H locs hp_1 hP hD hS => ?_)
  have hP : va_P G vwCl (xW g cA N D R F KD KR FL SU WO ln kp rd wr ft) _ := hP
  have hD : va_D _ (xW g cA N D R F KD KR FL SU WO ln kp rd wr ft) := hD
  have hp_1 : r_2 = inB x 64 := hp_1
  subst hp_1
  refine lv_if_eq (tgt := 18) hx hb dX2_draft_6 (by decide) (fun c_3 => ?_) (fun c_3 => ?_)
  · skip
    have hc := (a_at_0 (F := F) c_3).symm
    refine lv_iconst (v := (-1)) hx hb dX2_draft_18 (by decide) ?_
    exact hret _ () _ _ _ _ dX2_draft_19 hP hD hS hc
  · skip
    obtain ⟨zq, hq, rfl⟩ := inB_1 (by omega) c_3
    have hc := (a_at_1 (F := F) hq (by omega)).symm
    have hl : lv_has ls 2 [(0, .ref (g 0)), (1, .int (nI zq))] := hl
    refine lv_aload_n hx hb dX2_draft_9 rfl (lv_at hl 0 rfl) ?_
    refine va_get (D := G) (ci := 2) (v := .ref (g 5)) (C := RX2) (T := TX2) (N := 12) hx hb hts hinX2 hown hK hP 0 rfl rfl 4 (by decide) (hts (.fieldLink RX2 45 "SealedPages" "draftBytes" "[I") (by decide +kernel)) (fun _ h => h) rfl dX2_draft_10 ?_
    refine lv_iload_n hx hb dX2_draft_13 rfl (lv_at hl 1 rfl) ?_
    refine x_ald (i := zq) hx hb hK hP 5 0 rfl rfl (by omega) (by decide) dX2_draft_14 ?_
    refine lv_goto (tgt := 19) hx hb dX2_draft_15 (by decide) ?_
    exact hret _ () _ _ _ _ dX2_draft_19 hP hD hS hc

set_option maxHeartbeats 4000000 in
set_option maxRecDepth 100000 in
theorem c_X2_root (l : Launch) (G : va_G) (cA : ClassId) (tF tC : Nat) (g : Nat → Nat) (sz N : Nat) (hN : 1 ≤ N ∧ N ≤ 64) (D R F KD KR FL SU WO : Nat → Int32) (ln kp rd wr ft : Int32) (x : Int32) : CI l yX2_root wsX2_root 1 21 G cA tF tC g 13 sz (xW g cA N D R F KD KR FL SU WO ln kp rd wr ft) [.ref (g 0), .int x] (fun (u : Unit) => xW g cA N D R F KD KR FL SU WO ln kp rd wr ft) (fun r _ => r = a_at R (32) x) := by
  refine x_entryI (cc := cX2_root) (maxL := 2) (by decide) rfl (fun _ => rfl) (Nat.le_of_ble_eq_true rfl) ?_
  intro p e s m args below meth c Q hx hb hml hown hts hK hP hD hS hT hret ls hl
  have hown : s.vm.findClass RX2 = some m.cls := hown
  have hl : lv_has ls 2 [(0, .ref (g 0)), (1, .int x)] := hl
  have hinX2 : ∀ w ∈ wsX20, w ∈ wsX2_root := by decide +kernel
  have hz := siz_le hN
  have hse := siz_eq N
  have hnd := nds_le hN
  have hlv := lvs_in hN
  refine lv_iload_n hx hb dX2_root_0 rfl (lv_at hl 1 rfl) ?_
  refine lv_bipush (v := 32) hx hb dX2_root_1 (by decide) ?_
  refine x_si ⟨hx, hb, hml, hown, hts⟩ (c_X2_isBelow l G cA tF tC g _ N hN D R F KD KR FL SU WO ln kp rd wr ft x 32 (by omega)) (va_cwS 2 hts gX2_root_X2_isBelow rfl rfl rfl (by decide +kernel) ⟨Nat.le_of_ble_eq_true rfl, Nat.le_of_ble_eq_true rfl⟩) hK hP hD hS hT rfl rfl hl.1 rfl (Nat.le_of_ble_eq_true rfl) dX2_root_3 ⟨Nat.le_refl _, Nat.le_refl _⟩ (fun r_2 u H locs hp_1 hP hD hS => ?_)
  have hP : va_P G vwCl (xW g cA N D R F KD KR FL SU WO ln kp rd wr ft) _ := hP
  have hD : va_D _ (xW g cA N D R F KD KR FL SU WO ln kp rd wr ft) := hD
  have hp_1 : r_2 = inB x 32 := hp_1
  subst hp_1
  refine lv_if_eq (tgt := 18) hx hb dX2_root_6 (by decide) (fun c_3 => ?_) (fun c_3 => ?_)
  · skip
    have hc := (a_at_0 (F := R) c_3).symm
    refine lv_iconst (v := (-1)) hx hb dX2_root_18 (by decide) ?_
    exact hret _ () _ _ _ _ dX2_root_19 hP hD hS hc
  · skip
    obtain ⟨zq, hq, rfl⟩ := inB_1 (by omega) c_3
    have hc := (a_at_1 (F := R) hq (by omega)).symm
    have hl : lv_has ls 2 [(0, .ref (g 0)), (1, .int (nI zq))] := hl
    refine lv_aload_n hx hb dX2_root_9 rfl (lv_at hl 0 rfl) ?_
    refine va_get (D := G) (ci := 2) (v := .ref (g 4)) (C := RX2) (T := TX2) (N := 12) hx hb hts hinX2 hown hK hP 0 rfl rfl 3 (by decide) (hts (.fieldLink RX2 42 "SealedPages" "rootBytes" "[I") (by decide +kernel)) (fun _ h => h) rfl dX2_root_10 ?_
    refine lv_iload_n hx hb dX2_root_13 rfl (lv_at hl 1 rfl) ?_
    refine x_ald (i := zq) hx hb hK hP 4 0 rfl rfl (by omega) (by decide) dX2_root_14 ?_
    refine lv_goto (tgt := 19) hx hb dX2_root_15 (by decide) ?_
    exact hret _ () _ _ _ _ dX2_root_19 hP hD hS hc

set_option maxHeartbeats 4000000 in
set_option maxRecDepth 100000 in
theorem c_X2_disk (l : Launch) (G : va_G) (cA : ClassId) (tF tC : Nat) (g : Nat → Nat) (sz N : Nat) (hN : 1 ≤ N ∧ N ≤ 64) (D R F KD KR FL SU WO : Nat → Int32) (ln kp rd wr ft : Int32) (x : Int32) : CI l yX2_disk wsX2_disk 1 21 G cA tF tC g 13 sz (xW g cA N D R F KD KR FL SU WO ln kp rd wr ft) [.ref (g 0), .int x] (fun (u : Unit) => xW g cA N D R F KD KR FL SU WO ln kp rd wr ft) (fun r _ => r = a_at D (siz N) x) := by
  refine x_entryI (cc := cX2_disk) (maxL := 2) (by decide) rfl (fun _ => rfl) (Nat.le_of_ble_eq_true rfl) ?_
  intro p e s m args below meth c Q hx hb hml hown hts hK hP hD hS hT hret ls hl
  have hown : s.vm.findClass RX2 = some m.cls := hown
  have hl : lv_has ls 2 [(0, .ref (g 0)), (1, .int x)] := hl
  have hinX1 : ∀ w ∈ wsX10, w ∈ wsX2_disk := by decide +kernel
  have hinX2 : ∀ w ∈ wsX20, w ∈ wsX2_disk := by decide +kernel
  have hz := siz_le hN
  have hse := siz_eq N
  have hnd := nds_le hN
  have hlv := lvs_in hN
  refine lv_iload_n hx hb dX2_disk_0 rfl (lv_at hl 1 rfl) ?_
  refine lv_aload_n hx hb dX2_disk_1 rfl (lv_at hl 0 rfl) ?_
  refine va_get (D := G) (ci := 2) (v := .ref (g 1)) (C := RX2) (T := TX2) (N := 12) hx hb hts hinX2 hown hK hP 0 rfl rfl 0 (by decide) (hts (.fieldLink RX2 23 "SealedPages" "layout" "LSealedPages$Layout;") (by decide +kernel)) (fun _ h => h) rfl dX2_disk_2 ?_
  refine va_get (D := G) (ci := 1) (v := .int (nI (siz N))) (C := RX1) (T := TX1) (N := 6) hx hb hts hinX1 hown hK hP 1 rfl rfl 3 (by decide) (hts (.fieldLink RX2 34 "SealedPages$Layout" "byteCount" "I") (by decide +kernel)) (fun _ h => h) rfl dX2_disk_5 ?_
  refine x_si ⟨hx, hb, hml, hown, hts⟩ (c_X2_isBelow l G cA tF tC g _ N hN D R F KD KR FL SU WO ln kp rd wr ft x (siz N) (by omega)) (va_cwS 2 hts gX2_disk_X2_isBelow rfl rfl rfl (by decide +kernel) ⟨Nat.le_of_ble_eq_true rfl, Nat.le_of_ble_eq_true rfl⟩) hK hP hD hS hT rfl rfl hl.1 rfl (Nat.le_of_ble_eq_true rfl) dX2_disk_8 ⟨Nat.le_refl _, Nat.le_refl _⟩ (fun r_2 u H locs hp_1 hP hD hS => ?_)
  have hP : va_P G vwCl (xW g cA N D R F KD KR FL SU WO ln kp rd wr ft) _ := hP
  have hD : va_D _ (xW g cA N D R F KD KR FL SU WO ln kp rd wr ft) := hD
  have hp_1 : r_2 = inB x (siz N) := hp_1
  subst hp_1
  refine lv_if_eq (tgt := 23) hx hb dX2_disk_11 (by decide) (fun c_3 => ?_) (fun c_3 => ?_)
  · skip
    have hc := (a_at_0 (F := D) c_3).symm
    refine lv_iconst (v := (-1)) hx hb dX2_disk_23 (by decide) ?_
    exact hret _ () _ _ _ _ dX2_disk_24 hP hD hS hc
  · skip
    obtain ⟨zq, hq, rfl⟩ := inB_1 (by omega) c_3
    have hc := (a_at_1 (F := D) hq (by omega)).symm
    have hl : lv_has ls 2 [(0, .ref (g 0)), (1, .int (nI zq))] := hl
    refine lv_aload_n hx hb dX2_disk_14 rfl (lv_at hl 0 rfl) ?_
    refine va_get (D := G) (ci := 2) (v := .ref (g 3)) (C := RX2) (T := TX2) (N := 12) hx hb hts hinX2 hown hK hP 0 rfl rfl 2 (by decide) (hts (.fieldLink RX2 38 "SealedPages" "diskBytes" "[I") (by decide +kernel)) (fun _ h => h) rfl dX2_disk_15 ?_
    refine lv_iload_n hx hb dX2_disk_18 rfl (lv_at hl 1 rfl) ?_
    refine x_ald (i := zq) hx hb hK hP 3 0 rfl rfl (by omega) (by have := siz_le hN; have := nds_le hN; omega) dX2_disk_19 ?_
    refine lv_goto (tgt := 24) hx hb dX2_disk_20 (by decide) ?_
    exact hret _ () _ _ _ _ dX2_disk_24 hP hD hS hc

set_option maxHeartbeats 4000000 in
set_option maxRecDepth 100000 in
theorem c_X2_alter (l : Launch) (G : va_G) (cA : ClassId) (tF tC : Nat) (g : Nat → Nat) (sz N : Nat) (hN : 1 ≤ N ∧ N ≤ 64) (D R F KD KR FL SU WO : Nat → Int32) (ln kp rd wr ft : Int32) (x v : Int32) : CI l yX2_alter wsX2_alter 1 21 G cA tF tC g 13 sz (xW g cA N D R F KD KR FL SU WO ln kp rd wr ft) [.ref (g 0), .int x, .int v] (fun (u : Unit) => xW g cA N (s_alt N D x v) R F KD KR FL SU WO ln kp rd wr ft) (fun r _ => r = a_at D (siz N) x) := by
  refine x_entryI (cc := cX2_alter) (maxL := 4) (by decide) rfl (fun _ => rfl) (Nat.le_of_ble_eq_true rfl) ?_
  intro p e s m args below meth c Q hx hb hml hown hts hK hP hD hS hT hret ls hl
  have hown : s.vm.findClass RX2 = some m.cls := hown
  have hl : lv_has ls 4 [(0, .ref (g 0)), (1, .int x), (2, .int v)] := hl
  have hinX1 : ∀ w ∈ wsX10, w ∈ wsX2_alter := by decide +kernel
  have hinX2 : ∀ w ∈ wsX20, w ∈ wsX2_alter := by decide +kernel
  have hz := siz_le hN
  have hse := siz_eq N
  have hnd := nds_le hN
  have hlv := lvs_in hN
  refine lv_iload_n hx hb dX2_alter_0 rfl (lv_at hl 1 rfl) ?_
  refine lv_aload_n hx hb dX2_alter_1 rfl (lv_at hl 0 rfl) ?_
  refine va_get (D := G) (ci := 2) (v := .ref (g 1)) (C := RX2) (T := TX2) (N := 12) hx hb hts hinX2 hown hK hP 0 rfl rfl 0 (by decide) (hts (.fieldLink RX2 23 "SealedPages" "layout" "LSealedPages$Layout;") (by decide +kernel)) (fun _ h => h) rfl dX2_alter_2 ?_
  refine va_get (D := G) (ci := 1) (v := .int (nI (siz N))) (C := RX1) (T := TX1) (N := 6) hx hb hts hinX1 hown hK hP 1 rfl rfl 3 (by decide) (hts (.fieldLink RX2 34 "SealedPages$Layout" "byteCount" "I") (by decide +kernel)) (fun _ h => h) rfl dX2_alter_5 ?_
  refine x_si ⟨hx, hb, hml, hown, hts⟩ (c_X2_isBelow l G cA tF tC g _ N hN D R F KD KR FL SU WO ln kp rd wr ft x (siz N) (by omega)) (va_cwS 2 hts gX2_alter_X2_isBelow rfl rfl rfl (by decide +kernel) ⟨Nat.le_of_ble_eq_true rfl, Nat.le_of_ble_eq_true rfl⟩) hK hP hD hS hT rfl rfl hl.1 rfl (Nat.le_of_ble_eq_true rfl) dX2_alter_8 ⟨Nat.le_refl _, Nat.le_refl _⟩ (fun r_2 u H locs hp_1 hP hD hS => ?_)
  have hP : va_P G vwCl (xW g cA N D R F KD KR FL SU WO ln kp rd wr ft) _ := hP
  have hD : va_D _ (xW g cA N D R F KD KR FL SU WO ln kp rd wr ft) := hD
  have hp_1 : r_2 = inB x (siz N) := hp_1
  subst hp_1
  refine lv_if_ne (tgt := 16) hx hb dX2_alter_11 (by decide) (fun c_3 => ?_) (fun c_3 => ?_)
  · skip
    obtain ⟨zq, hq, rfl⟩ := inB_1 (by omega) c_3
    have hl : lv_has ls 4 [(0, .ref (g 0)), (1, .int (nI zq)), (2, .int v)] := hl
    refine lv_aload_n hx hb dX2_alter_16 rfl (lv_at hl 0 rfl) ?_
    refine va_get (D := G) (ci := 2) (v := .ref (g 3)) (C := RX2) (T := TX2) (N := 12) hx hb hts hinX2 hown hK hP 0 rfl rfl 2 (by decide) (hts (.fieldLink RX2 38 "SealedPages" "diskBytes" "[I") (by decide +kernel)) (fun _ h => h) rfl dX2_alter_17 ?_
    refine lv_iload_n hx hb dX2_alter_20 rfl (lv_at hl 1 rfl) ?_
    refine x_ald (i := zq) hx hb hK hP 3 0 rfl rfl (by omega) (by have := siz_le hN; have := nds_le hN; omega) dX2_alter_21 ?_
    refine lv_istore_n (lv' := [(3, .int (D zq)), (0, .ref (g 0)), (1, .int (nI zq)), (2, .int v)]) hx hb dX2_alter_22 rfl hl (by decide) rfl (fun ls hl => ?_)
    refine lv_aload_n hx hb dX2_alter_23 rfl (lv_at hl 1 rfl) ?_
    refine va_get (D := G) (ci := 2) (v := .ref (g 3)) (C := RX2) (T := TX2) (N := 12) hx hb hts hinX2 hown hK hP 0 rfl rfl 2 (by decide) (hts (.fieldLink RX2 38 "SealedPages" "diskBytes" "[I") (by decide +kernel)) (fun _ h => h) rfl dX2_alter_24 ?_
    refine lv_iload_n hx hb dX2_alter_27 rfl (lv_at hl 2 rfl) ?_
    refine lv_iload_n hx hb dX2_alter_28 rfl (lv_at hl 0 rfl) ?_
    refine lv_iload_n hx hb dX2_alter_29 rfl (lv_at hl 3 rfl) ?_
    refine lv_sipush (v := 255) hx hb dX2_alter_30 (by decide) ?_
    refine lv_iand hx hb dX2_alter_33 ?_
    refine lv_ixor hx hb dX2_alter_34 ?_
    refine x_ast (i := zq) hx hb hK hP hD hS 3 0 rfl rfl (by omega) (by have := siz_le hN; have := nds_le hN; omega) dX2_alter_35 (fun H locs hP hD hS => ?_)
    have hP : va_P G vwCl (xW g cA N (upd D zq ((D zq) ^^^ (v &&& 255))) R F KD KR FL SU WO ln kp rd wr ft) _ := hP
    have hD : va_D _ (xW g cA N (upd D zq ((D zq) ^^^ (v &&& 255))) R F KD KR FL SU WO ln kp rd wr ft) := hD
    have ec_4 : upd D zq ((D zq) ^^^ (v &&& 255)) = s_alt N D (nI zq) v := s_alt_1 hN hq
    rw [show xW g cA N (upd D zq ((D zq) ^^^ (v &&& 255))) R F KD KR FL SU WO ln kp rd wr ft = xW g cA N (s_alt N D (nI zq) v) R F KD KR FL SU WO ln kp rd wr ft from by rw [← ec_4]] at hP hD
    refine lv_iload_n hx hb dX2_alter_36 rfl (lv_at hl 0 rfl) ?_
    exact hret _ () _ _ _ _ dX2_alter_37 hP hD hS ((a_at_1 hq (by omega)).symm)
  · skip
    have hc := c_3
    have ec_5 : D = s_alt N D x v := s_alt_0 hc
    rw [show xW g cA N D R F KD KR FL SU WO ln kp rd wr ft = xW g cA N (s_alt N D x v) R F KD KR FL SU WO ln kp rd wr ft from by rw [← ec_5]] at hP hD
    refine lv_iconst (v := (-1)) hx hb dX2_alter_14 (by decide) ?_
    exact hret _ () _ _ _ _ dX2_alter_15 hP hD hS ((a_at_0 hc).symm)

set_option maxHeartbeats 4000000 in
set_option maxRecDepth 100000 in
theorem c_X2_size (l : Launch) (G : va_G) (cA : ClassId) (tF tC : Nat) (g : Nat → Nat) (sz N : Nat) (hN : 1 ≤ N ∧ N ≤ 64) (D R F KD KR FL SU WO : Nat → Int32) (ln kp rd wr ft : Int32)  : CI l yX2_size wsX2_size 0 0 G cA tF tC g 13 sz (xW g cA N D R F KD KR FL SU WO ln kp rd wr ft) [.ref (g 0)] (fun (u : Unit) => xW g cA N D R F KD KR FL SU WO ln kp rd wr ft) (fun r _ => r = nI (siz N)) := by
  refine x_entryI (cc := cX2_size) (maxL := 1) (by decide) rfl (fun _ => rfl) (Nat.le_of_ble_eq_true rfl) ?_
  intro p e s m args below meth c Q hx hb hml hown hts hK hP hD hS hT hret ls hl
  have hown : s.vm.findClass RX2 = some m.cls := hown
  have hl : lv_has ls 1 [(0, .ref (g 0))] := hl
  have hinX1 : ∀ w ∈ wsX10, w ∈ wsX2_size := by decide +kernel
  have hinX2 : ∀ w ∈ wsX20, w ∈ wsX2_size := by decide +kernel
  refine lv_aload_n hx hb dX2_size_0 rfl (lv_at hl 0 rfl) ?_
  refine va_get (D := G) (ci := 2) (v := .ref (g 1)) (C := RX2) (T := TX2) (N := 12) hx hb hts hinX2 hown hK hP 0 rfl rfl 0 (by decide) (hts (.fieldLink RX2 23 "SealedPages" "layout" "LSealedPages$Layout;") (by decide +kernel)) (fun _ h => h) rfl dX2_size_1 ?_
  refine va_get (D := G) (ci := 1) (v := .int (nI (siz N))) (C := RX1) (T := TX1) (N := 6) hx hb hts hinX1 hown hK hP 1 rfl rfl 3 (by decide) (hts (.fieldLink RX2 34 "SealedPages$Layout" "byteCount" "I") (by decide +kernel)) (fun _ h => h) rfl dX2_size_4 ?_
  exact hret _ () _ _ _ _ dX2_size_7 hP hD hS rfl

set_option maxHeartbeats 4000000 in
set_option maxRecDepth 100000 in
theorem c_X2_levels (l : Launch) (G : va_G) (cA : ClassId) (tF tC : Nat) (g : Nat → Nat) (sz N : Nat) (hN : 1 ≤ N ∧ N ≤ 64) (D R F KD KR FL SU WO : Nat → Int32) (ln kp rd wr ft : Int32)  : CI l yX2_levels wsX2_levels 0 0 G cA tF tC g 13 sz (xW g cA N D R F KD KR FL SU WO ln kp rd wr ft) [.ref (g 0)] (fun (u : Unit) => xW g cA N D R F KD KR FL SU WO ln kp rd wr ft) (fun r _ => r = nI (lvs N)) := by
  refine x_entryI (cc := cX2_levels) (maxL := 1) (by decide) rfl (fun _ => rfl) (Nat.le_of_ble_eq_true rfl) ?_
  intro p e s m args below meth c Q hx hb hml hown hts hK hP hD hS hT hret ls hl
  have hown : s.vm.findClass RX2 = some m.cls := hown
  have hl : lv_has ls 1 [(0, .ref (g 0))] := hl
  have hinX1 : ∀ w ∈ wsX10, w ∈ wsX2_levels := by decide +kernel
  have hinX2 : ∀ w ∈ wsX20, w ∈ wsX2_levels := by decide +kernel
  refine lv_aload_n hx hb dX2_levels_0 rfl (lv_at hl 0 rfl) ?_
  refine va_get (D := G) (ci := 2) (v := .ref (g 1)) (C := RX2) (T := TX2) (N := 12) hx hb hts hinX2 hown hK hP 0 rfl rfl 0 (by decide) (hts (.fieldLink RX2 23 "SealedPages" "layout" "LSealedPages$Layout;") (by decide +kernel)) (fun _ h => h) rfl dX2_levels_1 ?_
  refine va_get (D := G) (ci := 1) (v := .int (nI (lvs N))) (C := RX1) (T := TX1) (N := 6) hx hb hts hinX1 hown hK hP 1 rfl rfl 1 (by decide) (hts (.fieldLink RX2 100 "SealedPages$Layout" "levelCount" "I") (by decide +kernel)) (fun _ h => h) rfl dX2_levels_4 ?_
  exact hret _ () _ _ _ _ dX2_levels_7 hP hD hS rfl

set_option maxHeartbeats 4000000 in
set_option maxRecDepth 100000 in
theorem c_X2_carry (l : Launch) (G : va_G) (cA : ClassId) (tF tC : Nat) (g : Nat → Nat) (sz N : Nat) (hN : 1 ≤ N ∧ N ≤ 64) (D R F KD KR FL SU WO : Nat → Int32) (ln kp rd wr ft : Int32) (x y z : Int32) : CI l yX2_carry wsX2_carry 1 60 G cA tF tC g 13 sz (xW g cA N D R F KD KR FL SU WO ln kp rd wr ft) [.ref (g 0), .int x, .int y, .int z] (fun (u : Unit) => xW g cA N (s_car N D x y z) R F KD KR FL SU WO ln kp rd wr ft) (fun r _ => r = a_car N x y z) := by
  refine x_entryI (cc := cX2_carry) (maxL := 5) (by decide) rfl (fun _ => rfl) (Nat.le_of_ble_eq_true rfl) ?_
  intro p e s m args below meth c Q hx hb hml hown hts hK hP hD hS hT hret ls hl
  have hown : s.vm.findClass RX2 = some m.cls := hown
  have hl : lv_has ls 5 [(0, .ref (g 0)), (1, .int x), (2, .int y), (3, .int z)] := hl
  have hinX1 : ∀ w ∈ wsX10, w ∈ wsX2_carry := by decide +kernel
  have hinX2 : ∀ w ∈ wsX20, w ∈ wsX2_carry := by decide +kernel
  have hz := siz_le hN
  have hse := siz_eq N
  have hnd := nds_le hN
  have hlv := lvs_in hN
  refine lv_iload_n hx hb dX2_carry_0 rfl (lv_at hl 3 rfl) ?_
  refine lv_if_lt (tgt := 12) hx hb dX2_carry_1 (by decide) (fun c_1 => ?_) (fun c_1 => ?_)
  · skip
    have hc : carB N x y z = false := car_f (fun h => by have h1 := h.1; rw [Int32.lt_iff_toInt_lt, Int32.toInt_zero] at c_1; omega)
    have ec_2 : D = s_car N D x y z := by unfold s_car; rw [if_neg (by rw [hc]; decide)]
    rw [show xW g cA N D R F KD KR FL SU WO ln kp rd wr ft = xW g cA N (s_car N D x y z) R F KD KR FL SU WO ln kp rd wr ft from by rw [← ec_2]] at hP hD
    refine lv_iconst (v := (-1)) hx hb dX2_carry_12 (by decide) ?_
    exact hret _ () _ _ _ _ dX2_carry_13 hP hD hS (by unfold a_car; rw [if_neg (by rw [hc]; decide)])
  · skip
    have hz0 := c_1
    refine lv_iload_n hx hb dX2_carry_4 rfl (lv_at hl 1 rfl) ?_
    refine lv_if_lt (tgt := 12) hx hb dX2_carry_5 (by decide) (fun c_3 => ?_) (fun c_3 => ?_)
    · skip
      have hc : carB N x y z = false := car_f (fun h => by have h1 := h.2.1; rw [Int32.lt_iff_toInt_lt, Int32.toInt_zero] at c_3; omega)
      have ec_4 : D = s_car N D x y z := by unfold s_car; rw [if_neg (by rw [hc]; decide)]
      rw [show xW g cA N D R F KD KR FL SU WO ln kp rd wr ft = xW g cA N (s_car N D x y z) R F KD KR FL SU WO ln kp rd wr ft from by rw [← ec_4]] at hP hD
      refine lv_iconst (v := (-1)) hx hb dX2_carry_12 (by decide) ?_
      exact hret _ () _ _ _ _ dX2_carry_13 hP hD hS (by unfold a_car; rw [if_neg (by rw [hc]; decide)])
    · skip
      have hx0 := c_3
      refine lv_iload_n hx hb dX2_carry_8 rfl (lv_at hl 2 rfl) ?_
      refine lv_if_ge (tgt := 14) hx hb dX2_carry_9 (by decide) (fun c_5 => ?_) (fun c_5 => ?_)
      · skip
        have hy0 := c_5
        refine lv_aload_n hx hb dX2_carry_14 rfl (lv_at hl 0 rfl) ?_
        refine va_get (D := G) (ci := 2) (v := .ref (g 1)) (C := RX2) (T := TX2) (N := 12) hx hb hts hinX2 hown hK hP 0 rfl rfl 0 (by decide) (hts (.fieldLink RX2 23 "SealedPages" "layout" "LSealedPages$Layout;") (by decide +kernel)) (fun _ h => h) rfl dX2_carry_15 ?_
        refine va_get (D := G) (ci := 1) (v := .int (nI (siz N))) (C := RX1) (T := TX1) (N := 6) hx hb hts hinX1 hown hK hP 1 rfl rfl 3 (by decide) (hts (.fieldLink RX2 34 "SealedPages$Layout" "byteCount" "I") (by decide +kernel)) (fun _ h => h) rfl dX2_carry_18 ?_
        refine lv_iload_n hx hb dX2_carry_21 rfl (lv_at hl 3 rfl) ?_
        refine lv_isub hx hb dX2_carry_22 ?_
        refine lv_topi (fun zs ezs => ?_)
        refine lv_istore (lv' := [(4, .int zs), (0, .ref (g 0)), (1, .int x), (2, .int y), (3, .int z)]) hx hb dX2_carry_23 hl (by decide) rfl (fun ls hl => ?_)
        refine lv_iload_n hx hb dX2_carry_25 rfl (lv_at hl 2 rfl) ?_
        refine lv_iload hx hb dX2_carry_26 (lv_at hl 0 rfl) ?_
        refine lv_icmp_gt (tgt := 37) hx hb dX2_carry_28 (by decide) (fun c_6 => ?_) (fun c_6 => ?_)
        · skip
          have hc : carB N x y z = false := car_f (fun h => by have h1 := h.2.2.2.1; rw [ezs, Int32.lt_iff_toInt_lt, sub_in (by omega) hz0] at c_6; omega)
          have ec_7 : D = s_car N D x y z := by unfold s_car; rw [if_neg (by rw [hc]; decide)]
          rw [show xW g cA N D R F KD KR FL SU WO ln kp rd wr ft = xW g cA N (s_car N D x y z) R F KD KR FL SU WO ln kp rd wr ft from by rw [← ec_7]] at hP hD
          refine lv_iconst (v := (-1)) hx hb dX2_carry_37 (by decide) ?_
          exact hret _ () _ _ _ _ dX2_carry_38 hP hD hS (by unfold a_car; rw [if_neg (by rw [hc]; decide)])
        · skip
          have hx1 := c_6
          refine lv_iload_n hx hb dX2_carry_31 rfl (lv_at hl 3 rfl) ?_
          refine lv_iload hx hb dX2_carry_32 (lv_at hl 0 rfl) ?_
          refine lv_icmp_le (tgt := 39) hx hb dX2_carry_34 (by decide) (fun c_8 => ?_) (fun c_8 => ?_)
          · skip
            have hct : carB N x y z = true := (carB_iff N x y z).mpr (by
              have hy1 := c_8
              rw [ezs, Int32.le_iff_toInt_le, sub_in (by omega) hz0] at hy1
              rw [ezs, Int32.lt_iff_toInt_lt, sub_in (by omega) hz0] at hx1
              rw [Int32.lt_iff_toInt_lt, Int32.toInt_zero] at hz0 hx0
              rw [Int32.le_iff_toInt_le, Int32.toInt_zero] at hy0
              exact ⟨by omega, by omega, hy0, by omega, by omega⟩)
            obtain ⟨qx, qy, qz, rfl, rfl, rfl, hcx, hcy⟩ := car_t hN hct
            have hl : lv_has ls 5 [(4, .int zs), (0, .ref (g 0)), (1, .int (nI qx)), (2, .int (nI qy)), (3, .int (nI qz))] := hl
            refine lv_aload_n hx hb dX2_carry_39 rfl (lv_at hl 1 rfl) ?_
            refine va_get (D := G) (ci := 2) (v := .ref (g 3)) (C := RX2) (T := TX2) (N := 12) hx hb hts hinX2 hown hK hP 0 rfl rfl 2 (by decide) (hts (.fieldLink RX2 38 "SealedPages" "diskBytes" "[I") (by decide +kernel)) (fun _ h => h) rfl dX2_carry_40 ?_
            refine lv_iload_n hx hb dX2_carry_43 rfl (lv_at hl 2 rfl) ?_
            refine lv_aload_n hx hb dX2_carry_44 rfl (lv_at hl 1 rfl) ?_
            refine va_get (D := G) (ci := 2) (v := .ref (g 3)) (C := RX2) (T := TX2) (N := 12) hx hb hts hinX2 hown hK hP 0 rfl rfl 2 (by decide) (hts (.fieldLink RX2 38 "SealedPages" "diskBytes" "[I") (by decide +kernel)) (fun _ h => h) rfl dX2_carry_45 ?_
            refine lv_iload_n hx hb dX2_carry_48 rfl (lv_at hl 3 rfl) ?_
            refine lv_iload_n hx hb dX2_carry_49 rfl (lv_at hl 4 rfl) ?_
            refine x_cpy (spN := qx) (dpN := qy) (nN := qz) hx hb (by rw [hml]; exact hl.1.symm) hown (hts (.methodLink RX2 74 arraycopyName) (by decide +kernel)) (hts (.native arraycopyName) (by decide +kernel)) (hts (.static arraycopyName) (by decide +kernel)) (hts (.initialized "java/lang/System") (by decide +kernel)) hK hP hD hS 3 3 0 rfl rfl rfl (by omega) (by omega) (⟨by omega, by omega⟩) (Nat.le_of_ble_eq_true rfl) (Nat.le_of_ble_eq_true rfl) dX2_carry_50 (fun H locs hP hD hS => ?_)
            have hP : va_P G vwCl (xW g cA N (va_cpy D D qx qy qz) R F KD KR FL SU WO ln kp rd wr ft) _ := hP
            have hD : va_D _ (xW g cA N (va_cpy D D qx qy qz) R F KD KR FL SU WO ln kp rd wr ft) := hD
            have ec_9 : va_cpy D D qx qy qz = s_car N D (nI qx) (nI qy) (nI qz) := by unfold s_car; rw [if_pos hct, nI_clamp (by omega), nI_clamp (by omega), nI_clamp (by omega)]
            rw [show xW g cA N (va_cpy D D qx qy qz) R F KD KR FL SU WO ln kp rd wr ft = xW g cA N (s_car N D (nI qx) (nI qy) (nI qz)) R F KD KR FL SU WO ln kp rd wr ft from by rw [← ec_9]] at hP hD
            refine lv_iload_n hx hb dX2_carry_53 rfl (lv_at hl 4 rfl) ?_
            exact hret _ () _ _ _ _ dX2_carry_54 hP hD hS (by unfold a_car; rw [if_pos hct])
          · skip
            have hc : carB N x y z = false := car_f (fun h => by have h1 := h.2.2.2.2; rw [ezs, Int32.le_iff_toInt_le, sub_in (by omega) hz0] at c_8; omega)
            have ec_10 : D = s_car N D x y z := by unfold s_car; rw [if_neg (by rw [hc]; decide)]
            rw [show xW g cA N D R F KD KR FL SU WO ln kp rd wr ft = xW g cA N (s_car N D x y z) R F KD KR FL SU WO ln kp rd wr ft from by rw [← ec_10]] at hP hD
            refine lv_iconst (v := (-1)) hx hb dX2_carry_37 (by decide) ?_
            exact hret _ () _ _ _ _ dX2_carry_38 hP hD hS (by unfold a_car; rw [if_neg (by rw [hc]; decide)])
      · skip
        have hc : carB N x y z = false := car_f (fun h => by have h1 := h.2.2.1; rw [Int32.le_iff_toInt_le, Int32.toInt_zero] at c_5; omega)
        have ec_11 : D = s_car N D x y z := by unfold s_car; rw [if_neg (by rw [hc]; decide)]
        rw [show xW g cA N D R F KD KR FL SU WO ln kp rd wr ft = xW g cA N (s_car N D x y z) R F KD KR FL SU WO ln kp rd wr ft from by rw [← ec_11]] at hP hD
        refine lv_iconst (v := (-1)) hx hb dX2_carry_12 (by decide) ?_
        exact hret _ () _ _ _ _ dX2_carry_13 hP hD hS (by unfold a_car; rw [if_neg (by rw [hc]; decide)])

set_option maxHeartbeats 4000000 in
set_option maxRecDepth 100000 in
theorem c_X2_fault (l : Launch) (G : va_G) (cA : ClassId) (tF tC : Nat) (g : Nat → Nat) (sz N : Nat) (hN : 1 ≤ N ∧ N ≤ 64) (D R F KD KR FL SU WO : Nat → Int32) (ln kp rd wr ft : Int32) (x : Int32) : CI l yX2_fault wsX2_fault 5 125 G cA tF tC g 13 sz (xW g cA N D R F KD KR FL SU WO ln kp rd wr ft) [.ref (g 0), .int x] (fun (u : (Nat → Int32) × (Nat → Int32) × Int32) => xW g cA N D R F KD KR FL u.1 u.2.1 u.2.2 kp rd wr ft) (fun r _ => r = a_flt N D R x) := by
  refine x_entryI (cc := cX2_fault) (maxL := 4) (by decide) rfl (fun _ => rfl) (Nat.le_of_ble_eq_true rfl) ?_
  intro p e s m args below meth c Q hx hb hml hown hts hK hP hD hS hT hret ls hl
  have hown : s.vm.findClass RX2 = some m.cls := hown
  have hl : lv_has ls 4 [(0, .ref (g 0)), (1, .int x)] := hl
  have hinX1 : ∀ w ∈ wsX10, w ∈ wsX2_fault := by decide +kernel
  have hinX2 : ∀ w ∈ wsX20, w ∈ wsX2_fault := by decide +kernel
  have hz := siz_le hN
  have hse := siz_eq N
  have hnd := nds_le hN
  have hlv := lvs_in hN
  refine lv_aload_n hx hb dX2_fault_0 rfl (lv_at hl 0 rfl) ?_
  refine va_get (D := G) (ci := 2) (v := .ref (g 1)) (C := RX2) (T := TX2) (N := 12) hx hb hts hinX2 hown hK hP 0 rfl rfl 0 (by decide) (hts (.fieldLink RX2 23 "SealedPages" "layout" "LSealedPages$Layout;") (by decide +kernel)) (fun _ h => h) rfl dX2_fault_1 ?_
  refine lv_iload_n hx hb dX2_fault_4 rfl (lv_at hl 1 rfl) ?_
  refine x_vi ⟨hx, hb, hml, hown, hts⟩ (c_X1_hasPage l G cA tF tC g _ N hN D R F KD KR FL SU WO ln kp rd wr ft x) (cwV 1 hts gX2_fault_X1_hasPage rfl rfl rfl (by decide +kernel) ⟨Nat.le_of_ble_eq_true rfl, Nat.le_of_ble_eq_true rfl⟩) hK hP hD hS hT rfl 1 1 rfl rfl rfl hl.1 rfl (Nat.le_of_ble_eq_true rfl) dX2_fault_5 ⟨Nat.le_refl _, Nat.le_refl _⟩ (fun r_2 u H locs hp_1 hP hD hS => ?_)
  have hP : va_P G vwCl (xW g cA N D R F KD KR FL SU WO ln kp rd wr ft) _ := hP
  have hD : va_D _ (xW g cA N D R F KD KR FL SU WO ln kp rd wr ft) := hD
  have hp_1 : r_2 = inB x N := hp_1
  subst hp_1
  refine lv_if_ne (tgt := 13) hx hb dX2_fault_8 (by decide) (fun c_3 => ?_) (fun c_3 => ?_)
  · skip
    obtain ⟨zq, hq, rfl⟩ := inB_1 (by omega) c_3
    have hl : lv_has ls 4 [(0, .ref (g 0)), (1, .int (nI zq))] := hl
    refine lv_aload_n hx hb dX2_fault_13 rfl (lv_at hl 0 rfl) ?_
    refine x_vi ⟨hx, hb, hml, hown, hts⟩ (c_X2_faultAboveTree l G cA tF tC g _ N hN D R F KD KR FL SU WO ln kp rd wr ft ) (cwV 0 hts gX2_fault_X2_faultAboveTree rfl rfl rfl (by decide +kernel) ⟨Nat.le_of_ble_eq_true rfl, Nat.le_of_ble_eq_true rfl⟩) hK hP hD hS hT rfl 0 2 rfl rfl rfl hl.1 rfl (Nat.le_of_ble_eq_true rfl) dX2_fault_14 ⟨Nat.le_refl _, Nat.le_refl _⟩ (fun r_4 u H locs hp1 hP hD hS => ?_)
    obtain ⟨SU1, WO1, ln1⟩ := u
    have hP : va_P G vwCl (xW g cA N D R F KD KR FL SU1 WO1 ln1 kp rd wr ft) _ := hP
    have hD : va_D _ (xW g cA N D R F KD KR FL SU1 WO1 ln1 kp rd wr ft) := hD
    have hp1 : r_4 = nI (fltA N D R) := hp1
    subst hp1
    refine lv_istore_n (lv' := [(2, .int (nI (fltA N D R))), (0, .ref (g 0)), (1, .int (nI zq))]) hx hb dX2_fault_17 rfl hl (by decide) rfl (fun ls hl => ?_)
    refine lv_aload_n hx hb dX2_fault_18 rfl (lv_at hl 1 rfl) ?_
    refine va_get (D := G) (ci := 2) (v := .ref (g 1)) (C := RX2) (T := TX2) (N := 12) hx hb hts hinX2 hown hK hP 0 rfl rfl 0 (by decide) (hts (.fieldLink RX2 23 "SealedPages" "layout" "LSealedPages$Layout;") (by decide +kernel)) (fun _ h => h) rfl dX2_fault_19 ?_
    refine va_get (D := G) (ci := 1) (v := .int (nI (lvs N))) (C := RX1) (T := TX1) (N := 6) hx hb hts hinX1 hown hK hP 1 rfl rfl 1 (by decide) (hts (.fieldLink RX2 100 "SealedPages$Layout" "levelCount" "I") (by decide +kernel)) (fun _ h => h) rfl dX2_fault_22 ?_
    refine lv_iconst (v := 1) hx hb dX2_fault_25 (by decide) ?_
    refine lv_isub hx hb dX2_fault_26 ?_
    refine x_eqi (y := nI (lvs N) - 1) rfl ?_
    refine lv_istore_n (lv' := [(3, .int (nI (lvs N) - 1)), (2, .int (nI (fltA N D R))), (0, .ref (g 0)), (1, .int (nI zq))]) hx hb dX2_fault_27 rfl hl (by decide) rfl (fun ls hl => ?_)
    have loop_28 : ∀ (n_28 : Nat) (zl : Nat) (zv : Nat) (SUz : Nat → Int32) (WOz : Nat → Int32) (lnz : Int32), zl < n_28 → (zl ≤ lvs N) → (zv ≤ 20) → (flt N D R zq = if zv = 0 then fltL N D zq zl else zv) → ∀ (H : Heap) (locs : List Loc) (ls : Array Slot), va_P G vwCl (xW g cA N D R F KD KR FL SUz WOz lnz kp rd wr ft) H → va_D (wA g 13 s.heap.size) (xW g cA N D R F KD KR FL SUz WOz lnz kp rd wr ft) → va_S (wA g 13 s.heap.size) s.heap H locs → lv_has ls 4 [(0, .ref (g 0)), (1, .int (nI zq)), (2, .int (nI zv)), (3, .int (nI zl - 1))] → W p l e { frames := 5, cells := 0, slots := 0, locals := 125 } s m args below meth c H locs 0 0 Q (F0 m 28 ls []) := by
      intro n_28
      induction n_28 with
      | zero => intro zl zv SUz WOz lnz hm_28; exact absurd hm_28 (Nat.not_lt_zero _)
      | succ n_28 ih_28 =>
        intro zl zv SUz WOz lnz hm_28 hzl hzv hfl H locs ls hP hD hS hl
        refine lv_iload_n hx hb dX2_fault_28 rfl (lv_at hl 3 rfl) ?_
        refine lv_if_lt (tgt := 51) hx hb dX2_fault_29 (by decide) (fun c_5 => ?_) (fun c_5 => ?_)
        · skip
          have h0 : zl = 0 := zl_0 (by omega) c_5
          have hc : nI zv = a_flt N D R (nI zq) := by rw [a_flt_1 hN hq, hfl, h0]; show _ = nI (if zv = 0 then 0 else zv); rw [if_z]
          refine lv_iload_n hx hb dX2_fault_51 rfl (lv_at hl 2 rfl) ?_
          exact hret _ (SUz, WOz, lnz) _ _ _ _ dX2_fault_52 hP hD hS hc
        · skip
          obtain ⟨zm, rfl⟩ := zl_s c_5
          have hpw : zq / 2 ^ zm ≤ zq := Nat.div_le_self _ _
          have hl : lv_has ls 4 [(0, .ref (g 0)), (1, .int (nI zq)), (2, .int (nI zv)), (3, .int (nI (zm + 1) - 1))] := hl
          have hl : lv_has ls 4 [(0, .ref (g 0)), (1, .int (nI zq)), (2, .int (nI zv)), (3, .int (nI zm))] := by rw [nI_pred] at hl; exact hl
          refine lv_iload_n hx hb dX2_fault_32 rfl (lv_at hl 2 rfl) ?_
          refine lv_if_ne (tgt := 51) hx hb dX2_fault_33 (by decide) (fun c_6 => ?_) (fun c_6 => ?_)
          · skip
            have c_6 : ¬ zv = 0 := fun z => c_6 ((nI_eq (a := zv) (b := 0) (by omega) (by omega)).mpr z)
            have hc : nI zv = a_flt N D R (nI zq) := by rw [a_flt_1 hN hq, hfl, if_neg c_6]
            refine lv_iload_n hx hb dX2_fault_51 rfl (lv_at hl 2 rfl) ?_
            exact hret _ (SUz, WOz, lnz) _ _ _ _ dX2_fault_52 hP hD hS hc
          · skip
            have c_6 : zv = 0 := (nI_eq (a := zv) (b := 0) (by omega) (by omega)).mp c_6
            have hzz := c_6
            refine lv_aload_n hx hb dX2_fault_36 rfl (lv_at hl 0 rfl) ?_
            refine lv_iload_n hx hb dX2_fault_37 rfl (lv_at hl 3 rfl) ?_
            refine lv_iload_n hx hb dX2_fault_38 rfl (lv_at hl 1 rfl) ?_
            refine lv_iload_n hx hb dX2_fault_39 rfl (lv_at hl 3 rfl) ?_
            refine lv_ishr hx hb dX2_fault_40 ?_
            refine x_eqi (y := nI (zq / 2 ^ zm)) (pk_shrN (n := zq) (by omega) _ zm (s_l _ (by omega))) ?_
            refine x_vi ⟨hx, hb, hml, hown, hts⟩ (c_X2_faultOfNode l G cA tF tC g _ N hN D R F KD KR FL SUz WOz lnz kp rd wr ft zm (zq / 2 ^ zm) (by omega) (way_in hq zm)) (cwV 2 hts gX2_fault_X2_faultOfNode rfl rfl rfl (by decide +kernel) ⟨Nat.le_of_ble_eq_true rfl, Nat.le_of_ble_eq_true rfl⟩) hK hP hD hS hT rfl 0 2 rfl rfl rfl hl.1 rfl (Nat.le_of_ble_eq_true rfl) dX2_fault_41 ⟨Nat.le_refl _, Nat.le_refl _⟩ (fun r_7 u H locs hp2 hP hD hS => ?_)
            obtain ⟨SU2, WO2, ln2⟩ := u
            have hP : va_P G vwCl (xW g cA N D R F KD KR FL SU2 WO2 ln2 kp rd wr ft) _ := hP
            have hD : va_D _ (xW g cA N D R F KD KR FL SU2 WO2 ln2 kp rd wr ft) := hD
            have hp2 : r_7 = nI (nf N D zm (zq / 2 ^ zm)) := hp2
            subst hp2
            refine lv_istore_n (lv' := [(2, .int (nI (nf N D zm (zq / 2 ^ zm)))), (0, .ref (g 0)), (1, .int (nI zq)), (3, .int (nI zm))]) hx hb dX2_fault_44 rfl hl (by decide) rfl (fun ls hl => ?_)
            refine lv_iinc (v := nI zm - 1) (lv' := [(3, .int (nI zm - 1)), (2, .int (nI (nf N D zm (zq / 2 ^ zm)))), (0, .ref (g 0)), (1, .int (nI zq))]) hx hb dX2_fault_45 hl (k := 3) rfl (dec_1 _) (by decide) rfl (fun ls hl => ?_)
            refine lv_goto (tgt := 28) hx hb dX2_fault_48 (by decide) ?_
            exact ih_28 zm (nf N D zm (zq / 2 ^ zm)) SU2 WO2 ln2 (by omega) (by omega) (by have := nf_le N D zm (zq / 2 ^ zm); omega) (by rw [hfl, if_pos hzz, fltL_s]) _ _ _ hP hD hS (lv_sub hl [2, 3, 1, 0] rfl)
    exact loop_28 _ (lvs N) (fltA N D R) SU1 WO1 ln1 (Nat.lt_succ_self _) (by omega) (by have := fltA_le N D R; omega) rfl _ _ _ hP hD hS (lv_sub hl [2, 3, 1, 0] rfl)
  · skip
    have hc := (a_flt_0 (D := D) (R := R) c_3).symm
    refine lv_iconst (v := (-1)) hx hb dX2_fault_11 (by decide) ?_
    exact hret _ (SU, WO, ln) _ _ _ _ dX2_fault_12 hP hD hS hc

set_option maxHeartbeats 4000000 in
set_option maxRecDepth 100000 in
theorem c_X2_read (l : Launch) (G : va_G) (cA : ClassId) (tF tC : Nat) (g : Nat → Nat) (sz N : Nat) (hN : 1 ≤ N ∧ N ≤ 64) (D R F KD KR FL SU WO : Nat → Int32) (ln kp rd wr ft : Int32) (x : Int32) : CI l yX2_read wsX2_read 6 148 G cA tF tC g 13 sz (xW g cA N D R F KD KR FL SU WO ln kp rd wr ft) [.ref (g 0), .int x] (fun (u : (Nat → Int32) × (Nat → Int32) × Int32) => xW g cA N D R (s_rdF N D R F x) KD KR FL u.1 u.2.1 u.2.2 kp (s_inc N D R x rd) wr (s_ft N D R x ft)) (fun r _ => r = a_flt N D R x) := by
  refine x_entryI (cc := cX2_read) (maxL := 3) (by decide) rfl (fun _ => rfl) (Nat.le_of_ble_eq_true rfl) ?_
  intro p e s m args below meth c Q hx hb hml hown hts hK hP hD hS hT hret ls hl
  have hown : s.vm.findClass RX2 = some m.cls := hown
  have hl : lv_has ls 3 [(0, .ref (g 0)), (1, .int x)] := hl
  have hinX2 : ∀ w ∈ wsX20, w ∈ wsX2_read := by decide +kernel
  have hz := siz_le hN
  have hse := siz_eq N
  have hnd := nds_le hN
  have hlv := lvs_in hN
  refine lv_aload_n hx hb dX2_read_0 rfl (lv_at hl 0 rfl) ?_
  refine lv_iload_n hx hb dX2_read_1 rfl (lv_at hl 1 rfl) ?_
  refine x_vi ⟨hx, hb, hml, hown, hts⟩ (c_X2_fault l G cA tF tC g _ N hN D R F KD KR FL SU WO ln kp rd wr ft x) (cwV 1 hts gX2_read_X2_fault rfl rfl rfl (by decide +kernel) ⟨Nat.le_of_ble_eq_true rfl, Nat.le_of_ble_eq_true rfl⟩) hK hP hD hS hT rfl 0 2 rfl rfl rfl hl.1 rfl (Nat.le_of_ble_eq_true rfl) dX2_read_2 ⟨Nat.le_refl _, Nat.le_refl _⟩ (fun r_1 u H locs hp1 hP hD hS => ?_)
  obtain ⟨SU1, WO1, ln1⟩ := u
  have hP : va_P G vwCl (xW g cA N D R F KD KR FL SU1 WO1 ln1 kp rd wr ft) _ := hP
  have hD : va_D _ (xW g cA N D R F KD KR FL SU1 WO1 ln1 kp rd wr ft) := hD
  have hp1 : r_1 = a_flt N D R x := hp1
  subst hp1
  refine lv_topi (fun zr ezr => ?_)
  refine lv_istore_n (lv' := [(2, .int zr), (0, .ref (g 0)), (1, .int x)]) hx hb dX2_read_5 rfl hl (by decide) rfl (fun ls hl => ?_)
  refine lv_iload_n hx hb dX2_read_6 rfl (lv_at hl 0 rfl) ?_
  refine lv_if_ne (tgt := 45) hx hb dX2_read_7 (by decide) (fun c_2 => ?_) (fun c_2 => ?_)
  · skip
    have hzn : ¬ a_flt N D R x = 0 := fun h => c_2 (ezr.trans h)
    refine lv_iload_n hx hb dX2_read_45 rfl (lv_at hl 0 rfl) ?_
    refine lv_iconst (v := (-1)) hx hb dX2_read_46 (by decide) ?_
    refine lv_icmp_eq (tgt := 60) hx hb dX2_read_47 (by decide) (fun c_3 => ?_) (fun c_3 => ?_)
    · skip
      have hz1 : a_flt N D R x = -1 := ezr.symm.trans c_3
      have ec_4 : F = s_rdF N D R F x := by first | exact s_rdF_0 hz0 hxq (by omega) | exact s_rdF_1 hzn
      rw [show xW g cA N D R F KD KR FL SU1 WO1 ln1 kp rd wr ft = xW g cA N D R (s_rdF N D R F x) KD KR FL SU1 WO1 ln1 kp rd wr ft from by rw [← ec_4]] at hP hD
      have ec_5 : rd = s_inc N D R x rd := by first | exact s_inc_0 hz0 | exact s_inc_1 hzn
      rw [show xW g cA N D R (s_rdF N D R F x) KD KR FL SU1 WO1 ln1 kp rd wr ft = xW g cA N D R (s_rdF N D R F x) KD KR FL SU1 WO1 ln1 kp (s_inc N D R x rd) wr ft from by rw [← ec_5]] at hP hD
      have ec_6 : ft = s_ft N D R x ft := by first | exact s_ft_0 hz0 | exact s_ft_1 hzn hz1 | exact s_ft_2 hzn hz2
      rw [show xW g cA N D R (s_rdF N D R F x) KD KR FL SU1 WO1 ln1 kp (s_inc N D R x rd) wr ft = xW g cA N D R (s_rdF N D R F x) KD KR FL SU1 WO1 ln1 kp (s_inc N D R x rd) wr (s_ft N D R x ft) from by rw [← ec_6]] at hP hD
      refine lv_iload_n hx hb dX2_read_60 rfl (lv_at hl 0 rfl) ?_
      exact hret _ (SU1, WO1, ln1) _ _ _ _ dX2_read_61 hP hD hS ezr
    · skip
      have hz2 : ¬ a_flt N D R x = -1 := fun h => c_3 (ezr.trans h)
      refine lv_aload_n hx hb dX2_read_50 rfl (lv_at hl 1 rfl) ?_
      refine lv_dup hx hb dX2_read_51 rfl ?_
      refine va_get (D := G) (ci := 2) (v := .int ft) (C := RX2) (T := TX2) (N := 12) hx hb hts hinX2 hown hK hP 0 rfl rfl 11 (by decide) (hts (.fieldLink RX2 83 "SealedPages" "faultsTold" "I") (by decide +kernel)) (fun _ h => h) rfl dX2_read_52 ?_
      refine lv_iconst (v := 1) hx hb dX2_read_55 (by decide) ?_
      refine lv_iadd hx hb dX2_read_56 ?_
      refine va_put (D := G) (ci := 2) (v := .int (ft + 1)) (ty := .int) (C := RX2) (T := TX2) (N := 12) hx hb hts hinX2 tyX2 tyX2_ok nmX2 hown hK hP hD hS 0 rfl rfl 11 (by decide) (hts (.fieldLink RX2 83 "SealedPages" "faultsTold" "I") (by decide +kernel)) (fun _ h => h) rfl (by decide +kernel) rfl rfl (Nat.le_of_ble_eq_true rfl) dX2_read_57 (fun H locs hP hD hS => ?_)
      have hP : va_P G vwCl (xW g cA N D R F KD KR FL SU1 WO1 ln1 kp rd wr (ft + 1)) _ := hP
      have hD : va_D _ (xW g cA N D R F KD KR FL SU1 WO1 ln1 kp rd wr (ft + 1)) := hD
      have ec_7 : F = s_rdF N D R F x := by first | exact s_rdF_0 hz0 hxq (by omega) | exact s_rdF_1 hzn
      rw [show xW g cA N D R F KD KR FL SU1 WO1 ln1 kp rd wr (ft + 1) = xW g cA N D R (s_rdF N D R F x) KD KR FL SU1 WO1 ln1 kp rd wr (ft + 1) from by rw [← ec_7]] at hP hD
      have ec_8 : rd = s_inc N D R x rd := by first | exact s_inc_0 hz0 | exact s_inc_1 hzn
      rw [show xW g cA N D R (s_rdF N D R F x) KD KR FL SU1 WO1 ln1 kp rd wr (ft + 1) = xW g cA N D R (s_rdF N D R F x) KD KR FL SU1 WO1 ln1 kp (s_inc N D R x rd) wr (ft + 1) from by rw [← ec_8]] at hP hD
      have ec_9 : ft + 1 = s_ft N D R x ft := by first | exact s_ft_0 hz0 | exact s_ft_1 hzn hz1 | exact s_ft_2 hzn hz2
      rw [show xW g cA N D R (s_rdF N D R F x) KD KR FL SU1 WO1 ln1 kp (s_inc N D R x rd) wr (ft + 1) = xW g cA N D R (s_rdF N D R F x) KD KR FL SU1 WO1 ln1 kp (s_inc N D R x rd) wr (s_ft N D R x ft) from by rw [← ec_9]] at hP hD
      refine lv_iload_n hx hb dX2_read_60 rfl (lv_at hl 0 rfl) ?_
      exact hret _ (SU1, WO1, ln1) _ _ _ _ dX2_read_61 hP hD hS ezr
  · skip
    have hz0 : a_flt N D R x = 0 := ezr.symm.trans c_2
    obtain ⟨zq, hq, hxq⟩ := a_flt_z hN hz0
    have hpi := page_in hq
    have hl : lv_has ls 3 [(2, .int zr), (0, .ref (g 0)), (1, .int (nI zq))] := by rw [hxq] at hl; exact hl
    refine lv_aload_n hx hb dX2_read_10 rfl (lv_at hl 1 rfl) ?_
    refine va_get (D := G) (ci := 2) (v := .ref (g 3)) (C := RX2) (T := TX2) (N := 12) hx hb hts hinX2 hown hK hP 0 rfl rfl 2 (by decide) (hts (.fieldLink RX2 38 "SealedPages" "diskBytes" "[I") (by decide +kernel)) (fun _ h => h) rfl dX2_read_11 ?_
    refine lv_aload_n hx hb dX2_read_14 rfl (lv_at hl 1 rfl) ?_
    refine va_get (D := G) (ci := 2) (v := .ref (g 1)) (C := RX2) (T := TX2) (N := 12) hx hb hts hinX2 hown hK hP 0 rfl rfl 0 (by decide) (hts (.fieldLink RX2 23 "SealedPages" "layout" "LSealedPages$Layout;") (by decide +kernel)) (fun _ h => h) rfl dX2_read_15 ?_
    refine lv_iload_n hx hb dX2_read_18 rfl (lv_at hl 2 rfl) ?_
    refine x_vi ⟨hx, hb, hml, hown, hts⟩ (c_X1_placeOfPage l G cA tF tC g _ N hN D R F KD KR FL SU1 WO1 ln1 kp rd wr ft zq) (cwV 1 hts gX2_read_X1_placeOfPage rfl rfl rfl (by decide +kernel) ⟨Nat.le_of_ble_eq_true rfl, Nat.le_of_ble_eq_true rfl⟩) hK hP hD hS hT rfl 1 1 rfl rfl rfl hl.1 rfl (Nat.le_of_ble_eq_true rfl) dX2_read_19 ⟨Nat.le_refl _, Nat.le_refl _⟩ (fun r_11 u H locs hp_10 hP hD hS => ?_)
    have hP : va_P G vwCl (xW g cA N D R F KD KR FL SU1 WO1 ln1 kp rd wr ft) _ := hP
    have hD : va_D _ (xW g cA N D R F KD KR FL SU1 WO1 ln1 kp rd wr ft) := hD
    have hp_10 : r_11 = nI (8 + 64 * zq) := hp_10
    subst hp_10
    refine lv_aload_n hx hb dX2_read_22 rfl (lv_at hl 1 rfl) ?_
    refine va_get (D := G) (ci := 2) (v := .ref (g 5)) (C := RX2) (T := TX2) (N := 12) hx hb hts hinX2 hown hK hP 0 rfl rfl 4 (by decide) (hts (.fieldLink RX2 45 "SealedPages" "draftBytes" "[I") (by decide +kernel)) (fun _ h => h) rfl dX2_read_23 ?_
    refine lv_iconst (v := 0) hx hb dX2_read_26 (by decide) ?_
    refine lv_bipush (v := 64) hx hb dX2_read_27 (by decide) ?_
    refine x_cpy (spN := 8 + 64 * zq) (dpN := 0) (nN := 64) hx hb (by rw [hml]; exact hl.1.symm) hown (hts (.methodLink RX2 74 arraycopyName) (by decide +kernel)) (hts (.native arraycopyName) (by decide +kernel)) (hts (.static arraycopyName) (by decide +kernel)) (hts (.initialized "java/lang/System") (by decide +kernel)) hK hP hD hS 3 5 0 rfl rfl rfl (by omega) (by omega) (⟨by omega, by omega⟩) (Nat.le_of_ble_eq_true rfl) (Nat.le_of_ble_eq_true rfl) dX2_read_29 (fun H locs hP hD hS => ?_)
    have hP : va_P G vwCl (xW g cA N D R (va_cpy D F (8 + 64 * zq) 0 64) KD KR FL SU1 WO1 ln1 kp rd wr ft) _ := hP
    have hD : va_D _ (xW g cA N D R (va_cpy D F (8 + 64 * zq) 0 64) KD KR FL SU1 WO1 ln1 kp rd wr ft) := hD
    refine lv_aload_n hx hb dX2_read_32 rfl (lv_at hl 1 rfl) ?_
    refine lv_dup hx hb dX2_read_33 rfl ?_
    refine va_get (D := G) (ci := 2) (v := .int rd) (C := RX2) (T := TX2) (N := 12) hx hb hts hinX2 hown hK hP 0 rfl rfl 9 (by decide) (hts (.fieldLink RX2 80 "SealedPages" "pagesGiven" "I") (by decide +kernel)) (fun _ h => h) rfl dX2_read_34 ?_
    refine lv_iconst (v := 1) hx hb dX2_read_37 (by decide) ?_
    refine lv_iadd hx hb dX2_read_38 ?_
    refine va_put (D := G) (ci := 2) (v := .int (rd + 1)) (ty := .int) (C := RX2) (T := TX2) (N := 12) hx hb hts hinX2 tyX2 tyX2_ok nmX2 hown hK hP hD hS 0 rfl rfl 9 (by decide) (hts (.fieldLink RX2 80 "SealedPages" "pagesGiven" "I") (by decide +kernel)) (fun _ h => h) rfl (by decide +kernel) rfl rfl (Nat.le_of_ble_eq_true rfl) dX2_read_39 (fun H locs hP hD hS => ?_)
    have hP : va_P G vwCl (xW g cA N D R (va_cpy D F (8 + 64 * zq) 0 64) KD KR FL SU1 WO1 ln1 kp (rd + 1) wr ft) _ := hP
    have hD : va_D _ (xW g cA N D R (va_cpy D F (8 + 64 * zq) 0 64) KD KR FL SU1 WO1 ln1 kp (rd + 1) wr ft) := hD
    refine lv_goto (tgt := 60) hx hb dX2_read_42 (by decide) ?_
    have ec_12 : va_cpy D F (8 + 64 * zq) 0 64 = s_rdF N D R F x := by first | exact s_rdF_0 hz0 hxq (by omega) | exact s_rdF_1 hzn
    rw [show xW g cA N D R (va_cpy D F (8 + 64 * zq) 0 64) KD KR FL SU1 WO1 ln1 kp (rd + 1) wr ft = xW g cA N D R (s_rdF N D R F x) KD KR FL SU1 WO1 ln1 kp (rd + 1) wr ft from by rw [← ec_12]] at hP hD
    have ec_13 : rd + 1 = s_inc N D R x rd := by first | exact s_inc_0 hz0 | exact s_inc_1 hzn
    rw [show xW g cA N D R (s_rdF N D R F x) KD KR FL SU1 WO1 ln1 kp (rd + 1) wr ft = xW g cA N D R (s_rdF N D R F x) KD KR FL SU1 WO1 ln1 kp (s_inc N D R x rd) wr ft from by rw [← ec_13]] at hP hD
    have ec_14 : ft = s_ft N D R x ft := by first | exact s_ft_0 hz0 | exact s_ft_1 hzn hz1 | exact s_ft_2 hzn hz2
    rw [show xW g cA N D R (s_rdF N D R F x) KD KR FL SU1 WO1 ln1 kp (s_inc N D R x rd) wr ft = xW g cA N D R (s_rdF N D R F x) KD KR FL SU1 WO1 ln1 kp (s_inc N D R x rd) wr (s_ft N D R x ft) from by rw [← ec_14]] at hP hD
    refine lv_iload_n hx hb dX2_read_60 rfl (lv_at hl 0 rfl) ?_
    exact hret _ (SU1, WO1, ln1) _ _ _ _ dX2_read_61 hP hD hS ezr

set_option maxHeartbeats 4000000 in
set_option maxRecDepth 100000 in
theorem c_X2_sealWay (l : Launch) (G : va_G) (cA : ClassId) (tF tC : Nat) (g : Nat → Nat) (sz N : Nat) (hN : 1 ≤ N ∧ N ≤ 64) (D R F KD KR FL SU WO : Nat → Int32) (ln kp rd wr ft : Int32) (p0 : Nat) (hp0 : p0 < N) : CV l yX2_sealWay wsX2_sealWay 5 125 G cA tF tC g 13 sz (xW g cA N D R F KD KR FL SU WO ln kp rd wr ft) [.ref (g 0), .int (nI p0)] (fun (u : (Nat → Int32) × (Nat → Int32) × Int32) => xW g cA N (sWay N D p0 (lvs N)) (sRoot N (sWay N D p0 (lvs N)) R) F KD KR FL u.1 u.2.1 u.2.2 kp rd wr ft) (fun _ => True) := by
  refine x_entryV (cc := cX2_sealWay) (maxL := 3) (by decide) rfl (fun _ => rfl) (Nat.le_of_ble_eq_true rfl) ?_
  intro p e s m args below meth c Q hx hb hml hown hts hK hP hD hS hT hret ls hl
  have hown : s.vm.findClass RX2 = some m.cls := hown
  have hl : lv_has ls 3 [(0, .ref (g 0)), (1, .int (nI p0))] := hl
  have hinX1 : ∀ w ∈ wsX10, w ∈ wsX2_sealWay := by decide +kernel
  have hinX2 : ∀ w ∈ wsX20, w ∈ wsX2_sealWay := by decide +kernel
  have hz := siz_le hN
  have hse := siz_eq N
  have hnd := nds_le hN
  have hlv := lvs_in hN
  refine lv_iconst (v := 0) hx hb dX2_sealWay_0 (by decide) ?_
  refine lv_istore_n (lv' := [(2, .int 0), (0, .ref (g 0)), (1, .int (nI p0))]) hx hb dX2_sealWay_1 rfl hl (by decide) rfl (fun ls hl => ?_)
  have loop_2 : ∀ (n_2 : Nat) (ql : Nat) (SUz : Nat → Int32) (WOz : Nat → Int32) (lnz : Int32), (lvs N - ql) < n_2 → (ql ≤ lvs N) → ∀ (H : Heap) (locs : List Loc) (ls : Array Slot), va_P G vwCl (xW g cA N (sWay N D p0 ql) R F KD KR FL SUz WOz lnz kp rd wr ft) H → va_D (wA g 13 s.heap.size) (xW g cA N (sWay N D p0 ql) R F KD KR FL SUz WOz lnz kp rd wr ft) → va_S (wA g 13 s.heap.size) s.heap H locs → lv_has ls 3 [(0, .ref (g 0)), (1, .int (nI p0)), (2, .int (nI ql))] → W p l e { frames := 5, cells := 0, slots := 0, locals := 125 } s m args below meth c H locs 0 0 Q (F0 m 2 ls []) := by
    intro n_2
    induction n_2 with
    | zero => intro ql SUz WOz lnz hm_2; exact absurd hm_2 (Nat.not_lt_zero _)
    | succ n_2 ih_2 =>
      intro ql SUz WOz lnz hm_2 hql H locs ls hP hD hS hl
      refine lv_iload_n hx hb dX2_sealWay_2 rfl (lv_at hl 2 rfl) ?_
      refine lv_aload_n hx hb dX2_sealWay_3 rfl (lv_at hl 0 rfl) ?_
      refine va_get (D := G) (ci := 2) (v := .ref (g 1)) (C := RX2) (T := TX2) (N := 12) hx hb hts hinX2 hown hK hP 0 rfl rfl 0 (by decide) (hts (.fieldLink RX2 23 "SealedPages" "layout" "LSealedPages$Layout;") (by decide +kernel)) (fun _ h => h) rfl dX2_sealWay_4 ?_
      refine va_get (D := G) (ci := 1) (v := .int (nI (lvs N))) (C := RX1) (T := TX1) (N := 6) hx hb hts hinX1 hown hK hP 1 rfl rfl 1 (by decide) (hts (.fieldLink RX2 100 "SealedPages$Layout" "levelCount" "I") (by decide +kernel)) (fun _ h => h) rfl dX2_sealWay_7 ?_
      refine lv_icmp_ge (tgt := 27) hx hb dX2_sealWay_10 (by decide) (fun c_1 => ?_) (fun c_1 => ?_)
      · skip
        have c_1 : (lvs N) ≤ ql := (nI_leI (a := (lvs N)) (b := ql) (by omega) (by omega)).mp c_1
        obtain rfl : ql = lvs N := by omega
        have hl : lv_has ls 3 [(0, .ref (g 0)), (1, .int (nI p0)), (2, .int (nI (lvs N)))] := hl
        refine lv_aload_n hx hb dX2_sealWay_27 rfl (lv_at hl 0 rfl) ?_
        refine x_vv ⟨hx, hb, hml, hown, hts⟩ (c_X2_sealRoot l G cA tF tC g _ N hN (sWay N D p0 (lvs N)) R F KD KR FL SUz WOz lnz kp rd wr ft ) (cwV 0 hts gX2_sealWay_X2_sealRoot rfl rfl rfl (by decide +kernel) ⟨Nat.le_of_ble_eq_true rfl, Nat.le_of_ble_eq_true rfl⟩) hK hP hD hS hT rfl 0 2 rfl rfl rfl hl.1 rfl (Nat.le_of_ble_eq_true rfl) dX2_sealWay_28 ⟨Nat.le_refl _, Nat.le_refl _⟩ (fun u H locs hp2 hP hD hS => ?_)
        obtain ⟨SU2, WO2, ln2⟩ := u
        have hP : va_P G vwCl (xW g cA N (sWay N D p0 (lvs N)) (sRoot N (sWay N D p0 (lvs N)) R) F KD KR FL SU2 WO2 ln2 kp rd wr ft) _ := hP
        have hD : va_D _ (xW g cA N (sWay N D p0 (lvs N)) (sRoot N (sWay N D p0 (lvs N)) R) F KD KR FL SU2 WO2 ln2 kp rd wr ft) := hD
        exact hret (SU2, WO2, ln2) _ _ _ _ dX2_sealWay_31 hP hD hS trivial
      · skip
        have c_1 : ¬ (lvs N) ≤ ql := fun z => c_1 ((nI_leI (a := (lvs N)) (b := ql) (by omega) (by omega)).mpr z)
        refine lv_aload_n hx hb dX2_sealWay_13 rfl (lv_at hl 0 rfl) ?_
        refine lv_iload_n hx hb dX2_sealWay_14 rfl (lv_at hl 2 rfl) ?_
        refine lv_iload_n hx hb dX2_sealWay_15 rfl (lv_at hl 1 rfl) ?_
        refine lv_iload_n hx hb dX2_sealWay_16 rfl (lv_at hl 2 rfl) ?_
        refine lv_ishr hx hb dX2_sealWay_17 ?_
        refine x_eqi (y := nI (p0 / 2 ^ ql)) (pk_shrN (n := p0) (by omega) _ ql (s_l _ (by omega))) ?_
        refine x_vv ⟨hx, hb, hml, hown, hts⟩ (c_X2_sealNode l G cA tF tC g _ N hN (sWay N D p0 ql) R F KD KR FL SUz WOz lnz kp rd wr ft ql (p0 / 2 ^ ql) (by omega) (way_in hp0 ql)) (cwV 2 hts gX2_sealWay_X2_sealNode rfl rfl rfl (by decide +kernel) ⟨Nat.le_of_ble_eq_true rfl, Nat.le_of_ble_eq_true rfl⟩) hK hP hD hS hT rfl 0 2 rfl rfl rfl hl.1 rfl (Nat.le_of_ble_eq_true rfl) dX2_sealWay_18 ⟨Nat.le_refl _, Nat.le_refl _⟩ (fun u H locs hp1 hP hD hS => ?_)
        obtain ⟨SU1, WO1, ln1⟩ := u
        have hP : va_P G vwCl (xW g cA N (sWay N D p0 (ql + 1)) R F KD KR FL SU1 WO1 ln1 kp rd wr ft) _ := hP
        have hD : va_D _ (xW g cA N (sWay N D p0 (ql + 1)) R F KD KR FL SU1 WO1 ln1 kp rd wr ft) := hD
        refine lv_iinc (v := nI (ql + 1)) (lv' := [(2, .int (nI (ql + 1))), (0, .ref (g 0)), (1, .int (nI p0))]) hx hb dX2_sealWay_21 hl (k := 2) rfl (nI_1 _) (by decide) rfl (fun ls hl => ?_)
        refine lv_goto (tgt := 2) hx hb dX2_sealWay_24 (by decide) ?_
        exact ih_2 (ql + 1) SU1 WO1 ln1 (by omega) (by omega) _ _ _ hP hD hS (lv_sub hl [1, 2, 0] rfl)
  exact loop_2 _ 0 SU WO ln (Nat.lt_succ_self _) (by omega) _ _ _ hP hD hS (lv_sub hl [1, 2, 0] rfl)

set_option maxHeartbeats 4000000 in
set_option maxRecDepth 100000 in
theorem c_X2_write (l : Launch) (G : va_G) (cA : ClassId) (tF tC : Nat) (g : Nat → Nat) (sz N : Nat) (hN : 1 ≤ N ∧ N ≤ 64) (D R F KD KR FL SU WO : Nat → Int32) (ln kp rd wr ft : Int32) (x : Int32) : CI l yX2_write wsX2_write 6 148 G cA tF tC g 13 sz (xW g cA N D R F KD KR FL SU WO ln kp rd wr ft) [.ref (g 0), .int x] (fun (u : (Nat → Int32) × (Nat → Int32) × Int32) => xW g cA N (s_wrD N D R F x) (s_wrR N D R F x) F KD KR FL u.1 u.2.1 u.2.2 kp rd (s_inc N D R x wr) (s_ft N D R x ft)) (fun r _ => r = a_flt N D R x) := by
  refine x_entryI (cc := cX2_write) (maxL := 3) (by decide) rfl (fun _ => rfl) (Nat.le_of_ble_eq_true rfl) ?_
  intro p e s m args below meth c Q hx hb hml hown hts hK hP hD hS hT hret ls hl
  have hown : s.vm.findClass RX2 = some m.cls := hown
  have hl : lv_has ls 3 [(0, .ref (g 0)), (1, .int x)] := hl
  have hinX2 : ∀ w ∈ wsX20, w ∈ wsX2_write := by decide +kernel
  have hz := siz_le hN
  have hse := siz_eq N
  have hnd := nds_le hN
  have hlv := lvs_in hN
  refine lv_aload_n hx hb dX2_write_0 rfl (lv_at hl 0 rfl) ?_
  refine lv_iload_n hx hb dX2_write_1 rfl (lv_at hl 1 rfl) ?_
  refine x_vi ⟨hx, hb, hml, hown, hts⟩ (c_X2_fault l G cA tF tC g _ N hN D R F KD KR FL SU WO ln kp rd wr ft x) (cwV 1 hts gX2_write_X2_fault rfl rfl rfl (by decide +kernel) ⟨Nat.le_of_ble_eq_true rfl, Nat.le_of_ble_eq_true rfl⟩) hK hP hD hS hT rfl 0 2 rfl rfl rfl hl.1 rfl (Nat.le_of_ble_eq_true rfl) dX2_write_2 ⟨Nat.le_refl _, Nat.le_refl _⟩ (fun r_1 u H locs hp1 hP hD hS => ?_)
  obtain ⟨SU1, WO1, ln1⟩ := u
  have hP : va_P G vwCl (xW g cA N D R F KD KR FL SU1 WO1 ln1 kp rd wr ft) _ := hP
  have hD : va_D _ (xW g cA N D R F KD KR FL SU1 WO1 ln1 kp rd wr ft) := hD
  have hp1 : r_1 = a_flt N D R x := hp1
  subst hp1
  refine lv_topi (fun zr ezr => ?_)
  refine lv_istore_n (lv' := [(2, .int zr), (0, .ref (g 0)), (1, .int x)]) hx hb dX2_write_5 rfl hl (by decide) rfl (fun ls hl => ?_)
  refine lv_iload_n hx hb dX2_write_6 rfl (lv_at hl 0 rfl) ?_
  refine lv_if_ne (tgt := 50) hx hb dX2_write_7 (by decide) (fun c_2 => ?_) (fun c_2 => ?_)
  · skip
    have hzn : ¬ a_flt N D R x = 0 := fun h => c_2 (ezr.trans h)
    refine lv_iload_n hx hb dX2_write_50 rfl (lv_at hl 0 rfl) ?_
    refine lv_iconst (v := (-1)) hx hb dX2_write_51 (by decide) ?_
    refine lv_icmp_eq (tgt := 65) hx hb dX2_write_52 (by decide) (fun c_3 => ?_) (fun c_3 => ?_)
    · skip
      have hz1 : a_flt N D R x = -1 := ezr.symm.trans c_3
      have ec_4 : R = s_wrR N D R F x := by first | exact s_wrR_0 hz0 hxq (by omega) | exact s_wrR_1 hzn
      rw [show xW g cA N D R F KD KR FL SU1 WO1 ln1 kp rd wr ft = xW g cA N D (s_wrR N D R F x) F KD KR FL SU1 WO1 ln1 kp rd wr ft from by rw [← ec_4]] at hP hD
      have ec_5 : D = s_wrD N D R F x := by first | exact s_wrD_0 hz0 hxq (by omega) | exact s_wrD_1 hzn
      rw [show xW g cA N D (s_wrR N D R F x) F KD KR FL SU1 WO1 ln1 kp rd wr ft = xW g cA N (s_wrD N D R F x) (s_wrR N D R F x) F KD KR FL SU1 WO1 ln1 kp rd wr ft from by rw [← ec_5]] at hP hD
      have ec_6 : wr = s_inc N D R x wr := by first | exact s_inc_0 hz0 | exact s_inc_1 hzn
      rw [show xW g cA N (s_wrD N D R F x) (s_wrR N D R F x) F KD KR FL SU1 WO1 ln1 kp rd wr ft = xW g cA N (s_wrD N D R F x) (s_wrR N D R F x) F KD KR FL SU1 WO1 ln1 kp rd (s_inc N D R x wr) ft from by rw [← ec_6]] at hP hD
      have ec_7 : ft = s_ft N D R x ft := by first | exact s_ft_0 hz0 | exact s_ft_1 hzn hz1 | exact s_ft_2 hzn hz2
      rw [show xW g cA N (s_wrD N D R F x) (s_wrR N D R F x) F KD KR FL SU1 WO1 ln1 kp rd (s_inc N D R x wr) ft = xW g cA N (s_wrD N D R F x) (s_wrR N D R F x) F KD KR FL SU1 WO1 ln1 kp rd (s_inc N D R x wr) (s_ft N D R x ft) from by rw [← ec_7]] at hP hD
      refine lv_iload_n hx hb dX2_write_65 rfl (lv_at hl 0 rfl) ?_
      exact hret _ (SU1, WO1, ln1) _ _ _ _ dX2_write_66 hP hD hS ezr
    · skip
      have hz2 : ¬ a_flt N D R x = -1 := fun h => c_3 (ezr.trans h)
      refine lv_aload_n hx hb dX2_write_55 rfl (lv_at hl 1 rfl) ?_
      refine lv_dup hx hb dX2_write_56 rfl ?_
      refine va_get (D := G) (ci := 2) (v := .int ft) (C := RX2) (T := TX2) (N := 12) hx hb hts hinX2 hown hK hP 0 rfl rfl 11 (by decide) (hts (.fieldLink RX2 83 "SealedPages" "faultsTold" "I") (by decide +kernel)) (fun _ h => h) rfl dX2_write_57 ?_
      refine lv_iconst (v := 1) hx hb dX2_write_60 (by decide) ?_
      refine lv_iadd hx hb dX2_write_61 ?_
      refine va_put (D := G) (ci := 2) (v := .int (ft + 1)) (ty := .int) (C := RX2) (T := TX2) (N := 12) hx hb hts hinX2 tyX2 tyX2_ok nmX2 hown hK hP hD hS 0 rfl rfl 11 (by decide) (hts (.fieldLink RX2 83 "SealedPages" "faultsTold" "I") (by decide +kernel)) (fun _ h => h) rfl (by decide +kernel) rfl rfl (Nat.le_of_ble_eq_true rfl) dX2_write_62 (fun H locs hP hD hS => ?_)
      have hP : va_P G vwCl (xW g cA N D R F KD KR FL SU1 WO1 ln1 kp rd wr (ft + 1)) _ := hP
      have hD : va_D _ (xW g cA N D R F KD KR FL SU1 WO1 ln1 kp rd wr (ft + 1)) := hD
      have ec_8 : R = s_wrR N D R F x := by first | exact s_wrR_0 hz0 hxq (by omega) | exact s_wrR_1 hzn
      rw [show xW g cA N D R F KD KR FL SU1 WO1 ln1 kp rd wr (ft + 1) = xW g cA N D (s_wrR N D R F x) F KD KR FL SU1 WO1 ln1 kp rd wr (ft + 1) from by rw [← ec_8]] at hP hD
      have ec_9 : D = s_wrD N D R F x := by first | exact s_wrD_0 hz0 hxq (by omega) | exact s_wrD_1 hzn
      rw [show xW g cA N D (s_wrR N D R F x) F KD KR FL SU1 WO1 ln1 kp rd wr (ft + 1) = xW g cA N (s_wrD N D R F x) (s_wrR N D R F x) F KD KR FL SU1 WO1 ln1 kp rd wr (ft + 1) from by rw [← ec_9]] at hP hD
      have ec_10 : wr = s_inc N D R x wr := by first | exact s_inc_0 hz0 | exact s_inc_1 hzn
      rw [show xW g cA N (s_wrD N D R F x) (s_wrR N D R F x) F KD KR FL SU1 WO1 ln1 kp rd wr (ft + 1) = xW g cA N (s_wrD N D R F x) (s_wrR N D R F x) F KD KR FL SU1 WO1 ln1 kp rd (s_inc N D R x wr) (ft + 1) from by rw [← ec_10]] at hP hD
      have ec_11 : ft + 1 = s_ft N D R x ft := by first | exact s_ft_0 hz0 | exact s_ft_1 hzn hz1 | exact s_ft_2 hzn hz2
      rw [show xW g cA N (s_wrD N D R F x) (s_wrR N D R F x) F KD KR FL SU1 WO1 ln1 kp rd (s_inc N D R x wr) (ft + 1) = xW g cA N (s_wrD N D R F x) (s_wrR N D R F x) F KD KR FL SU1 WO1 ln1 kp rd (s_inc N D R x wr) (s_ft N D R x ft) from by rw [← ec_11]] at hP hD
      refine lv_iload_n hx hb dX2_write_65 rfl (lv_at hl 0 rfl) ?_
      exact hret _ (SU1, WO1, ln1) _ _ _ _ dX2_write_66 hP hD hS ezr
  · skip
    have hz0 : a_flt N D R x = 0 := ezr.symm.trans c_2
    obtain ⟨zq, hq, hxq⟩ := a_flt_z hN hz0
    have hpi := page_in hq
    have hl : lv_has ls 3 [(2, .int zr), (0, .ref (g 0)), (1, .int (nI zq))] := by rw [hxq] at hl; exact hl
    refine lv_aload_n hx hb dX2_write_10 rfl (lv_at hl 1 rfl) ?_
    refine va_get (D := G) (ci := 2) (v := .ref (g 5)) (C := RX2) (T := TX2) (N := 12) hx hb hts hinX2 hown hK hP 0 rfl rfl 4 (by decide) (hts (.fieldLink RX2 45 "SealedPages" "draftBytes" "[I") (by decide +kernel)) (fun _ h => h) rfl dX2_write_11 ?_
    refine lv_iconst (v := 0) hx hb dX2_write_14 (by decide) ?_
    refine lv_aload_n hx hb dX2_write_15 rfl (lv_at hl 1 rfl) ?_
    refine va_get (D := G) (ci := 2) (v := .ref (g 3)) (C := RX2) (T := TX2) (N := 12) hx hb hts hinX2 hown hK hP 0 rfl rfl 2 (by decide) (hts (.fieldLink RX2 38 "SealedPages" "diskBytes" "[I") (by decide +kernel)) (fun _ h => h) rfl dX2_write_16 ?_
    refine lv_aload_n hx hb dX2_write_19 rfl (lv_at hl 1 rfl) ?_
    refine va_get (D := G) (ci := 2) (v := .ref (g 1)) (C := RX2) (T := TX2) (N := 12) hx hb hts hinX2 hown hK hP 0 rfl rfl 0 (by decide) (hts (.fieldLink RX2 23 "SealedPages" "layout" "LSealedPages$Layout;") (by decide +kernel)) (fun _ h => h) rfl dX2_write_20 ?_
    refine lv_iload_n hx hb dX2_write_23 rfl (lv_at hl 2 rfl) ?_
    refine x_vi ⟨hx, hb, hml, hown, hts⟩ (c_X1_placeOfPage l G cA tF tC g _ N hN D R F KD KR FL SU1 WO1 ln1 kp rd wr ft zq) (cwV 1 hts gX2_write_X1_placeOfPage rfl rfl rfl (by decide +kernel) ⟨Nat.le_of_ble_eq_true rfl, Nat.le_of_ble_eq_true rfl⟩) hK hP hD hS hT rfl 1 1 rfl rfl rfl hl.1 rfl (Nat.le_of_ble_eq_true rfl) dX2_write_24 ⟨Nat.le_refl _, Nat.le_refl _⟩ (fun r_13 u H locs hp_12 hP hD hS => ?_)
    have hP : va_P G vwCl (xW g cA N D R F KD KR FL SU1 WO1 ln1 kp rd wr ft) _ := hP
    have hD : va_D _ (xW g cA N D R F KD KR FL SU1 WO1 ln1 kp rd wr ft) := hD
    have hp_12 : r_13 = nI (8 + 64 * zq) := hp_12
    subst hp_12
    refine lv_bipush (v := 64) hx hb dX2_write_27 (by decide) ?_
    refine x_cpy (spN := 0) (dpN := 8 + 64 * zq) (nN := 64) hx hb (by rw [hml]; exact hl.1.symm) hown (hts (.methodLink RX2 74 arraycopyName) (by decide +kernel)) (hts (.native arraycopyName) (by decide +kernel)) (hts (.static arraycopyName) (by decide +kernel)) (hts (.initialized "java/lang/System") (by decide +kernel)) hK hP hD hS 5 3 0 rfl rfl rfl (by omega) (by omega) (⟨by omega, by omega⟩) (Nat.le_of_ble_eq_true rfl) (Nat.le_of_ble_eq_true rfl) dX2_write_29 (fun H locs hP hD hS => ?_)
    have hP : va_P G vwCl (xW g cA N (va_cpy F D 0 (8 + 64 * zq) 64) R F KD KR FL SU1 WO1 ln1 kp rd wr ft) _ := hP
    have hD : va_D _ (xW g cA N (va_cpy F D 0 (8 + 64 * zq) 64) R F KD KR FL SU1 WO1 ln1 kp rd wr ft) := hD
    refine lv_aload_n hx hb dX2_write_32 rfl (lv_at hl 1 rfl) ?_
    refine lv_iload_n hx hb dX2_write_33 rfl (lv_at hl 2 rfl) ?_
    refine x_vv ⟨hx, hb, hml, hown, hts⟩ (c_X2_sealWay l G cA tF tC g _ N hN (va_cpy F D 0 (8 + 64 * zq) 64) R F KD KR FL SU1 WO1 ln1 kp rd wr ft zq hq) (cwV 1 hts gX2_write_X2_sealWay rfl rfl rfl (by decide +kernel) ⟨Nat.le_of_ble_eq_true rfl, Nat.le_of_ble_eq_true rfl⟩) hK hP hD hS hT rfl 0 2 rfl rfl rfl hl.1 rfl (Nat.le_of_ble_eq_true rfl) dX2_write_34 ⟨Nat.le_refl _, Nat.le_refl _⟩ (fun u H locs hp2 hP hD hS => ?_)
    obtain ⟨SU2, WO2, ln2⟩ := u
    have hP : va_P G vwCl (xW g cA N (sWay N (va_cpy F D 0 (8 + 64 * zq) 64) zq (lvs N)) (sRoot N (sWay N (va_cpy F D 0 (8 + 64 * zq) 64) zq (lvs N)) R) F KD KR FL SU2 WO2 ln2 kp rd wr ft) _ := hP
    have hD : va_D _ (xW g cA N (sWay N (va_cpy F D 0 (8 + 64 * zq) 64) zq (lvs N)) (sRoot N (sWay N (va_cpy F D 0 (8 + 64 * zq) 64) zq (lvs N)) R) F KD KR FL SU2 WO2 ln2 kp rd wr ft) := hD
    refine lv_aload_n hx hb dX2_write_37 rfl (lv_at hl 1 rfl) ?_
    refine lv_dup hx hb dX2_write_38 rfl ?_
    refine va_get (D := G) (ci := 2) (v := .int wr) (C := RX2) (T := TX2) (N := 12) hx hb hts hinX2 hown hK hP 0 rfl rfl 10 (by decide) (hts (.fieldLink RX2 89 "SealedPages" "pagesWritten" "I") (by decide +kernel)) (fun _ h => h) rfl dX2_write_39 ?_
    refine lv_iconst (v := 1) hx hb dX2_write_42 (by decide) ?_
    refine lv_iadd hx hb dX2_write_43 ?_
    refine va_put (D := G) (ci := 2) (v := .int (wr + 1)) (ty := .int) (C := RX2) (T := TX2) (N := 12) hx hb hts hinX2 tyX2 tyX2_ok nmX2 hown hK hP hD hS 0 rfl rfl 10 (by decide) (hts (.fieldLink RX2 89 "SealedPages" "pagesWritten" "I") (by decide +kernel)) (fun _ h => h) rfl (by decide +kernel) rfl rfl (Nat.le_of_ble_eq_true rfl) dX2_write_44 (fun H locs hP hD hS => ?_)
    have hP : va_P G vwCl (xW g cA N (sWay N (va_cpy F D 0 (8 + 64 * zq) 64) zq (lvs N)) (sRoot N (sWay N (va_cpy F D 0 (8 + 64 * zq) 64) zq (lvs N)) R) F KD KR FL SU2 WO2 ln2 kp rd (wr + 1) ft) _ := hP
    have hD : va_D _ (xW g cA N (sWay N (va_cpy F D 0 (8 + 64 * zq) 64) zq (lvs N)) (sRoot N (sWay N (va_cpy F D 0 (8 + 64 * zq) 64) zq (lvs N)) R) F KD KR FL SU2 WO2 ln2 kp rd (wr + 1) ft) := hD
    refine lv_goto (tgt := 65) hx hb dX2_write_47 (by decide) ?_
    have ec_15 : sRoot N (sWay N (va_cpy F D 0 (8 + 64 * zq) 64) zq (lvs N)) R = s_wrR N D R F x := by first | exact s_wrR_0 hz0 hxq (by omega) | exact s_wrR_1 hzn
    rw [show xW g cA N (sWay N (va_cpy F D 0 (8 + 64 * zq) 64) zq (lvs N)) (sRoot N (sWay N (va_cpy F D 0 (8 + 64 * zq) 64) zq (lvs N)) R) F KD KR FL SU2 WO2 ln2 kp rd (wr + 1) ft = xW g cA N (sWay N (va_cpy F D 0 (8 + 64 * zq) 64) zq (lvs N)) (s_wrR N D R F x) F KD KR FL SU2 WO2 ln2 kp rd (wr + 1) ft from by rw [← ec_15]] at hP hD
    have ec_16 : sWay N (va_cpy F D 0 (8 + 64 * zq) 64) zq (lvs N) = s_wrD N D R F x := by first | exact s_wrD_0 hz0 hxq (by omega) | exact s_wrD_1 hzn
    rw [show xW g cA N (sWay N (va_cpy F D 0 (8 + 64 * zq) 64) zq (lvs N)) (s_wrR N D R F x) F KD KR FL SU2 WO2 ln2 kp rd (wr + 1) ft = xW g cA N (s_wrD N D R F x) (s_wrR N D R F x) F KD KR FL SU2 WO2 ln2 kp rd (wr + 1) ft from by rw [← ec_16]] at hP hD
    have ec_17 : wr + 1 = s_inc N D R x wr := by first | exact s_inc_0 hz0 | exact s_inc_1 hzn
    rw [show xW g cA N (s_wrD N D R F x) (s_wrR N D R F x) F KD KR FL SU2 WO2 ln2 kp rd (wr + 1) ft = xW g cA N (s_wrD N D R F x) (s_wrR N D R F x) F KD KR FL SU2 WO2 ln2 kp rd (s_inc N D R x wr) ft from by rw [← ec_17]] at hP hD
    have ec_18 : ft = s_ft N D R x ft := by first | exact s_ft_0 hz0 | exact s_ft_1 hzn hz1 | exact s_ft_2 hzn hz2
    rw [show xW g cA N (s_wrD N D R F x) (s_wrR N D R F x) F KD KR FL SU2 WO2 ln2 kp rd (s_inc N D R x wr) ft = xW g cA N (s_wrD N D R F x) (s_wrR N D R F x) F KD KR FL SU2 WO2 ln2 kp rd (s_inc N D R x wr) (s_ft N D R x ft) from by rw [← ec_18]] at hP hD
    refine lv_iload_n hx hb dX2_write_65 rfl (lv_at hl 0 rfl) ?_
    exact hret _ (SU2, WO2, ln2) _ _ _ _ dX2_write_66 hP hD hS ezr

set_option maxHeartbeats 4000000 in
set_option maxRecDepth 100000 in
theorem c_X2_sealAll (l : Launch) (G : va_G) (cA : ClassId) (tF tC : Nat) (g : Nat → Nat) (sz N : Nat) (hN : 1 ≤ N ∧ N ≤ 64) (D R F KD KR FL SU WO : Nat → Int32) (ln kp rd wr ft : Int32)  : CV l yX2_sealAll wsX2_sealAll 5 125 G cA tF tC g 13 sz (xW g cA N D R F KD KR FL SU WO ln kp rd wr ft) [.ref (g 0)] (fun (u : (Nat → Int32) × (Nat → Int32) × Int32) => xW g cA N (sAll N D) (sRoot N (sAll N D) R) F KD KR FL u.1 u.2.1 u.2.2 kp rd wr ft) (fun _ => True) := by
  refine x_entryV (cc := cX2_sealAll) (maxL := 3) (by decide) rfl (fun _ => rfl) (Nat.le_of_ble_eq_true rfl) ?_
  intro p e s m args below meth c Q hx hb hml hown hts hK hP hD hS hT hret ls hl
  have hown : s.vm.findClass RX2 = some m.cls := hown
  have hl : lv_has ls 3 [(0, .ref (g 0))] := hl
  have hinX1 : ∀ w ∈ wsX10, w ∈ wsX2_sealAll := by decide +kernel
  have hinX2 : ∀ w ∈ wsX20, w ∈ wsX2_sealAll := by decide +kernel
  have hz := siz_le hN
  have hse := siz_eq N
  have hnd := nds_le hN
  have hlv := lvs_in hN
  refine lv_iconst (v := 0) hx hb dX2_sealAll_0 (by decide) ?_
  refine lv_istore_n (lv' := [(1, .int 0), (0, .ref (g 0))]) hx hb dX2_sealAll_1 rfl hl (by decide) rfl (fun ls hl => ?_)
  have loop_2 : ∀ (n_2 : Nat) (zi : Nat), (8 - zi) < n_2 → (zi ≤ 8) → ∀ (H : Heap) (locs : List Loc) (ls : Array Slot), va_P G vwCl (xW g cA N (va_cpy (hed N) D 0 0 zi) R F KD KR FL SU WO ln kp rd wr ft) H → va_D (wA g 13 s.heap.size) (xW g cA N (va_cpy (hed N) D 0 0 zi) R F KD KR FL SU WO ln kp rd wr ft) → va_S (wA g 13 s.heap.size) s.heap H locs → lv_has ls 3 [(0, .ref (g 0)), (1, .int (nI zi))] → W p l e { frames := 5, cells := 0, slots := 0, locals := 125 } s m args below meth c H locs 0 0 Q (F0 m 2 ls []) := by
    intro n_2
    induction n_2 with
    | zero => intro zi hm_2; exact absurd hm_2 (Nat.not_lt_zero _)
    | succ n_2 ih_2 =>
      intro zi hm_2 hi H locs ls hP hD hS hl
      refine lv_iload_n hx hb dX2_sealAll_2 rfl (lv_at hl 1 rfl) ?_
      refine lv_bipush (v := 8) hx hb dX2_sealAll_3 (by decide) ?_
      refine lv_icmp_ge (tgt := 25) hx hb dX2_sealAll_5 (by decide) (fun c_1 => ?_) (fun c_1 => ?_)
      · skip
        have c_1 : 8 ≤ zi := (nI_leI (a := 8) (b := zi) (by omega) (by omega)).mp c_1
        obtain rfl : zi = 8 := by omega
        have hl : lv_has ls 3 [(0, .ref (g 0)), (1, .int (nI 8))] := hl
        refine lv_iconst (v := 0) hx hb dX2_sealAll_25 (by decide) ?_
        refine lv_istore_n (lv' := [(1, .int 0), (0, .ref (g 0))]) hx hb dX2_sealAll_26 rfl hl (by decide) rfl (fun ls hl => ?_)
        have loop_27 : ∀ (n_27 : Nat) (ql : Nat) (SUz : Nat → Int32) (WOz : Nat → Int32) (lnz : Int32), (lvs N - ql) < n_27 → (ql ≤ lvs N) → ∀ (H : Heap) (locs : List Loc) (ls : Array Slot), va_P G vwCl (xW g cA N (sTree N (va_cpy (hed N) D 0 0 8) ql) R F KD KR FL SUz WOz lnz kp rd wr ft) H → va_D (wA g 13 s.heap.size) (xW g cA N (sTree N (va_cpy (hed N) D 0 0 8) ql) R F KD KR FL SUz WOz lnz kp rd wr ft) → va_S (wA g 13 s.heap.size) s.heap H locs → lv_has ls 3 [(0, .ref (g 0)), (1, .int (nI ql))] → W p l e { frames := 5, cells := 0, slots := 0, locals := 125 } s m args below meth c H locs 0 0 Q (F0 m 27 ls []) := by
          intro n_27
          induction n_27 with
          | zero => intro ql SUz WOz lnz hm_27; exact absurd hm_27 (Nat.not_lt_zero _)
          | succ n_27 ih_27 =>
            intro ql SUz WOz lnz hm_27 hql H locs ls hP hD hS hl
            refine lv_iload_n hx hb dX2_sealAll_27 rfl (lv_at hl 1 rfl) ?_
            refine lv_aload_n hx hb dX2_sealAll_28 rfl (lv_at hl 0 rfl) ?_
            refine va_get (D := G) (ci := 2) (v := .ref (g 1)) (C := RX2) (T := TX2) (N := 12) hx hb hts hinX2 hown hK hP 0 rfl rfl 0 (by decide) (hts (.fieldLink RX2 23 "SealedPages" "layout" "LSealedPages$Layout;") (by decide +kernel)) (fun _ h => h) rfl dX2_sealAll_29 ?_
            refine va_get (D := G) (ci := 1) (v := .int (nI (lvs N))) (C := RX1) (T := TX1) (N := 6) hx hb hts hinX1 hown hK hP 1 rfl rfl 1 (by decide) (hts (.fieldLink RX2 100 "SealedPages$Layout" "levelCount" "I") (by decide +kernel)) (fun _ h => h) rfl dX2_sealAll_32 ?_
            refine lv_icmp_ge (tgt := 71) hx hb dX2_sealAll_35 (by decide) (fun c_2 => ?_) (fun c_2 => ?_)
            · skip
              have c_2 : (lvs N) ≤ ql := (nI_leI (a := (lvs N)) (b := ql) (by omega) (by omega)).mp c_2
              obtain rfl : ql = lvs N := by omega
              have hl : lv_has ls 3 [(0, .ref (g 0)), (1, .int (nI (lvs N)))] := hl
              refine lv_aload_n hx hb dX2_sealAll_71 rfl (lv_at hl 0 rfl) ?_
              refine x_vv ⟨hx, hb, hml, hown, hts⟩ (c_X2_sealRoot l G cA tF tC g _ N hN (sTree N (va_cpy (hed N) D 0 0 8) (lvs N)) R F KD KR FL SUz WOz lnz kp rd wr ft ) (cwV 0 hts gX2_sealAll_X2_sealRoot rfl rfl rfl (by decide +kernel) ⟨Nat.le_of_ble_eq_true rfl, Nat.le_of_ble_eq_true rfl⟩) hK hP hD hS hT rfl 0 2 rfl rfl rfl hl.1 rfl (Nat.le_of_ble_eq_true rfl) dX2_sealAll_72 ⟨Nat.le_refl _, Nat.le_refl _⟩ (fun u H locs hp2 hP hD hS => ?_)
              obtain ⟨SU2, WO2, ln2⟩ := u
              have hP : va_P G vwCl (xW g cA N (sAll N D) (sRoot N (sAll N D) R) F KD KR FL SU2 WO2 ln2 kp rd wr ft) _ := hP
              have hD : va_D _ (xW g cA N (sAll N D) (sRoot N (sAll N D) R) F KD KR FL SU2 WO2 ln2 kp rd wr ft) := hD
              exact hret (SU2, WO2, ln2) _ _ _ _ dX2_sealAll_75 hP hD hS trivial
            · skip
              have c_2 : ¬ (lvs N) ≤ ql := fun z => c_2 ((nI_leI (a := (lvs N)) (b := ql) (by omega) (by omega)).mpr z)
              refine lv_iconst (v := 0) hx hb dX2_sealAll_38 (by decide) ?_
              refine lv_istore_n (lv' := [(2, .int 0), (0, .ref (g 0)), (1, .int (nI ql))]) hx hb dX2_sealAll_39 rfl hl (by decide) rfl (fun ls hl => ?_)
              have hnl := nod_le N hN.1 ql
              have loop_40 : ∀ (n_40 : Nat) (qk : Nat) (SUy : Nat → Int32) (WOy : Nat → Int32) (lny : Int32), (nod N ql - qk) < n_40 → (qk ≤ nod N ql) → ∀ (H : Heap) (locs : List Loc) (ls : Array Slot), va_P G vwCl (xW g cA N (sLev N ql (sTree N (va_cpy (hed N) D 0 0 8) ql) qk) R F KD KR FL SUy WOy lny kp rd wr ft) H → va_D (wA g 13 s.heap.size) (xW g cA N (sLev N ql (sTree N (va_cpy (hed N) D 0 0 8) ql) qk) R F KD KR FL SUy WOy lny kp rd wr ft) → va_S (wA g 13 s.heap.size) s.heap H locs → lv_has ls 3 [(0, .ref (g 0)), (1, .int (nI ql)), (2, .int (nI qk))] → W p l e { frames := 5, cells := 0, slots := 0, locals := 125 } s m args below meth c H locs 0 0 Q (F0 m 40 ls []) := by
                intro n_40
                induction n_40 with
                | zero => intro qk SUy WOy lny hm_40; exact absurd hm_40 (Nat.not_lt_zero _)
                | succ n_40 ih_40 =>
                  intro qk SUy WOy lny hm_40 hqk H locs ls hP hD hS hl
                  refine lv_iload_n hx hb dX2_sealAll_40 rfl (lv_at hl 2 rfl) ?_
                  refine lv_aload_n hx hb dX2_sealAll_41 rfl (lv_at hl 0 rfl) ?_
                  refine va_get (D := G) (ci := 2) (v := .ref (g 1)) (C := RX2) (T := TX2) (N := 12) hx hb hts hinX2 hown hK hP 0 rfl rfl 0 (by decide) (hts (.fieldLink RX2 23 "SealedPages" "layout" "LSealedPages$Layout;") (by decide +kernel)) (fun _ h => h) rfl dX2_sealAll_42 ?_
                  refine va_get (D := G) (ci := 1) (v := .ref (g 9)) (C := RX1) (T := TX1) (N := 6) hx hb hts hinX1 hown hK hP 1 rfl rfl 4 (by decide) (hts (.fieldLink RX2 161 "SealedPages$Layout" "widths" "[I") (by decide +kernel)) (fun _ h => h) rfl dX2_sealAll_45 ?_
                  refine lv_iload_n hx hb dX2_sealAll_48 rfl (lv_at hl 1 rfl) ?_
                  refine x_ald (i := ql) hx hb hK hP 9 0 rfl rfl (by omega) (by decide) dX2_sealAll_49 ?_
                  refine x_eqi (y := nI (nod N ql)) (wid_at (by omega)) ?_
                  refine lv_icmp_ge (tgt := 65) hx hb dX2_sealAll_50 (by decide) (fun c_4 => ?_) (fun c_4 => ?_)
                  · skip
                    have c_4 : (nod N ql) ≤ qk := (nI_leI (a := (nod N ql)) (b := qk) (by omega) (by omega)).mp c_4
                    obtain rfl : qk = nod N ql := by omega
                    have hl : lv_has ls 3 [(0, .ref (g 0)), (1, .int (nI ql)), (2, .int (nI (nod N ql)))] := hl
                    refine lv_iinc (v := nI (ql + 1)) (lv' := [(1, .int (nI (ql + 1))), (0, .ref (g 0)), (2, .int (nI (nod N ql)))]) hx hb dX2_sealAll_65 hl (k := 1) rfl (nI_1 _) (by decide) rfl (fun ls hl => ?_)
                    refine lv_goto (tgt := 27) hx hb dX2_sealAll_68 (by decide) ?_
                    exact ih_27 (ql + 1) SUy WOy lny (by omega) (by omega) _ _ _ hP hD hS (lv_sub hl [1, 0] rfl)
                  · skip
                    have c_4 : ¬ (nod N ql) ≤ qk := fun z => c_4 ((nI_leI (a := (nod N ql)) (b := qk) (by omega) (by omega)).mpr z)
                    refine lv_aload_n hx hb dX2_sealAll_53 rfl (lv_at hl 0 rfl) ?_
                    refine lv_iload_n hx hb dX2_sealAll_54 rfl (lv_at hl 1 rfl) ?_
                    refine lv_iload_n hx hb dX2_sealAll_55 rfl (lv_at hl 2 rfl) ?_
                    refine x_vv ⟨hx, hb, hml, hown, hts⟩ (c_X2_sealNode l G cA tF tC g _ N hN (sLev N ql (sTree N (va_cpy (hed N) D 0 0 8) ql) qk) R F KD KR FL SUy WOy lny kp rd wr ft ql qk (by omega) (by omega)) (cwV 2 hts gX2_sealAll_X2_sealNode rfl rfl rfl (by decide +kernel) ⟨Nat.le_of_ble_eq_true rfl, Nat.le_of_ble_eq_true rfl⟩) hK hP hD hS hT rfl 0 2 rfl rfl rfl hl.1 rfl (Nat.le_of_ble_eq_true rfl) dX2_sealAll_56 ⟨Nat.le_refl _, Nat.le_refl _⟩ (fun u H locs hp1 hP hD hS => ?_)
                    obtain ⟨SU1, WO1, ln1⟩ := u
                    have hP : va_P G vwCl (xW g cA N (sLev N ql (sTree N (va_cpy (hed N) D 0 0 8) ql) (qk + 1)) R F KD KR FL SU1 WO1 ln1 kp rd wr ft) _ := hP
                    have hD : va_D _ (xW g cA N (sLev N ql (sTree N (va_cpy (hed N) D 0 0 8) ql) (qk + 1)) R F KD KR FL SU1 WO1 ln1 kp rd wr ft) := hD
                    refine lv_iinc (v := nI (qk + 1)) (lv' := [(2, .int (nI (qk + 1))), (0, .ref (g 0)), (1, .int (nI ql))]) hx hb dX2_sealAll_59 hl (k := 2) rfl (nI_1 _) (by decide) rfl (fun ls hl => ?_)
                    refine lv_goto (tgt := 40) hx hb dX2_sealAll_62 (by decide) ?_
                    exact ih_40 (qk + 1) SU1 WO1 ln1 (by omega) (by omega) _ _ _ hP hD hS (lv_sub hl [1, 2, 0] rfl)
              exact loop_40 _ 0 SUz WOz lnz (Nat.lt_succ_self _) (by omega) _ _ _ hP hD hS (lv_sub hl [1, 2, 0] rfl)
        exact loop_27 _ 0 SU WO ln (Nat.lt_succ_self _) (by omega) _ _ _ hP hD hS (lv_sub hl [1, 0] rfl)
      · skip
        have c_1 : ¬ 8 ≤ zi := fun z => c_1 ((nI_leI (a := 8) (b := zi) (by omega) (by omega)).mpr z)
        refine lv_aload_n hx hb dX2_sealAll_8 rfl (lv_at hl 0 rfl) ?_
        refine va_get (D := G) (ci := 2) (v := .ref (g 3)) (C := RX2) (T := TX2) (N := 12) hx hb hts hinX2 hown hK hP 0 rfl rfl 2 (by decide) (hts (.fieldLink RX2 38 "SealedPages" "diskBytes" "[I") (by decide +kernel)) (fun _ h => h) rfl dX2_sealAll_9 ?_
        refine lv_iload_n hx hb dX2_sealAll_12 rfl (lv_at hl 1 rfl) ?_
        refine lv_aload_n hx hb dX2_sealAll_13 rfl (lv_at hl 0 rfl) ?_
        refine lv_iload_n hx hb dX2_sealAll_14 rfl (lv_at hl 1 rfl) ?_
        refine x_vi ⟨hx, hb, hml, hown, hts⟩ (c_X2_headByteAsTold l G cA tF tC g _ N hN (va_cpy (hed N) D 0 0 zi) R F KD KR FL SU WO ln kp rd wr ft zi (by omega)) (cwV 1 hts gX2_sealAll_X2_headByteAsTold rfl rfl rfl (by decide +kernel) ⟨Nat.le_of_ble_eq_true rfl, Nat.le_of_ble_eq_true rfl⟩) hK hP hD hS hT rfl 0 2 rfl rfl rfl hl.1 rfl (Nat.le_of_ble_eq_true rfl) dX2_sealAll_15 ⟨Nat.le_refl _, Nat.le_refl _⟩ (fun r_7 u H locs hp_6 hP hD hS => ?_)
        have hP : va_P G vwCl (xW g cA N (va_cpy (hed N) D 0 0 zi) R F KD KR FL SU WO ln kp rd wr ft) _ := hP
        have hD : va_D _ (xW g cA N (va_cpy (hed N) D 0 0 zi) R F KD KR FL SU WO ln kp rd wr ft) := hD
        have hp_6 : r_7 = hed N zi := hp_6
        subst hp_6
        refine x_ast (i := zi) hx hb hK hP hD hS 3 0 rfl rfl (by omega) (by have := siz_le hN; have := nds_le hN; omega) dX2_sealAll_18 (fun H locs hP hD hS => ?_)
        have hP : va_P G vwCl (xW g cA N (upd (va_cpy (hed N) D 0 0 zi) zi (hed N zi)) R F KD KR FL SU WO ln kp rd wr ft) _ := hP
        have hD : va_D _ (xW g cA N (upd (va_cpy (hed N) D 0 0 zi) zi (hed N zi)) R F KD KR FL SU WO ln kp rd wr ft) := hD
        have ec_8 : upd (va_cpy (hed N) D 0 0 zi) zi (hed N zi) = va_cpy (hed N) D 0 0 (zi + 1) := by have h := cpy_s (hed N) D 0 0 zi; rwa [Nat.zero_add] at h
        rw [show xW g cA N (upd (va_cpy (hed N) D 0 0 zi) zi (hed N zi)) R F KD KR FL SU WO ln kp rd wr ft = xW g cA N (va_cpy (hed N) D 0 0 (zi + 1)) R F KD KR FL SU WO ln kp rd wr ft from by rw [← ec_8]] at hP hD
        refine lv_iinc (v := nI (zi + 1)) (lv' := [(1, .int (nI (zi + 1))), (0, .ref (g 0))]) hx hb dX2_sealAll_19 hl (k := 1) rfl (nI_1 _) (by decide) rfl (fun ls hl => ?_)
        refine lv_goto (tgt := 2) hx hb dX2_sealAll_22 (by decide) ?_
        exact ih_2 (zi + 1) (by omega) (by omega) _ _ _ hP hD hS (lv_sub hl [1, 0] rfl)
  rw [← cpy_0 (hed N) D 0 0] at hP hD
  exact loop_2 _ 0 (Nat.lt_succ_self _) (by omega) _ _ _ hP hD hS (lv_sub hl [1, 0] rfl)

set_option maxHeartbeats 4000000 in
set_option maxRecDepth 100000 in
theorem c_X2_seal (l : Launch) (G : va_G) (cA : ClassId) (tF tC : Nat) (g : Nat → Nat) (sz N : Nat) (hN : 1 ≤ N ∧ N ≤ 64) (D R F KD KR FL SU WO : Nat → Int32) (ln kp rd wr ft : Int32)  : CI l yX2_seal wsX2_seal 6 147 G cA tF tC g 13 sz (xW g cA N D R F KD KR FL SU WO ln kp rd wr ft) [.ref (g 0)] (fun (u : (Nat → Int32) × (Nat → Int32) × Int32) => xW g cA N (sAll N D) (sRoot N (sAll N D) R) F KD KR FL u.1 u.2.1 u.2.2 kp rd wr ft) (fun r _ => r = nI (nds N)) := by
  refine x_entryI (cc := cX2_seal) (maxL := 1) (by decide) rfl (fun _ => rfl) (Nat.le_of_ble_eq_true rfl) ?_
  intro p e s m args below meth c Q hx hb hml hown hts hK hP hD hS hT hret ls hl
  have hown : s.vm.findClass RX2 = some m.cls := hown
  have hl : lv_has ls 1 [(0, .ref (g 0))] := hl
  have hinX1 : ∀ w ∈ wsX10, w ∈ wsX2_seal := by decide +kernel
  have hinX2 : ∀ w ∈ wsX20, w ∈ wsX2_seal := by decide +kernel
  refine lv_aload_n hx hb dX2_seal_0 rfl (lv_at hl 0 rfl) ?_
  refine x_vv ⟨hx, hb, hml, hown, hts⟩ (c_X2_sealAll l G cA tF tC g _ N hN D R F KD KR FL SU WO ln kp rd wr ft ) (cwV 0 hts gX2_seal_X2_sealAll rfl rfl rfl (by decide +kernel) ⟨Nat.le_of_ble_eq_true rfl, Nat.le_of_ble_eq_true rfl⟩) hK hP hD hS hT rfl 0 2 rfl rfl rfl hl.1 rfl (Nat.le_of_ble_eq_true rfl) dX2_seal_1 ⟨Nat.le_refl _, Nat.le_refl _⟩ (fun u H locs hp1 hP hD hS => ?_)
  obtain ⟨SU1, WO1, ln1⟩ := u
  have hP : va_P G vwCl (xW g cA N (sAll N D) (sRoot N (sAll N D) R) F KD KR FL SU1 WO1 ln1 kp rd wr ft) _ := hP
  have hD : va_D _ (xW g cA N (sAll N D) (sRoot N (sAll N D) R) F KD KR FL SU1 WO1 ln1 kp rd wr ft) := hD
  refine lv_aload_n hx hb dX2_seal_4 rfl (lv_at hl 0 rfl) ?_
  refine va_get (D := G) (ci := 2) (v := .ref (g 1)) (C := RX2) (T := TX2) (N := 12) hx hb hts hinX2 hown hK hP 0 rfl rfl 0 (by decide) (hts (.fieldLink RX2 23 "SealedPages" "layout" "LSealedPages$Layout;") (by decide +kernel)) (fun _ h => h) rfl dX2_seal_5 ?_
  refine va_get (D := G) (ci := 1) (v := .int (nI (nds N))) (C := RX1) (T := TX1) (N := 6) hx hb hts hinX1 hown hK hP 1 rfl rfl 2 (by decide) (hts (.fieldLink RX2 54 "SealedPages$Layout" "nodeCount" "I") (by decide +kernel)) (fun _ h => h) rfl dX2_seal_8 ?_
  exact hret _ (SU1, WO1, ln1) _ _ _ _ dX2_seal_11 hP hD hS rfl

set_option maxHeartbeats 4000000 in
set_option maxRecDepth 100000 in
theorem c_X2_restoreDisk (l : Launch) (G : va_G) (cA : ClassId) (tF tC : Nat) (g : Nat → Nat) (sz N : Nat) (hN : 1 ≤ N ∧ N ≤ 64) (D R F KD KR FL SU WO : Nat → Int32) (ln kp rd wr ft : Int32)  : CI l yX2_restoreDisk wsX2_restoreDisk 0 0 G cA tF tC g 13 sz (xW g cA N D R F KD KR FL SU WO ln kp rd wr ft) [.ref (g 0)] (fun (u : Unit) => xW g cA N (va_cpy KD D 0 0 (siz N)) R F KD KR FL SU WO ln kp rd wr ft) (fun r _ => r = nI (difN D KD (siz N))) := by
  refine x_entryI (cc := cX2_restoreDisk) (maxL := 3) (by decide) rfl (fun _ => rfl) (Nat.le_of_ble_eq_true rfl) ?_
  intro p e s m args below meth c Q hx hb hml hown hts hK hP hD hS hT hret ls hl
  have hown : s.vm.findClass RX2 = some m.cls := hown
  have hl : lv_has ls 3 [(0, .ref (g 0))] := hl
  have hinX1 : ∀ w ∈ wsX10, w ∈ wsX2_restoreDisk := by decide +kernel
  have hinX2 : ∀ w ∈ wsX20, w ∈ wsX2_restoreDisk := by decide +kernel
  have hz := siz_le hN
  have hse := siz_eq N
  have hnd := nds_le hN
  have hlv := lvs_in hN
  refine lv_iconst (v := 0) hx hb dX2_restoreDisk_0 (by decide) ?_
  refine lv_istore_n (lv' := [(1, .int 0), (0, .ref (g 0))]) hx hb dX2_restoreDisk_1 rfl hl (by decide) rfl (fun ls hl => ?_)
  refine lv_iconst (v := 0) hx hb dX2_restoreDisk_2 (by decide) ?_
  refine lv_istore_n (lv' := [(2, .int 0), (1, .int 0), (0, .ref (g 0))]) hx hb dX2_restoreDisk_3 rfl hl (by decide) rfl (fun ls hl => ?_)
  have loop_4 : ∀ (n_4 : Nat) (zi : Nat), (siz N - zi) < n_4 → (zi ≤ siz N) → ∀ (H : Heap) (locs : List Loc) (ls : Array Slot), va_P G vwCl (xW g cA N (va_cpy KD D 0 0 zi) R F KD KR FL SU WO ln kp rd wr ft) H → va_D (wA g 13 s.heap.size) (xW g cA N (va_cpy KD D 0 0 zi) R F KD KR FL SU WO ln kp rd wr ft) → va_S (wA g 13 s.heap.size) s.heap H locs → lv_has ls 3 [(0, .ref (g 0)), (1, .int (nI (difN D KD zi))), (2, .int (nI zi))] → W p l e { frames := 0, cells := 0, slots := 0, locals := 0 } s m args below meth c H locs 0 0 Q (F0 m 4 ls []) := by
    intro n_4
    induction n_4 with
    | zero => intro zi hm_4; exact absurd hm_4 (Nat.not_lt_zero _)
    | succ n_4 ih_4 =>
      intro zi hm_4 hi H locs ls hP hD hS hl
      have hdl := difN_le D KD zi
      have hat : va_cpy KD D 0 0 zi zi = D zi := pk_cpy_out (by omega)
      refine lv_iload_n hx hb dX2_restoreDisk_4 rfl (lv_at hl 2 rfl) ?_
      refine lv_aload_n hx hb dX2_restoreDisk_5 rfl (lv_at hl 0 rfl) ?_
      refine va_get (D := G) (ci := 2) (v := .ref (g 1)) (C := RX2) (T := TX2) (N := 12) hx hb hts hinX2 hown hK hP 0 rfl rfl 0 (by decide) (hts (.fieldLink RX2 23 "SealedPages" "layout" "LSealedPages$Layout;") (by decide +kernel)) (fun _ h => h) rfl dX2_restoreDisk_6 ?_
      refine va_get (D := G) (ci := 1) (v := .int (nI (siz N))) (C := RX1) (T := TX1) (N := 6) hx hb hts hinX1 hown hK hP 1 rfl rfl 3 (by decide) (hts (.fieldLink RX2 34 "SealedPages$Layout" "byteCount" "I") (by decide +kernel)) (fun _ h => h) rfl dX2_restoreDisk_9 ?_
      refine lv_icmp_ge (tgt := 51) hx hb dX2_restoreDisk_12 (by decide) (fun c_1 => ?_) (fun c_1 => ?_)
      · skip
        have c_1 : (siz N) ≤ zi := (nI_leI (a := (siz N)) (b := zi) (by omega) (by omega)).mp c_1
        obtain rfl : zi = siz N := by omega
        have hl : lv_has ls 3 [(0, .ref (g 0)), (1, .int (nI (difN D KD (siz N)))), (2, .int (nI (siz N)))] := hl
        refine lv_iload_n hx hb dX2_restoreDisk_51 rfl (lv_at hl 1 rfl) ?_
        exact hret _ () _ _ _ _ dX2_restoreDisk_52 hP hD hS rfl
      · skip
        have c_1 : ¬ (siz N) ≤ zi := fun z => c_1 ((nI_leI (a := (siz N)) (b := zi) (by omega) (by omega)).mpr z)
        refine lv_aload_n hx hb dX2_restoreDisk_15 rfl (lv_at hl 0 rfl) ?_
        refine va_get (D := G) (ci := 2) (v := .ref (g 3)) (C := RX2) (T := TX2) (N := 12) hx hb hts hinX2 hown hK hP 0 rfl rfl 2 (by decide) (hts (.fieldLink RX2 38 "SealedPages" "diskBytes" "[I") (by decide +kernel)) (fun _ h => h) rfl dX2_restoreDisk_16 ?_
        refine lv_iload_n hx hb dX2_restoreDisk_19 rfl (lv_at hl 2 rfl) ?_
        refine x_ald (i := zi) hx hb hK hP 3 0 rfl rfl (by omega) (by have := siz_le hN; have := nds_le hN; omega) dX2_restoreDisk_20 ?_
        refine lv_aload_n hx hb dX2_restoreDisk_21 rfl (lv_at hl 0 rfl) ?_
        refine va_get (D := G) (ci := 2) (v := .ref (g 6)) (C := RX2) (T := TX2) (N := 12) hx hb hts hinX2 hown hK hP 0 rfl rfl 5 (by decide) (hts (.fieldLink RX2 48 "SealedPages" "keptDisk" "[I") (by decide +kernel)) (fun _ h => h) rfl dX2_restoreDisk_22 ?_
        refine lv_iload_n hx hb dX2_restoreDisk_25 rfl (lv_at hl 2 rfl) ?_
        refine x_ald (i := zi) hx hb hK hP 6 0 rfl rfl (by omega) (by have := siz_le hN; have := nds_le hN; omega) dX2_restoreDisk_26 ?_
        refine lv_icmp_eq (tgt := 45) hx hb dX2_restoreDisk_27 (by decide) (fun c_2 => ?_) (fun c_2 => ?_)
        · skip
          have hc : D zi = KD zi := hat.symm.trans c_2
          have ec_3 : va_cpy KD D 0 0 zi = va_cpy KD D 0 0 (zi + 1) := (cpy_skip hc).symm
          rw [show xW g cA N (va_cpy KD D 0 0 zi) R F KD KR FL SU WO ln kp rd wr ft = xW g cA N (va_cpy KD D 0 0 (zi + 1)) R F KD KR FL SU WO ln kp rd wr ft from by rw [← ec_3]] at hP hD
          have hl : lv_has ls 3 [(0, .ref (g 0)), (1, .int (nI (difN D KD (zi + 1)))), (2, .int (nI zi))] := by rw [dif_s, if_pos hc]; exact hl
          refine lv_iinc (v := nI (zi + 1)) (lv' := [(2, .int (nI (zi + 1))), (0, .ref (g 0)), (1, .int (nI (difN D KD (zi + 1))))]) hx hb dX2_restoreDisk_45 hl (k := 2) rfl (nI_1 _) (by decide) rfl (fun ls hl => ?_)
          refine lv_goto (tgt := 4) hx hb dX2_restoreDisk_48 (by decide) ?_
          exact ih_4 (zi + 1) (by omega) (by omega) _ _ _ hP hD hS (lv_sub hl [1, 2, 0] rfl)
        · skip
          have hc : ¬ D zi = KD zi := fun h => c_2 (hat.trans h)
          refine lv_iinc (v := nI (difN D KD (zi + 1))) (lv' := [(1, .int (nI (difN D KD (zi + 1)))), (0, .ref (g 0)), (2, .int (nI zi))]) hx hb dX2_restoreDisk_30 hl (k := 1) rfl (by rw [dif_s, if_neg hc]; exact nI_1 _) (by decide) rfl (fun ls hl => ?_)
          refine lv_aload_n hx hb dX2_restoreDisk_33 rfl (lv_at hl 1 rfl) ?_
          refine va_get (D := G) (ci := 2) (v := .ref (g 3)) (C := RX2) (T := TX2) (N := 12) hx hb hts hinX2 hown hK hP 0 rfl rfl 2 (by decide) (hts (.fieldLink RX2 38 "SealedPages" "diskBytes" "[I") (by decide +kernel)) (fun _ h => h) rfl dX2_restoreDisk_34 ?_
          refine lv_iload_n hx hb dX2_restoreDisk_37 rfl (lv_at hl 2 rfl) ?_
          refine lv_aload_n hx hb dX2_restoreDisk_38 rfl (lv_at hl 1 rfl) ?_
          refine va_get (D := G) (ci := 2) (v := .ref (g 6)) (C := RX2) (T := TX2) (N := 12) hx hb hts hinX2 hown hK hP 0 rfl rfl 5 (by decide) (hts (.fieldLink RX2 48 "SealedPages" "keptDisk" "[I") (by decide +kernel)) (fun _ h => h) rfl dX2_restoreDisk_39 ?_
          refine lv_iload_n hx hb dX2_restoreDisk_42 rfl (lv_at hl 2 rfl) ?_
          refine x_ald (i := zi) hx hb hK hP 6 0 rfl rfl (by omega) (by have := siz_le hN; have := nds_le hN; omega) dX2_restoreDisk_43 ?_
          refine x_ast (i := zi) hx hb hK hP hD hS 3 0 rfl rfl (by omega) (by have := siz_le hN; have := nds_le hN; omega) dX2_restoreDisk_44 (fun H locs hP hD hS => ?_)
          have hP : va_P G vwCl (xW g cA N (upd (va_cpy KD D 0 0 zi) zi (KD zi)) R F KD KR FL SU WO ln kp rd wr ft) _ := hP
          have hD : va_D _ (xW g cA N (upd (va_cpy KD D 0 0 zi) zi (KD zi)) R F KD KR FL SU WO ln kp rd wr ft) := hD
          have ec_4 : upd (va_cpy KD D 0 0 zi) zi (KD zi) = va_cpy KD D 0 0 (zi + 1) := by have h := cpy_s KD D 0 0 zi; rwa [Nat.zero_add] at h
          rw [show xW g cA N (upd (va_cpy KD D 0 0 zi) zi (KD zi)) R F KD KR FL SU WO ln kp rd wr ft = xW g cA N (va_cpy KD D 0 0 (zi + 1)) R F KD KR FL SU WO ln kp rd wr ft from by rw [← ec_4]] at hP hD
          refine lv_iinc (v := nI (zi + 1)) (lv' := [(2, .int (nI (zi + 1))), (1, .int (nI (difN D KD (zi + 1)))), (0, .ref (g 0))]) hx hb dX2_restoreDisk_45 hl (k := 2) rfl (nI_1 _) (by decide) rfl (fun ls hl => ?_)
          refine lv_goto (tgt := 4) hx hb dX2_restoreDisk_48 (by decide) ?_
          exact ih_4 (zi + 1) (by omega) (by omega) _ _ _ hP hD hS (lv_sub hl [2, 1, 0] rfl)
  rw [← cpy_0 KD D 0 0] at hP hD
  exact loop_4 _ 0 (Nat.lt_succ_self _) (by omega) _ _ _ hP hD hS (lv_sub hl [2, 1, 0] rfl)

set_option maxHeartbeats 4000000 in
set_option maxRecDepth 100000 in
theorem c_X2_keep (l : Launch) (G : va_G) (cA : ClassId) (tF tC : Nat) (g : Nat → Nat) (sz N : Nat) (hN : 1 ≤ N ∧ N ≤ 64) (D R F KD KR FL SU WO : Nat → Int32) (ln kp rd wr ft : Int32)  : CI l yX2_keep wsX2_keep 1 60 G cA tF tC g 13 sz (xW g cA N D R F KD KR FL SU WO ln kp rd wr ft) [.ref (g 0)] (fun (u : Unit) => xW g cA N D R F (va_cpy D KD 0 0 (siz N)) (va_cpy R KR 0 0 32) FL SU WO ln 1 rd wr ft) (fun r _ => r = nI (siz N)) := by
  refine x_entryI (cc := cX2_keep) (maxL := 1) (by decide) rfl (fun _ => rfl) (Nat.le_of_ble_eq_true rfl) ?_
  intro p e s m args below meth c Q hx hb hml hown hts hK hP hD hS hT hret ls hl
  have hown : s.vm.findClass RX2 = some m.cls := hown
  have hl : lv_has ls 1 [(0, .ref (g 0))] := hl
  have hinX1 : ∀ w ∈ wsX10, w ∈ wsX2_keep := by decide +kernel
  have hinX2 : ∀ w ∈ wsX20, w ∈ wsX2_keep := by decide +kernel
  have hz := siz_le hN
  have hse := siz_eq N
  have hnd := nds_le hN
  have hlv := lvs_in hN
  refine lv_aload_n hx hb dX2_keep_0 rfl (lv_at hl 0 rfl) ?_
  refine va_get (D := G) (ci := 2) (v := .ref (g 3)) (C := RX2) (T := TX2) (N := 12) hx hb hts hinX2 hown hK hP 0 rfl rfl 2 (by decide) (hts (.fieldLink RX2 38 "SealedPages" "diskBytes" "[I") (by decide +kernel)) (fun _ h => h) rfl dX2_keep_1 ?_
  refine lv_iconst (v := 0) hx hb dX2_keep_4 (by decide) ?_
  refine lv_aload_n hx hb dX2_keep_5 rfl (lv_at hl 0 rfl) ?_
  refine va_get (D := G) (ci := 2) (v := .ref (g 6)) (C := RX2) (T := TX2) (N := 12) hx hb hts hinX2 hown hK hP 0 rfl rfl 5 (by decide) (hts (.fieldLink RX2 48 "SealedPages" "keptDisk" "[I") (by decide +kernel)) (fun _ h => h) rfl dX2_keep_6 ?_
  refine lv_iconst (v := 0) hx hb dX2_keep_9 (by decide) ?_
  refine lv_aload_n hx hb dX2_keep_10 rfl (lv_at hl 0 rfl) ?_
  refine va_get (D := G) (ci := 2) (v := .ref (g 1)) (C := RX2) (T := TX2) (N := 12) hx hb hts hinX2 hown hK hP 0 rfl rfl 0 (by decide) (hts (.fieldLink RX2 23 "SealedPages" "layout" "LSealedPages$Layout;") (by decide +kernel)) (fun _ h => h) rfl dX2_keep_11 ?_
  refine va_get (D := G) (ci := 1) (v := .int (nI (siz N))) (C := RX1) (T := TX1) (N := 6) hx hb hts hinX1 hown hK hP 1 rfl rfl 3 (by decide) (hts (.fieldLink RX2 34 "SealedPages$Layout" "byteCount" "I") (by decide +kernel)) (fun _ h => h) rfl dX2_keep_14 ?_
  refine x_cpy (spN := 0) (dpN := 0) (nN := siz N) hx hb (by rw [hml]; exact hl.1.symm) hown (hts (.methodLink RX2 74 arraycopyName) (by decide +kernel)) (hts (.native arraycopyName) (by decide +kernel)) (hts (.static arraycopyName) (by decide +kernel)) (hts (.initialized "java/lang/System") (by decide +kernel)) hK hP hD hS 3 6 0 rfl rfl rfl (by omega) (by omega) (⟨by omega, by omega⟩) (Nat.le_of_ble_eq_true rfl) (Nat.le_of_ble_eq_true rfl) dX2_keep_17 (fun H locs hP hD hS => ?_)
  have hP : va_P G vwCl (xW g cA N D R F (va_cpy D KD 0 0 (siz N)) KR FL SU WO ln kp rd wr ft) _ := hP
  have hD : va_D _ (xW g cA N D R F (va_cpy D KD 0 0 (siz N)) KR FL SU WO ln kp rd wr ft) := hD
  refine lv_aload_n hx hb dX2_keep_20 rfl (lv_at hl 0 rfl) ?_
  refine va_get (D := G) (ci := 2) (v := .ref (g 4)) (C := RX2) (T := TX2) (N := 12) hx hb hts hinX2 hown hK hP 0 rfl rfl 3 (by decide) (hts (.fieldLink RX2 42 "SealedPages" "rootBytes" "[I") (by decide +kernel)) (fun _ h => h) rfl dX2_keep_21 ?_
  refine lv_iconst (v := 0) hx hb dX2_keep_24 (by decide) ?_
  refine lv_aload_n hx hb dX2_keep_25 rfl (lv_at hl 0 rfl) ?_
  refine va_get (D := G) (ci := 2) (v := .ref (g 7)) (C := RX2) (T := TX2) (N := 12) hx hb hts hinX2 hown hK hP 0 rfl rfl 6 (by decide) (hts (.fieldLink RX2 51 "SealedPages" "keptRoot" "[I") (by decide +kernel)) (fun _ h => h) rfl dX2_keep_26 ?_
  refine lv_iconst (v := 0) hx hb dX2_keep_29 (by decide) ?_
  refine lv_bipush (v := 32) hx hb dX2_keep_30 (by decide) ?_
  refine x_cpy (spN := 0) (dpN := 0) (nN := 32) hx hb (by rw [hml]; exact hl.1.symm) hown (hts (.methodLink RX2 74 arraycopyName) (by decide +kernel)) (hts (.native arraycopyName) (by decide +kernel)) (hts (.static arraycopyName) (by decide +kernel)) (hts (.initialized "java/lang/System") (by decide +kernel)) hK hP hD hS 4 7 0 rfl rfl rfl (by omega) (by omega) (⟨by omega, by omega⟩) (Nat.le_of_ble_eq_true rfl) (Nat.le_of_ble_eq_true rfl) dX2_keep_32 (fun H locs hP hD hS => ?_)
  have hP : va_P G vwCl (xW g cA N D R F (va_cpy D KD 0 0 (siz N)) (va_cpy R KR 0 0 32) FL SU WO ln kp rd wr ft) _ := hP
  have hD : va_D _ (xW g cA N D R F (va_cpy D KD 0 0 (siz N)) (va_cpy R KR 0 0 32) FL SU WO ln kp rd wr ft) := hD
  refine lv_aload_n hx hb dX2_keep_35 rfl (lv_at hl 0 rfl) ?_
  refine lv_iconst (v := 1) hx hb dX2_keep_36 (by decide) ?_
  refine va_put (D := G) (ci := 2) (v := .int 1) (ty := .boolean) (C := RX2) (T := TX2) (N := 12) hx hb hts hinX2 tyX2 tyX2_ok nmX2 hown hK hP hD hS 0 rfl rfl 8 (by decide) (hts (.fieldLink RX2 124 "SealedPages" "somethingKept" "Z") (by decide +kernel)) (fun _ h => h) rfl (by decide +kernel) rfl rfl (Nat.le_of_ble_eq_true rfl) dX2_keep_37 (fun H locs hP hD hS => ?_)
  have hP : va_P G vwCl (xW g cA N D R F (va_cpy D KD 0 0 (siz N)) (va_cpy R KR 0 0 32) FL SU WO ln 1 rd wr ft) _ := hP
  have hD : va_D _ (xW g cA N D R F (va_cpy D KD 0 0 (siz N)) (va_cpy R KR 0 0 32) FL SU WO ln 1 rd wr ft) := hD
  refine lv_aload_n hx hb dX2_keep_40 rfl (lv_at hl 0 rfl) ?_
  refine va_get (D := G) (ci := 2) (v := .ref (g 1)) (C := RX2) (T := TX2) (N := 12) hx hb hts hinX2 hown hK hP 0 rfl rfl 0 (by decide) (hts (.fieldLink RX2 23 "SealedPages" "layout" "LSealedPages$Layout;") (by decide +kernel)) (fun _ h => h) rfl dX2_keep_41 ?_
  refine va_get (D := G) (ci := 1) (v := .int (nI (siz N))) (C := RX1) (T := TX1) (N := 6) hx hb hts hinX1 hown hK hP 1 rfl rfl 3 (by decide) (hts (.fieldLink RX2 34 "SealedPages$Layout" "byteCount" "I") (by decide +kernel)) (fun _ h => h) rfl dX2_keep_44 ?_
  exact hret _ () _ _ _ _ dX2_keep_47 hP hD hS rfl

set_option maxHeartbeats 4000000 in
set_option maxRecDepth 100000 in
theorem c_X2_back (l : Launch) (G : va_G) (cA : ClassId) (tF tC : Nat) (g : Nat → Nat) (sz N : Nat) (hN : 1 ≤ N ∧ N ≤ 64) (D R F KD KR FL SU WO : Nat → Int32) (ln kp rd wr ft : Int32)  : CI l yX2_back wsX2_back 1 22 G cA tF tC g 13 sz (xW g cA N D R F KD KR FL SU WO ln kp rd wr ft) [.ref (g 0)] (fun (u : Unit) => xW g cA N (s_bak N D KD kp) R F KD KR FL SU WO ln kp rd wr ft) (fun r _ => r = a_bak N D KD kp) := by
  refine x_entryI (cc := cX2_back) (maxL := 1) (by decide) rfl (fun _ => rfl) (Nat.le_of_ble_eq_true rfl) ?_
  intro p e s m args below meth c Q hx hb hml hown hts hK hP hD hS hT hret ls hl
  have hown : s.vm.findClass RX2 = some m.cls := hown
  have hl : lv_has ls 1 [(0, .ref (g 0))] := hl
  have hinX2 : ∀ w ∈ wsX20, w ∈ wsX2_back := by decide +kernel
  have hz := siz_le hN
  have hse := siz_eq N
  have hnd := nds_le hN
  have hlv := lvs_in hN
  refine lv_aload_n hx hb dX2_back_0 rfl (lv_at hl 0 rfl) ?_
  refine va_get (D := G) (ci := 2) (v := .int kp) (C := RX2) (T := TX2) (N := 12) hx hb hts hinX2 hown hK hP 0 rfl rfl 8 (by decide) (hts (.fieldLink RX2 124 "SealedPages" "somethingKept" "Z") (by decide +kernel)) (fun _ h => h) rfl dX2_back_1 ?_
  refine lv_if_eq (tgt := 14) hx hb dX2_back_4 (by decide) (fun c_1 => ?_) (fun c_1 => ?_)
  · skip
    have hc := c_1
    refine lv_iconst (v := (-1)) hx hb dX2_back_14 (by decide) ?_
    have ec_2 : D = s_bak N D KD kp := by unfold s_bak; first | rw [if_pos hc] | rw [if_neg hcn]
    rw [show xW g cA N D R F KD KR FL SU WO ln kp rd wr ft = xW g cA N (s_bak N D KD kp) R F KD KR FL SU WO ln kp rd wr ft from by rw [← ec_2]] at hP hD
    exact hret _ () _ _ _ _ dX2_back_15 hP hD hS (by unfold a_bak; first | rw [if_pos hc] | rw [if_neg hcn])
  · skip
    have hcn := c_1
    refine lv_aload_n hx hb dX2_back_7 rfl (lv_at hl 0 rfl) ?_
    refine x_vi ⟨hx, hb, hml, hown, hts⟩ (c_X2_restoreDisk l G cA tF tC g _ N hN D R F KD KR FL SU WO ln kp rd wr ft ) (cwV 0 hts gX2_back_X2_restoreDisk rfl rfl rfl (by decide +kernel) ⟨Nat.le_of_ble_eq_true rfl, Nat.le_of_ble_eq_true rfl⟩) hK hP hD hS hT rfl 0 2 rfl rfl rfl hl.1 rfl (Nat.le_of_ble_eq_true rfl) dX2_back_8 ⟨Nat.le_refl _, Nat.le_refl _⟩ (fun r_4 u H locs hp_3 hP hD hS => ?_)
    have hP : va_P G vwCl (xW g cA N (va_cpy KD D 0 0 (siz N)) R F KD KR FL SU WO ln kp rd wr ft) _ := hP
    have hD : va_D _ (xW g cA N (va_cpy KD D 0 0 (siz N)) R F KD KR FL SU WO ln kp rd wr ft) := hD
    have hp_3 : r_4 = nI (difN D KD (siz N)) := hp_3
    subst hp_3
    refine lv_goto (tgt := 15) hx hb dX2_back_11 (by decide) ?_
    have ec_5 : va_cpy KD D 0 0 (siz N) = s_bak N D KD kp := by unfold s_bak; first | rw [if_pos hc] | rw [if_neg hcn]
    rw [show xW g cA N (va_cpy KD D 0 0 (siz N)) R F KD KR FL SU WO ln kp rd wr ft = xW g cA N (s_bak N D KD kp) R F KD KR FL SU WO ln kp rd wr ft from by rw [← ec_5]] at hP hD
    exact hret _ () _ _ _ _ dX2_back_15 hP hD hS (by unfold a_bak; first | rw [if_pos hc] | rw [if_neg hcn])

set_option maxHeartbeats 4000000 in
set_option maxRecDepth 100000 in
theorem c_X2_open (l : Launch) (G : va_G) (cA : ClassId) (tF tC : Nat) (g : Nat → Nat) (sz N : Nat) (hN : 1 ≤ N ∧ N ≤ 64) (D R F KD KR FL SU WO : Nat → Int32) (ln kp rd wr ft : Int32)  : CI l yX2_open wsX2_open 1 60 G cA tF tC g 13 sz (xW g cA N D R F KD KR FL SU WO ln kp rd wr ft) [.ref (g 0)] (fun (u : Unit) => xW g cA N (s_bak N D KD kp) (s_opn R KR kp) F KD KR FL SU WO ln kp rd wr ft) (fun r _ => r = a_bak N D KD kp) := by
  refine x_entryI (cc := cX2_open) (maxL := 1) (by decide) rfl (fun _ => rfl) (Nat.le_of_ble_eq_true rfl) ?_
  intro p e s m args below meth c Q hx hb hml hown hts hK hP hD hS hT hret ls hl
  have hown : s.vm.findClass RX2 = some m.cls := hown
  have hl : lv_has ls 1 [(0, .ref (g 0))] := hl
  have hinX2 : ∀ w ∈ wsX20, w ∈ wsX2_open := by decide +kernel
  have hz := siz_le hN
  have hse := siz_eq N
  have hnd := nds_le hN
  have hlv := lvs_in hN
  refine lv_aload_n hx hb dX2_open_0 rfl (lv_at hl 0 rfl) ?_
  refine va_get (D := G) (ci := 2) (v := .int kp) (C := RX2) (T := TX2) (N := 12) hx hb hts hinX2 hown hK hP 0 rfl rfl 8 (by decide) (hts (.fieldLink RX2 124 "SealedPages" "somethingKept" "Z") (by decide +kernel)) (fun _ h => h) rfl dX2_open_1 ?_
  refine lv_if_ne (tgt := 9) hx hb dX2_open_4 (by decide) (fun c_1 => ?_) (fun c_1 => ?_)
  · skip
    have hcn := c_1
    refine lv_aload_n hx hb dX2_open_9 rfl (lv_at hl 0 rfl) ?_
    refine va_get (D := G) (ci := 2) (v := .ref (g 7)) (C := RX2) (T := TX2) (N := 12) hx hb hts hinX2 hown hK hP 0 rfl rfl 6 (by decide) (hts (.fieldLink RX2 51 "SealedPages" "keptRoot" "[I") (by decide +kernel)) (fun _ h => h) rfl dX2_open_10 ?_
    refine lv_iconst (v := 0) hx hb dX2_open_13 (by decide) ?_
    refine lv_aload_n hx hb dX2_open_14 rfl (lv_at hl 0 rfl) ?_
    refine va_get (D := G) (ci := 2) (v := .ref (g 4)) (C := RX2) (T := TX2) (N := 12) hx hb hts hinX2 hown hK hP 0 rfl rfl 3 (by decide) (hts (.fieldLink RX2 42 "SealedPages" "rootBytes" "[I") (by decide +kernel)) (fun _ h => h) rfl dX2_open_15 ?_
    refine lv_iconst (v := 0) hx hb dX2_open_18 (by decide) ?_
    refine lv_bipush (v := 32) hx hb dX2_open_19 (by decide) ?_
    refine x_cpy (spN := 0) (dpN := 0) (nN := 32) hx hb (by rw [hml]; exact hl.1.symm) hown (hts (.methodLink RX2 74 arraycopyName) (by decide +kernel)) (hts (.native arraycopyName) (by decide +kernel)) (hts (.static arraycopyName) (by decide +kernel)) (hts (.initialized "java/lang/System") (by decide +kernel)) hK hP hD hS 7 4 0 rfl rfl rfl (by omega) (by omega) (⟨by omega, by omega⟩) (Nat.le_of_ble_eq_true rfl) (Nat.le_of_ble_eq_true rfl) dX2_open_21 (fun H locs hP hD hS => ?_)
    have hP : va_P G vwCl (xW g cA N D (va_cpy KR R 0 0 32) F KD KR FL SU WO ln kp rd wr ft) _ := hP
    have hD : va_D _ (xW g cA N D (va_cpy KR R 0 0 32) F KD KR FL SU WO ln kp rd wr ft) := hD
    refine lv_aload_n hx hb dX2_open_24 rfl (lv_at hl 0 rfl) ?_
    refine x_vi ⟨hx, hb, hml, hown, hts⟩ (c_X2_restoreDisk l G cA tF tC g _ N hN D (va_cpy KR R 0 0 32) F KD KR FL SU WO ln kp rd wr ft ) (cwV 0 hts gX2_open_X2_restoreDisk rfl rfl rfl (by decide +kernel) ⟨Nat.le_of_ble_eq_true rfl, Nat.le_of_ble_eq_true rfl⟩) hK hP hD hS hT rfl 0 2 rfl rfl rfl hl.1 rfl (Nat.le_of_ble_eq_true rfl) dX2_open_25 ⟨Nat.le_refl _, Nat.le_refl _⟩ (fun r_3 u H locs hp_2 hP hD hS => ?_)
    have hP : va_P G vwCl (xW g cA N (va_cpy KD D 0 0 (siz N)) (va_cpy KR R 0 0 32) F KD KR FL SU WO ln kp rd wr ft) _ := hP
    have hD : va_D _ (xW g cA N (va_cpy KD D 0 0 (siz N)) (va_cpy KR R 0 0 32) F KD KR FL SU WO ln kp rd wr ft) := hD
    have hp_2 : r_3 = nI (difN D KD (siz N)) := hp_2
    subst hp_2
    have ec_4 : va_cpy KD D 0 0 (siz N) = s_bak N D KD kp := by unfold s_bak; rw [if_neg hcn]
    rw [show xW g cA N (va_cpy KD D 0 0 (siz N)) (va_cpy KR R 0 0 32) F KD KR FL SU WO ln kp rd wr ft = xW g cA N (s_bak N D KD kp) (va_cpy KR R 0 0 32) F KD KR FL SU WO ln kp rd wr ft from by rw [← ec_4]] at hP hD
    have ec_5 : va_cpy KR R 0 0 32 = s_opn R KR kp := by unfold s_opn; rw [if_neg hcn]
    rw [show xW g cA N (s_bak N D KD kp) (va_cpy KR R 0 0 32) F KD KR FL SU WO ln kp rd wr ft = xW g cA N (s_bak N D KD kp) (s_opn R KR kp) F KD KR FL SU WO ln kp rd wr ft from by rw [← ec_5]] at hP hD
    exact hret _ () _ _ _ _ dX2_open_28 hP hD hS (by unfold a_bak; first | rw [if_pos hc] | rw [if_neg hcn])
  · skip
    have hc := c_1
    have ec_6 : D = s_bak N D KD kp := by unfold s_bak; rw [if_pos hc]
    rw [show xW g cA N D R F KD KR FL SU WO ln kp rd wr ft = xW g cA N (s_bak N D KD kp) R F KD KR FL SU WO ln kp rd wr ft from by rw [← ec_6]] at hP hD
    have ec_7 : R = s_opn R KR kp := by unfold s_opn; rw [if_pos hc]
    rw [show xW g cA N (s_bak N D KD kp) R F KD KR FL SU WO ln kp rd wr ft = xW g cA N (s_bak N D KD kp) (s_opn R KR kp) F KD KR FL SU WO ln kp rd wr ft from by rw [← ec_7]] at hP hD
    refine lv_iconst (v := (-1)) hx hb dX2_open_7 (by decide) ?_
    exact hret _ () _ _ _ _ dX2_open_8 hP hD hS (by unfold a_bak; first | rw [if_pos hc] | rw [if_neg hcn])

set_option maxHeartbeats 4000000 in
set_option maxRecDepth 100000 in
theorem c_X2_told (l : Launch) (G : va_G) (cA : ClassId) (tF tC : Nat) (g : Nat → Nat) (sz N : Nat) (hN : 1 ≤ N ∧ N ≤ 64) (D R F KD KR FL SU WO : Nat → Int32) (ln kp rd wr ft : Int32) (x : Int32) : CI l yX2_told wsX2_told 0 0 G cA tF tC g 13 sz (xW g cA N D R F KD KR FL SU WO ln kp rd wr ft) [.ref (g 0), .int x] (fun (u : Unit) => xW g cA N D R F KD KR FL SU WO ln kp rd wr ft) (fun r _ => r = a_told N rd wr ft x) := by
  refine x_entryI (cc := cX2_told) (maxL := 2) (by decide) rfl (fun _ => rfl) (Nat.le_of_ble_eq_true rfl) ?_
  intro p e s m args below meth c Q hx hb hml hown hts hK hP hD hS hT hret ls hl
  have hown : s.vm.findClass RX2 = some m.cls := hown
  have hl : lv_has ls 2 [(0, .ref (g 0)), (1, .int x)] := hl
  have hinX1 : ∀ w ∈ wsX10, w ∈ wsX2_told := by decide +kernel
  have hinX2 : ∀ w ∈ wsX20, w ∈ wsX2_told := by decide +kernel
  refine lv_iload_n hx hb dX2_told_0 rfl (lv_at hl 1 rfl) ?_
  rcases (show x = 0 ∨ x = 1 ∨ x = 2 ∨ x = 3 ∨ (¬ x = 0 ∧ ¬ x = 1 ∧ ¬ x = 2 ∧ ¬ x = 3) from Classical.byCases Or.inl (fun h0 => Or.inr (Classical.byCases Or.inl (fun h1 => Or.inr (Classical.byCases Or.inl (fun h2 => Or.inr (Classical.byCases Or.inl (fun h3 => Or.inr ⟨h0, h1, h2, h3⟩)))))))) with h4 | h4 | h4 | h4 | h4
  · skip
    subst h4
    refine lv_tableIn (off := 31) (tgt := 32) hx hb dX2_told_1 (by decide) (by decide) (by decide) (by decide) ?_
    refine lv_aload_n hx hb dX2_told_32 rfl (lv_at hl 0 rfl) ?_
    refine va_get (D := G) (ci := 2) (v := .ref (g 1)) (C := RX2) (T := TX2) (N := 12) hx hb hts hinX2 hown hK hP 0 rfl rfl 0 (by decide) (hts (.fieldLink RX2 23 "SealedPages" "layout" "LSealedPages$Layout;") (by decide +kernel)) (fun _ h => h) rfl dX2_told_33 ?_
    refine va_get (D := G) (ci := 1) (v := .int (nI N)) (C := RX1) (T := TX1) (N := 6) hx hb hts hinX1 hown hK hP 1 rfl rfl 0 (by decide) (hts (.fieldLink RX2 109 "SealedPages$Layout" "pageCount" "I") (by decide +kernel)) (fun _ h => h) rfl dX2_told_36 ?_
    exact hret _ () _ _ _ _ dX2_told_39 hP hD hS rfl
  · skip
    subst h4
    refine lv_tableIn (off := 39) (tgt := 40) hx hb dX2_told_1 (by decide) (by decide) (by decide) (by decide) ?_
    refine lv_aload_n hx hb dX2_told_40 rfl (lv_at hl 0 rfl) ?_
    refine va_get (D := G) (ci := 2) (v := .int rd) (C := RX2) (T := TX2) (N := 12) hx hb hts hinX2 hown hK hP 0 rfl rfl 9 (by decide) (hts (.fieldLink RX2 80 "SealedPages" "pagesGiven" "I") (by decide +kernel)) (fun _ h => h) rfl dX2_told_41 ?_
    exact hret _ () _ _ _ _ dX2_told_44 hP hD hS rfl
  · skip
    subst h4
    refine lv_tableIn (off := 44) (tgt := 45) hx hb dX2_told_1 (by decide) (by decide) (by decide) (by decide) ?_
    refine lv_aload_n hx hb dX2_told_45 rfl (lv_at hl 0 rfl) ?_
    refine va_get (D := G) (ci := 2) (v := .int wr) (C := RX2) (T := TX2) (N := 12) hx hb hts hinX2 hown hK hP 0 rfl rfl 10 (by decide) (hts (.fieldLink RX2 89 "SealedPages" "pagesWritten" "I") (by decide +kernel)) (fun _ h => h) rfl dX2_told_46 ?_
    exact hret _ () _ _ _ _ dX2_told_49 hP hD hS rfl
  · skip
    subst h4
    refine lv_tableIn (off := 49) (tgt := 50) hx hb dX2_told_1 (by decide) (by decide) (by decide) (by decide) ?_
    refine lv_aload_n hx hb dX2_told_50 rfl (lv_at hl 0 rfl) ?_
    refine va_get (D := G) (ci := 2) (v := .int ft) (C := RX2) (T := TX2) (N := 12) hx hb hts hinX2 hown hK hP 0 rfl rfl 11 (by decide) (hts (.fieldLink RX2 83 "SealedPages" "faultsTold" "I") (by decide +kernel)) (fun _ h => h) rfl dX2_told_51 ?_
    exact hret _ () _ _ _ _ dX2_told_54 hP hD hS rfl
  · skip
    have h5 : x.toInt < 0 ∨ 3 < x.toInt := sw_out h4.1 h4.2.1 h4.2.2.1 h4.2.2.2
    refine lv_tableOut (tgt := 55) hx hb dX2_told_1 h5 (by decide) ?_
    refine lv_iconst (v := (-1)) hx hb dX2_told_55 (by decide) ?_
    exact hret _ () _ _ _ _ dX2_told_56 hP hD hS (by unfold a_told; rw [if_neg h4.1, if_neg h4.2.1, if_neg h4.2.2.1, if_neg h4.2.2.2])

set_option maxHeartbeats 4000000 in
set_option maxRecDepth 100000 in
theorem c_X2_node (l : Launch) (G : va_G) (cA : ClassId) (tF tC : Nat) (g : Nat → Nat) (sz N : Nat) (hN : 1 ≤ N ∧ N ≤ 64) (D R F KD KR FL SU WO : Nat → Int32) (ln kp rd wr ft : Int32) (x y : Int32) : CI l yX2_node wsX2_node 2 44 G cA tF tC g 13 sz (xW g cA N D R F KD KR FL SU WO ln kp rd wr ft) [.ref (g 0), .int x, .int y] (fun (u : Unit) => xW g cA N D R F KD KR FL SU WO ln kp rd wr ft) (fun r _ => r = a_node N x y) := by
  refine x_entryI (cc := cX2_node) (maxL := 3) (by decide) rfl (fun _ => rfl) (Nat.le_of_ble_eq_true rfl) ?_
  intro p e s m args below meth c Q hx hb hml hown hts hK hP hD hS hT hret ls hl
  have hown : s.vm.findClass RX2 = some m.cls := hown
  have hl : lv_has ls 3 [(0, .ref (g 0)), (1, .int x), (2, .int y)] := hl
  have hinX2 : ∀ w ∈ wsX20, w ∈ wsX2_node := by decide +kernel
  have hz := siz_le hN
  have hse := siz_eq N
  have hnd := nds_le hN
  have hlv := lvs_in hN
  refine lv_aload_n hx hb dX2_node_0 rfl (lv_at hl 0 rfl) ?_
  refine va_get (D := G) (ci := 2) (v := .ref (g 1)) (C := RX2) (T := TX2) (N := 12) hx hb hts hinX2 hown hK hP 0 rfl rfl 0 (by decide) (hts (.fieldLink RX2 23 "SealedPages" "layout" "LSealedPages$Layout;") (by decide +kernel)) (fun _ h => h) rfl dX2_node_1 ?_
  refine lv_iload_n hx hb dX2_node_4 rfl (lv_at hl 1 rfl) ?_
  refine lv_iload_n hx hb dX2_node_5 rfl (lv_at hl 2 rfl) ?_
  refine x_vi ⟨hx, hb, hml, hown, hts⟩ (c_X1_hasNode l G cA tF tC g _ N hN D R F KD KR FL SU WO ln kp rd wr ft x y) (cwV 2 hts gX2_node_X1_hasNode rfl rfl rfl (by decide +kernel) ⟨Nat.le_of_ble_eq_true rfl, Nat.le_of_ble_eq_true rfl⟩) hK hP hD hS hT rfl 1 1 rfl rfl rfl hl.1 rfl (Nat.le_of_ble_eq_true rfl) dX2_node_6 ⟨Nat.le_refl _, Nat.le_refl _⟩ (fun r_2 u H locs hp_1 hP hD hS => ?_)
  have hP : va_P G vwCl (xW g cA N D R F KD KR FL SU WO ln kp rd wr ft) _ := hP
  have hD : va_D _ (xW g cA N D R F KD KR FL SU WO ln kp rd wr ft) := hD
  have hp_1 : r_2 = inN N x y := hp_1
  subst hp_1
  refine lv_if_eq (tgt := 24) hx hb dX2_node_9 (by decide) (fun c_3 => ?_) (fun c_3 => ?_)
  · skip
    have hc : -1 = a_node N x y := by unfold a_node; rw [if_pos c_3]
    refine lv_iconst (v := (-1)) hx hb dX2_node_24 (by decide) ?_
    exact hret _ () _ _ _ _ dX2_node_25 hP hD hS hc
  · skip
    obtain ⟨ql, qk, hql, hqk, rfl, rfl⟩ := inN_1 hN c_3
    have hnq := nod_le N hN.1 ql
    have hc : nI (plc N ql qk) = a_node N (nI ql) (nI qk) := by unfold a_node; rw [if_neg c_3, nI_clamp (by omega), nI_clamp (by omega)]
    have hl : lv_has ls 3 [(0, .ref (g 0)), (1, .int (nI ql)), (2, .int (nI qk))] := hl
    refine lv_aload_n hx hb dX2_node_12 rfl (lv_at hl 0 rfl) ?_
    refine va_get (D := G) (ci := 2) (v := .ref (g 1)) (C := RX2) (T := TX2) (N := 12) hx hb hts hinX2 hown hK hP 0 rfl rfl 0 (by decide) (hts (.fieldLink RX2 23 "SealedPages" "layout" "LSealedPages$Layout;") (by decide +kernel)) (fun _ h => h) rfl dX2_node_13 ?_
    refine lv_iload_n hx hb dX2_node_16 rfl (lv_at hl 1 rfl) ?_
    refine lv_iload_n hx hb dX2_node_17 rfl (lv_at hl 2 rfl) ?_
    refine x_vi ⟨hx, hb, hml, hown, hts⟩ (c_X1_placeOfNode l G cA tF tC g _ N hN D R F KD KR FL SU WO ln kp rd wr ft ql qk hql) (cwV 2 hts gX2_node_X1_placeOfNode rfl rfl rfl (by decide +kernel) ⟨Nat.le_of_ble_eq_true rfl, Nat.le_of_ble_eq_true rfl⟩) hK hP hD hS hT rfl 1 1 rfl rfl rfl hl.1 rfl (Nat.le_of_ble_eq_true rfl) dX2_node_18 ⟨Nat.le_refl _, Nat.le_refl _⟩ (fun r_5 u H locs hp_4 hP hD hS => ?_)
    have hP : va_P G vwCl (xW g cA N D R F KD KR FL SU WO ln kp rd wr ft) _ := hP
    have hD : va_D _ (xW g cA N D R F KD KR FL SU WO ln kp rd wr ft) := hD
    have hp_4 : r_5 = nI (plc N ql qk) := hp_4
    subst hp_4
    refine lv_goto (tgt := 25) hx hb dX2_node_21 (by decide) ?_
    exact hret _ () _ _ _ _ dX2_node_25 hP hD hS hc

set_option maxHeartbeats 4000000 in
set_option maxRecDepth 100000 in
theorem c_X2_proof (l : Launch) (G : va_G) (cA : ClassId) (tF tC : Nat) (g : Nat → Nat) (sz N : Nat) (hN : 1 ≤ N ∧ N ≤ 64) (D R F KD KR FL SU WO : Nat → Int32) (ln kp rd wr ft : Int32) (x : Int32) : CI l yX2_proof wsX2_proof 2 43 G cA tF tC g 13 sz (xW g cA N D R F KD KR FL SU WO ln kp rd wr ft) [.ref (g 0), .int x] (fun (u : Unit) => xW g cA N D R F KD KR FL SU WO ln kp rd wr ft) (fun r _ => r = a_prf N x) := by
  refine x_entryI (cc := cX2_proof) (maxL := 4) (by decide) rfl (fun _ => rfl) (Nat.le_of_ble_eq_true rfl) ?_
  intro p e s m args below meth c Q hx hb hml hown hts hK hP hD hS hT hret ls hl
  have hown : s.vm.findClass RX2 = some m.cls := hown
  have hl : lv_has ls 4 [(0, .ref (g 0)), (1, .int x)] := hl
  have hinX1 : ∀ w ∈ wsX10, w ∈ wsX2_proof := by decide +kernel
  have hinX2 : ∀ w ∈ wsX20, w ∈ wsX2_proof := by decide +kernel
  have hz := siz_le hN
  have hse := siz_eq N
  have hnd := nds_le hN
  have hlv := lvs_in hN
  refine lv_aload_n hx hb dX2_proof_0 rfl (lv_at hl 0 rfl) ?_
  refine va_get (D := G) (ci := 2) (v := .ref (g 1)) (C := RX2) (T := TX2) (N := 12) hx hb hts hinX2 hown hK hP 0 rfl rfl 0 (by decide) (hts (.fieldLink RX2 23 "SealedPages" "layout" "LSealedPages$Layout;") (by decide +kernel)) (fun _ h => h) rfl dX2_proof_1 ?_
  refine lv_iload_n hx hb dX2_proof_4 rfl (lv_at hl 1 rfl) ?_
  refine x_vi ⟨hx, hb, hml, hown, hts⟩ (c_X1_hasPage l G cA tF tC g _ N hN D R F KD KR FL SU WO ln kp rd wr ft x) (cwV 1 hts gX2_proof_X1_hasPage rfl rfl rfl (by decide +kernel) ⟨Nat.le_of_ble_eq_true rfl, Nat.le_of_ble_eq_true rfl⟩) hK hP hD hS hT rfl 1 1 rfl rfl rfl hl.1 rfl (Nat.le_of_ble_eq_true rfl) dX2_proof_5 ⟨Nat.le_refl _, Nat.le_refl _⟩ (fun r_2 u H locs hp_1 hP hD hS => ?_)
  have hP : va_P G vwCl (xW g cA N D R F KD KR FL SU WO ln kp rd wr ft) _ := hP
  have hD : va_D _ (xW g cA N D R F KD KR FL SU WO ln kp rd wr ft) := hD
  have hp_1 : r_2 = inB x N := hp_1
  subst hp_1
  refine lv_if_ne (tgt := 13) hx hb dX2_proof_8 (by decide) (fun c_3 => ?_) (fun c_3 => ?_)
  · skip
    obtain ⟨zq, hq, rfl⟩ := inB_1 (by omega) c_3
    have hl : lv_has ls 4 [(0, .ref (g 0)), (1, .int (nI zq))] := hl
    refine lv_iconst (v := 0) hx hb dX2_proof_13 (by decide) ?_
    refine lv_istore_n (lv' := [(2, .int 0), (0, .ref (g 0)), (1, .int (nI zq))]) hx hb dX2_proof_14 rfl hl (by decide) rfl (fun ls hl => ?_)
    refine lv_iconst (v := 0) hx hb dX2_proof_15 (by decide) ?_
    refine lv_istore_n (lv' := [(3, .int 0), (2, .int 0), (0, .ref (g 0)), (1, .int (nI zq))]) hx hb dX2_proof_16 rfl hl (by decide) rfl (fun ls hl => ?_)
    have loop_17 : ∀ (n_17 : Nat) (ql : Nat), (lvs N - ql) < n_17 → (ql ≤ lvs N) → ∀ (H : Heap) (locs : List Loc) (ls : Array Slot), va_P G vwCl (xW g cA N D R F KD KR FL SU WO ln kp rd wr ft) H → va_D (wA g 13 s.heap.size) (xW g cA N D R F KD KR FL SU WO ln kp rd wr ft) → va_S (wA g 13 s.heap.size) s.heap H locs → lv_has ls 4 [(0, .ref (g 0)), (1, .int (nI zq)), (2, .int (nI (prfN N zq ql))), (3, .int (nI ql))] → W p l e { frames := 2, cells := 0, slots := 0, locals := 43 } s m args below meth c H locs 0 0 Q (F0 m 17 ls []) := by
      intro n_17
      induction n_17 with
      | zero => intro ql hm_17; exact absurd hm_17 (Nat.not_lt_zero _)
      | succ n_17 ih_17 =>
        intro ql hm_17 hql H locs ls hP hD hS hl
        have hbl := bsd_lt (p := zq) (l := ql) (by omega)
        have hpl := prf_le N zq ql
        refine lv_iload_n hx hb dX2_proof_17 rfl (lv_at hl 3 rfl) ?_
        refine lv_aload_n hx hb dX2_proof_18 rfl (lv_at hl 0 rfl) ?_
        refine va_get (D := G) (ci := 2) (v := .ref (g 1)) (C := RX2) (T := TX2) (N := 12) hx hb hts hinX2 hown hK hP 0 rfl rfl 0 (by decide) (hts (.fieldLink RX2 23 "SealedPages" "layout" "LSealedPages$Layout;") (by decide +kernel)) (fun _ h => h) rfl dX2_proof_19 ?_
        refine va_get (D := G) (ci := 1) (v := .int (nI (lvs N))) (C := RX1) (T := TX1) (N := 6) hx hb hts hinX1 hown hK hP 1 rfl rfl 1 (by decide) (hts (.fieldLink RX2 100 "SealedPages$Layout" "levelCount" "I") (by decide +kernel)) (fun _ h => h) rfl dX2_proof_22 ?_
        refine lv_icmp_ge (tgt := 53) hx hb dX2_proof_25 (by decide) (fun c_4 => ?_) (fun c_4 => ?_)
        · skip
          have c_4 : (lvs N) ≤ ql := (nI_leI (a := (lvs N)) (b := ql) (by omega) (by omega)).mp c_4
          obtain rfl : ql = lvs N := by omega
          have hc : nI (prfN N zq (lvs N)) = a_prf N (nI zq) := by unfold a_prf; rw [if_neg (inB_nz hq (by omega)), nI_clamp (by omega), prf_last hN hq]
          have hl : lv_has ls 4 [(0, .ref (g 0)), (1, .int (nI zq)), (2, .int (nI (prfN N zq (lvs N)))), (3, .int (nI (lvs N)))] := hl
          refine lv_iload_n hx hb dX2_proof_53 rfl (lv_at hl 2 rfl) ?_
          exact hret _ () _ _ _ _ dX2_proof_54 hP hD hS hc
        · skip
          have c_4 : ¬ (lvs N) ≤ ql := fun z => c_4 ((nI_leI (a := (lvs N)) (b := ql) (by omega) (by omega)).mpr z)
          refine lv_aload_n hx hb dX2_proof_28 rfl (lv_at hl 0 rfl) ?_
          refine va_get (D := G) (ci := 2) (v := .ref (g 1)) (C := RX2) (T := TX2) (N := 12) hx hb hts hinX2 hown hK hP 0 rfl rfl 0 (by decide) (hts (.fieldLink RX2 23 "SealedPages" "layout" "LSealedPages$Layout;") (by decide +kernel)) (fun _ h => h) rfl dX2_proof_29 ?_
          refine lv_iload_n hx hb dX2_proof_32 rfl (lv_at hl 3 rfl) ?_
          refine lv_iload_n hx hb dX2_proof_33 rfl (lv_at hl 1 rfl) ?_
          refine lv_iload_n hx hb dX2_proof_34 rfl (lv_at hl 3 rfl) ?_
          refine x_si ⟨hx, hb, hml, hown, hts⟩ (c_X2_nodeBesideWay l G cA tF tC g _ N hN D R F KD KR FL SU WO ln kp rd wr ft zq ql (by omega) (by omega)) (va_cwS 2 hts gX2_proof_X2_nodeBesideWay rfl rfl rfl (by decide +kernel) ⟨Nat.le_of_ble_eq_true rfl, Nat.le_of_ble_eq_true rfl⟩) hK hP hD hS hT rfl rfl hl.1 rfl (Nat.le_of_ble_eq_true rfl) dX2_proof_35 ⟨Nat.le_refl _, Nat.le_refl _⟩ (fun r_6 u H locs hp_5 hP hD hS => ?_)
          have hP : va_P G vwCl (xW g cA N D R F KD KR FL SU WO ln kp rd wr ft) _ := hP
          have hD : va_D _ (xW g cA N D R F KD KR FL SU WO ln kp rd wr ft) := hD
          have hp_5 : r_6 = nI (bsd zq ql) := hp_5
          subst hp_5
          refine x_vi ⟨hx, hb, hml, hown, hts⟩ (c_X1_hasNode l G cA tF tC g _ N hN D R F KD KR FL SU WO ln kp rd wr ft (nI ql) (nI (bsd zq ql))) (cwV 2 hts gX2_proof_X1_hasNode rfl rfl rfl (by decide +kernel) ⟨Nat.le_of_ble_eq_true rfl, Nat.le_of_ble_eq_true rfl⟩) hK hP hD hS hT rfl 1 1 rfl rfl rfl hl.1 rfl (Nat.le_of_ble_eq_true rfl) dX2_proof_38 ⟨Nat.le_refl _, Nat.le_refl _⟩ (fun r_8 u H locs hp_7 hP hD hS => ?_)
          have hP : va_P G vwCl (xW g cA N D R F KD KR FL SU WO ln kp rd wr ft) _ := hP
          have hD : va_D _ (xW g cA N D R F KD KR FL SU WO ln kp rd wr ft) := hD
          have hp_7 : r_8 = inN N (nI ql) (nI (bsd zq ql)) := hp_7
          subst hp_7
          refine lv_if_eq (tgt := 47) hx hb dX2_proof_41 (by decide) (fun c_9 => ?_) (fun c_9 => ?_)
          · skip
            have hnb : ¬ bsd zq ql < nod N ql := fun h => by rw [inN_n hN (by omega) (by omega), if_pos h] at c_9; exact absurd c_9 (by decide)
            have hl : lv_has ls 4 [(0, .ref (g 0)), (1, .int (nI zq)), (2, .int (nI (prfN N zq (ql + 1)))), (3, .int (nI ql))] := by rw [prf_s, if_neg hnb]; exact hl
            refine lv_iinc (v := nI (ql + 1)) (lv' := [(3, .int (nI (ql + 1))), (0, .ref (g 0)), (1, .int (nI zq)), (2, .int (nI (prfN N zq (ql + 1))))]) hx hb dX2_proof_47 hl (k := 3) rfl (nI_1 _) (by decide) rfl (fun ls hl => ?_)
            refine lv_goto (tgt := 17) hx hb dX2_proof_50 (by decide) ?_
            exact ih_17 (ql + 1) (by omega) (by omega) _ _ _ hP hD hS (lv_sub hl [1, 2, 3, 0] rfl)
          · skip
            have hnb : bsd zq ql < nod N ql := Decidable.byContradiction (fun h => by rw [inN_n hN (by omega) (by omega), if_neg h] at c_9; exact c_9 rfl)
            refine lv_iinc (v := nI (prfN N zq (ql + 1))) (lv' := [(2, .int (nI (prfN N zq (ql + 1)))), (0, .ref (g 0)), (1, .int (nI zq)), (3, .int (nI ql))]) hx hb dX2_proof_44 hl (k := 2) rfl (by rw [prf_s, if_pos hnb]; exact nI_1 _) (by decide) rfl (fun ls hl => ?_)
            refine lv_iinc (v := nI (ql + 1)) (lv' := [(3, .int (nI (ql + 1))), (2, .int (nI (prfN N zq (ql + 1)))), (0, .ref (g 0)), (1, .int (nI zq))]) hx hb dX2_proof_47 hl (k := 3) rfl (nI_1 _) (by decide) rfl (fun ls hl => ?_)
            refine lv_goto (tgt := 17) hx hb dX2_proof_50 (by decide) ?_
            exact ih_17 (ql + 1) (by omega) (by omega) _ _ _ hP hD hS (lv_sub hl [2, 3, 1, 0] rfl)
    exact loop_17 _ 0 (Nat.lt_succ_self _) (by omega) _ _ _ hP hD hS (lv_sub hl [2, 3, 1, 0] rfl)
  · skip
    have hc : -1 = a_prf N x := by unfold a_prf; rw [if_pos c_3]
    refine lv_iconst (v := (-1)) hx hb dX2_proof_11 (by decide) ?_
    exact hret _ () _ _ _ _ dX2_proof_12 hP hD hS hc

set_option maxHeartbeats 4000000 in
set_option maxRecDepth 100000 in
theorem c_X2_beside (l : Launch) (G : va_G) (cA : ClassId) (tF tC : Nat) (g : Nat → Nat) (sz N : Nat) (hN : 1 ≤ N ∧ N ≤ 64) (D R F KD KR FL SU WO : Nat → Int32) (ln kp rd wr ft : Int32) (x y z : Int32) : CI l yX2_beside wsX2_beside 2 44 G cA tF tC g 13 sz (xW g cA N D R F KD KR FL SU WO ln kp rd wr ft) [.ref (g 0), .int x, .int y, .int z] (fun (u : Unit) => xW g cA N D R F KD KR FL SU WO ln kp rd wr ft) (fun r _ => r = a_bes N D x y z) := by
  refine x_entryI (cc := cX2_beside) (maxL := 7) (by decide) rfl (fun _ => rfl) (Nat.le_of_ble_eq_true rfl) ?_
  intro p e s m args below meth c Q hx hb hml hown hts hK hP hD hS hT hret ls hl
  have hown : s.vm.findClass RX2 = some m.cls := hown
  have hl : lv_has ls 7 [(0, .ref (g 0)), (1, .int x), (2, .int y), (3, .int z)] := hl
  have hinX1 : ∀ w ∈ wsX10, w ∈ wsX2_beside := by decide +kernel
  have hinX2 : ∀ w ∈ wsX20, w ∈ wsX2_beside := by decide +kernel
  have hz := siz_le hN
  have hse := siz_eq N
  have hnd := nds_le hN
  have hlv := lvs_in hN
  refine lv_aload_n hx hb dX2_beside_0 rfl (lv_at hl 0 rfl) ?_
  refine va_get (D := G) (ci := 2) (v := .ref (g 1)) (C := RX2) (T := TX2) (N := 12) hx hb hts hinX2 hown hK hP 0 rfl rfl 0 (by decide) (hts (.fieldLink RX2 23 "SealedPages" "layout" "LSealedPages$Layout;") (by decide +kernel)) (fun _ h => h) rfl dX2_beside_1 ?_
  refine lv_iload_n hx hb dX2_beside_4 rfl (lv_at hl 1 rfl) ?_
  refine x_vi ⟨hx, hb, hml, hown, hts⟩ (c_X1_hasPage l G cA tF tC g _ N hN D R F KD KR FL SU WO ln kp rd wr ft x) (cwV 1 hts gX2_beside_X1_hasPage rfl rfl rfl (by decide +kernel) ⟨Nat.le_of_ble_eq_true rfl, Nat.le_of_ble_eq_true rfl⟩) hK hP hD hS hT rfl 1 1 rfl rfl rfl hl.1 rfl (Nat.le_of_ble_eq_true rfl) dX2_beside_5 ⟨Nat.le_refl _, Nat.le_refl _⟩ (fun r_2 u H locs hp_1 hP hD hS => ?_)
  have hP : va_P G vwCl (xW g cA N D R F KD KR FL SU WO ln kp rd wr ft) _ := hP
  have hD : va_D _ (xW g cA N D R F KD KR FL SU WO ln kp rd wr ft) := hD
  have hp_1 : r_2 = inB x N := hp_1
  subst hp_1
  refine lv_if_eq (tgt := 20) hx hb dX2_beside_8 (by decide) (fun c_3 => ?_) (fun c_3 => ?_)
  · skip
    have hc : -1 = a_bes N D x y z := by unfold a_bes; rw [if_pos c_3]
    refine lv_iconst (v := (-1)) hx hb dX2_beside_20 (by decide) ?_
    exact hret _ () _ _ _ _ dX2_beside_21 hP hD hS hc
  · skip
    have hxn := c_3
    refine lv_iload_n hx hb dX2_beside_11 rfl (lv_at hl 3 rfl) ?_
    refine lv_bipush (v := 32) hx hb dX2_beside_12 (by decide) ?_
    refine x_si ⟨hx, hb, hml, hown, hts⟩ (c_X2_isBelow l G cA tF tC g _ N hN D R F KD KR FL SU WO ln kp rd wr ft z 32 (by omega)) (va_cwS 2 hts gX2_beside_X2_isBelow rfl rfl rfl (by decide +kernel) ⟨Nat.le_of_ble_eq_true rfl, Nat.le_of_ble_eq_true rfl⟩) hK hP hD hS hT rfl rfl hl.1 rfl (Nat.le_of_ble_eq_true rfl) dX2_beside_14 ⟨Nat.le_refl _, Nat.le_refl _⟩ (fun r_5 u H locs hp_4 hP hD hS => ?_)
    have hP : va_P G vwCl (xW g cA N D R F KD KR FL SU WO ln kp rd wr ft) _ := hP
    have hD : va_D _ (xW g cA N D R F KD KR FL SU WO ln kp rd wr ft) := hD
    have hp_4 : r_5 = inB z 32 := hp_4
    subst hp_4
    refine lv_if_ne (tgt := 22) hx hb dX2_beside_17 (by decide) (fun c_6 => ?_) (fun c_6 => ?_)
    · skip
      obtain ⟨zi, hi, rfl⟩ := inB_1 (by omega) c_6
      obtain ⟨zq, hq, rfl⟩ := inB_1 (by omega) hxn
      have hl : lv_has ls 7 [(0, .ref (g 0)), (1, .int (nI zq)), (2, .int y), (3, .int (nI zi))] := hl
      refine lv_iconst (v := 0) hx hb dX2_beside_22 (by decide) ?_
      refine lv_istore (lv' := [(4, .int 0), (0, .ref (g 0)), (1, .int (nI zq)), (2, .int y), (3, .int (nI zi))]) hx hb dX2_beside_23 hl (by decide) rfl (fun ls hl => ?_)
      refine lv_iconst (v := 0) hx hb dX2_beside_25 (by decide) ?_
      refine lv_istore (lv' := [(5, .int 0), (4, .int 0), (0, .ref (g 0)), (1, .int (nI zq)), (2, .int y), (3, .int (nI zi))]) hx hb dX2_beside_26 hl (by decide) rfl (fun ls hl => ?_)
      have loop_28 : ∀ (n_28 : Nat) (ql : Nat) (zc : Nat), (lvs N - ql) < n_28 → (ql ≤ lvs N) → (zc ≤ ql) → (besY N D zq zi y (lvs N - ql) ql zc = a_bes N D (nI zq) y (nI zi)) → ∀ (H : Heap) (locs : List Loc) (ls : Array Slot), va_P G vwCl (xW g cA N D R F KD KR FL SU WO ln kp rd wr ft) H → va_D (wA g 13 s.heap.size) (xW g cA N D R F KD KR FL SU WO ln kp rd wr ft) → va_S (wA g 13 s.heap.size) s.heap H locs → lv_has ls 7 [(0, .ref (g 0)), (1, .int (nI zq)), (2, .int y), (3, .int (nI zi)), (4, .int (nI zc)), (5, .int (nI ql))] → W p l e { frames := 2, cells := 0, slots := 0, locals := 44 } s m args below meth c H locs 0 0 Q (F0 m 28 ls []) := by
        intro n_28
        induction n_28 with
        | zero => intro ql zc hm_28; exact absurd hm_28 (Nat.not_lt_zero _)
        | succ n_28 ih_28 =>
          intro ql zc hm_28 hql hzc hbe H locs ls hP hD hS hl
          have hbl := bsd_lt (p := zq) (l := ql) (by omega)
          refine lv_iload hx hb dX2_beside_28 (lv_at hl 5 rfl) ?_
          refine lv_aload_n hx hb dX2_beside_30 rfl (lv_at hl 0 rfl) ?_
          refine va_get (D := G) (ci := 2) (v := .ref (g 1)) (C := RX2) (T := TX2) (N := 12) hx hb hts hinX2 hown hK hP 0 rfl rfl 0 (by decide) (hts (.fieldLink RX2 23 "SealedPages" "layout" "LSealedPages$Layout;") (by decide +kernel)) (fun _ h => h) rfl dX2_beside_31 ?_
          refine va_get (D := G) (ci := 1) (v := .int (nI (lvs N))) (C := RX1) (T := TX1) (N := 6) hx hb hts hinX1 hown hK hP 1 rfl rfl 1 (by decide) (hts (.fieldLink RX2 100 "SealedPages$Layout" "levelCount" "I") (by decide +kernel)) (fun _ h => h) rfl dX2_beside_34 ?_
          refine lv_icmp_ge (tgt := 96) hx hb dX2_beside_37 (by decide) (fun c_7 => ?_) (fun c_7 => ?_)
          · skip
            have c_7 : (lvs N) ≤ ql := (nI_leI (a := (lvs N)) (b := ql) (by omega) (by omega)).mp c_7
            have hc : -1 = a_bes N D (nI zq) y (nI zi) := by rw [← hbe, show lvs N - ql = 0 by omega]; rfl
            refine lv_iconst (v := (-1)) hx hb dX2_beside_96 (by decide) ?_
            exact hret _ () _ _ _ _ dX2_beside_97 hP hD hS hc
          · skip
            have c_7 : ¬ (lvs N) ≤ ql := fun z => c_7 ((nI_leI (a := (lvs N)) (b := ql) (by omega) (by omega)).mpr z)
            refine lv_iload_n hx hb dX2_beside_40 rfl (lv_at hl 1 rfl) ?_
            refine lv_iload hx hb dX2_beside_41 (lv_at hl 5 rfl) ?_
            refine x_si ⟨hx, hb, hml, hown, hts⟩ (c_X2_nodeBesideWay l G cA tF tC g _ N hN D R F KD KR FL SU WO ln kp rd wr ft zq ql (by omega) (by omega)) (va_cwS 2 hts gX2_beside_X2_nodeBesideWay rfl rfl rfl (by decide +kernel) ⟨Nat.le_of_ble_eq_true rfl, Nat.le_of_ble_eq_true rfl⟩) hK hP hD hS hT rfl rfl hl.1 rfl (Nat.le_of_ble_eq_true rfl) dX2_beside_43 ⟨Nat.le_refl _, Nat.le_refl _⟩ (fun r_9 u H locs hp_8 hP hD hS => ?_)
            have hP : va_P G vwCl (xW g cA N D R F KD KR FL SU WO ln kp rd wr ft) _ := hP
            have hD : va_D _ (xW g cA N D R F KD KR FL SU WO ln kp rd wr ft) := hD
            have hp_8 : r_9 = nI (bsd zq ql) := hp_8
            subst hp_8
            refine lv_istore (lv' := [(6, .int (nI (bsd zq ql))), (0, .ref (g 0)), (1, .int (nI zq)), (2, .int y), (3, .int (nI zi)), (4, .int (nI zc)), (5, .int (nI ql))]) hx hb dX2_beside_46 hl (by decide) rfl (fun ls hl => ?_)
            refine lv_aload_n hx hb dX2_beside_48 rfl (lv_at hl 1 rfl) ?_
            refine va_get (D := G) (ci := 2) (v := .ref (g 1)) (C := RX2) (T := TX2) (N := 12) hx hb hts hinX2 hown hK hP 0 rfl rfl 0 (by decide) (hts (.fieldLink RX2 23 "SealedPages" "layout" "LSealedPages$Layout;") (by decide +kernel)) (fun _ h => h) rfl dX2_beside_49 ?_
            refine lv_iload hx hb dX2_beside_52 (lv_at hl 6 rfl) ?_
            refine lv_iload hx hb dX2_beside_54 (lv_at hl 0 rfl) ?_
            refine x_vi ⟨hx, hb, hml, hown, hts⟩ (c_X1_hasNode l G cA tF tC g _ N hN D R F KD KR FL SU WO ln kp rd wr ft (nI ql) (nI (bsd zq ql))) (cwV 2 hts gX2_beside_X1_hasNode rfl rfl rfl (by decide +kernel) ⟨Nat.le_of_ble_eq_true rfl, Nat.le_of_ble_eq_true rfl⟩) hK hP hD hS hT rfl 1 1 rfl rfl rfl hl.1 rfl (Nat.le_of_ble_eq_true rfl) dX2_beside_56 ⟨Nat.le_refl _, Nat.le_refl _⟩ (fun r_11 u H locs hp_10 hP hD hS => ?_)
            have hP : va_P G vwCl (xW g cA N D R F KD KR FL SU WO ln kp rd wr ft) _ := hP
            have hD : va_D _ (xW g cA N D R F KD KR FL SU WO ln kp rd wr ft) := hD
            have hp_10 : r_11 = inN N (nI ql) (nI (bsd zq ql)) := hp_10
            subst hp_10
            refine lv_if_eq (tgt := 90) hx hb dX2_beside_59 (by decide) (fun c_12 => ?_) (fun c_12 => ?_)
            · skip
              have hnb : ¬ bsd zq ql < nod N ql := fun h => by rw [inN_n hN (by omega) (by omega), if_pos h] at c_12; exact absurd c_12 (by decide)
              have hbe2 : besY N D zq zi y (lvs N - (ql + 1)) (ql + 1) zc = a_bes N D (nI zq) y (nI zi) := by rw [← hbe, show lvs N - ql = lvs N - (ql + 1) + 1 by omega, besY_s, if_neg hnb]
              refine lv_iinc (v := nI (ql + 1)) (lv' := [(5, .int (nI (ql + 1))), (6, .int (nI (bsd zq ql))), (0, .ref (g 0)), (1, .int (nI zq)), (2, .int y), (3, .int (nI zi)), (4, .int (nI zc))]) hx hb dX2_beside_90 hl (k := 6) rfl (nI_1 _) (by decide) rfl (fun ls hl => ?_)
              refine lv_goto (tgt := 28) hx hb dX2_beside_93 (by decide) ?_
              exact ih_28 (ql + 1) zc (by omega) (by omega) (by omega) hbe2 _ _ _ hP hD hS (lv_sub hl [2, 3, 4, 5, 6, 0] rfl)
            · skip
              have hnb : bsd zq ql < nod N ql := Decidable.byContradiction (fun h => by rw [inN_n hN (by omega) (by omega), if_neg h] at c_12; exact c_12 rfl)
              have hpl := plc_in hN (show ql < lvs N by omega) hnb
              refine lv_iload hx hb dX2_beside_62 (lv_at hl 5 rfl) ?_
              refine lv_iload_n hx hb dX2_beside_64 rfl (lv_at hl 3 rfl) ?_
              refine lv_icmp_ne (tgt := 87) hx hb dX2_beside_65 (by decide) (fun c_13 => ?_) (fun c_13 => ?_)
              · skip
                have hbe2 : besY N D zq zi y (lvs N - (ql + 1)) (ql + 1) (zc + 1) = a_bes N D (nI zq) y (nI zi) := by rw [← hbe, show lvs N - ql = lvs N - (ql + 1) + 1 by omega, besY_s, if_pos hnb, if_neg c_13]
                refine lv_iinc (v := nI (zc + 1)) (lv' := [(4, .int (nI (zc + 1))), (6, .int (nI (bsd zq ql))), (0, .ref (g 0)), (1, .int (nI zq)), (2, .int y), (3, .int (nI zi)), (5, .int (nI ql))]) hx hb dX2_beside_87 hl (k := 5) rfl (nI_1 _) (by decide) rfl (fun ls hl => ?_)
                refine lv_iinc (v := nI (ql + 1)) (lv' := [(5, .int (nI (ql + 1))), (4, .int (nI (zc + 1))), (6, .int (nI (bsd zq ql))), (0, .ref (g 0)), (1, .int (nI zq)), (2, .int y), (3, .int (nI zi))]) hx hb dX2_beside_90 hl (k := 6) rfl (nI_1 _) (by decide) rfl (fun ls hl => ?_)
                refine lv_goto (tgt := 28) hx hb dX2_beside_93 (by decide) ?_
                exact ih_28 (ql + 1) (zc + 1) (by omega) (by omega) (by omega) hbe2 _ _ _ hP hD hS (lv_sub hl [3, 4, 5, 6, 1, 0] rfl)
              · skip
                have hc : D (plc N ql (bsd zq ql) + zi) = a_bes N D (nI zq) y (nI zi) := by rw [← hbe, show lvs N - ql = lvs N - (ql + 1) + 1 by omega, besY_s, if_pos hnb, if_pos c_13]
                refine lv_aload_n hx hb dX2_beside_68 rfl (lv_at hl 1 rfl) ?_
                refine va_get (D := G) (ci := 2) (v := .ref (g 3)) (C := RX2) (T := TX2) (N := 12) hx hb hts hinX2 hown hK hP 0 rfl rfl 2 (by decide) (hts (.fieldLink RX2 38 "SealedPages" "diskBytes" "[I") (by decide +kernel)) (fun _ h => h) rfl dX2_beside_69 ?_
                refine lv_aload_n hx hb dX2_beside_72 rfl (lv_at hl 1 rfl) ?_
                refine va_get (D := G) (ci := 2) (v := .ref (g 1)) (C := RX2) (T := TX2) (N := 12) hx hb hts hinX2 hown hK hP 0 rfl rfl 0 (by decide) (hts (.fieldLink RX2 23 "SealedPages" "layout" "LSealedPages$Layout;") (by decide +kernel)) (fun _ h => h) rfl dX2_beside_73 ?_
                refine lv_iload hx hb dX2_beside_76 (lv_at hl 6 rfl) ?_
                refine lv_iload hx hb dX2_beside_78 (lv_at hl 0 rfl) ?_
                refine x_vi ⟨hx, hb, hml, hown, hts⟩ (c_X1_placeOfNode l G cA tF tC g _ N hN D R F KD KR FL SU WO ln kp rd wr ft ql (bsd zq ql) (by omega)) (cwV 2 hts gX2_beside_X1_placeOfNode rfl rfl rfl (by decide +kernel) ⟨Nat.le_of_ble_eq_true rfl, Nat.le_of_ble_eq_true rfl⟩) hK hP hD hS hT rfl 1 1 rfl rfl rfl hl.1 rfl (Nat.le_of_ble_eq_true rfl) dX2_beside_80 ⟨Nat.le_refl _, Nat.le_refl _⟩ (fun r_15 u H locs hp_14 hP hD hS => ?_)
                have hP : va_P G vwCl (xW g cA N D R F KD KR FL SU WO ln kp rd wr ft) _ := hP
                have hD : va_D _ (xW g cA N D R F KD KR FL SU WO ln kp rd wr ft) := hD
                have hp_14 : r_15 = nI (plc N ql (bsd zq ql)) := hp_14
                subst hp_14
                refine lv_iload_n hx hb dX2_beside_83 rfl (lv_at hl 4 rfl) ?_
                refine lv_iadd hx hb dX2_beside_84 ?_
                refine x_eqi (y := nI ((plc N ql (bsd zq ql)) + zi)) (nI_add (plc N ql (bsd zq ql)) zi) ?_
                refine x_ald (i := (plc N ql (bsd zq ql)) + zi) hx hb hK hP 3 0 rfl rfl (by omega) (by have := siz_le hN; have := nds_le hN; omega) dX2_beside_85 ?_
                exact hret _ () _ _ _ _ dX2_beside_86 hP hD hS hc
      exact loop_28 _ 0 0 (Nat.lt_succ_self _) (by omega) (by omega) (by rw [Nat.sub_zero]; exact besY_a hN hq hi y) _ _ _ hP hD hS (lv_sub hl [2, 3, 4, 5, 1, 0] rfl)
    · skip
      have hc : -1 = a_bes N D x y z := by unfold a_bes; rw [if_neg hxn, if_pos c_6]
      refine lv_iconst (v := (-1)) hx hb dX2_beside_20 (by decide) ?_
      exact hret _ () _ _ _ _ dX2_beside_21 hP hD hS hc

set_option maxHeartbeats 4000000 in
set_option maxRecDepth 100000 in
theorem c_X2_hash (l : Launch) (G : va_G) (cA : ClassId) (tF tC : Nat) (g : Nat → Nat) (sz N : Nat) (hN : 1 ≤ N ∧ N ≤ 64) (D R F KD KR FL SU WO : Nat → Int32) (ln kp rd wr ft : Int32) (x y : Int32) : CI l yX2_hash wsX2_hash 3 80 G cA tF tC g 13 sz (xW g cA N D R F KD KR FL SU WO ln kp rd wr ft) [.ref (g 0), .int x, .int y] (fun (u : (Nat → Int32) × (Nat → Int32) × Int32) => xW g cA N D R F KD KR FL u.1 u.2.1 u.2.2 kp rd wr ft) (fun r _ => r = a_hsh F x y) := by
  refine x_entryI (cc := cX2_hash) (maxL := 3) (by decide) rfl (fun _ => rfl) (Nat.le_of_ble_eq_true rfl) ?_
  intro p e s m args below meth c Q hx hb hml hown hts hK hP hD hS hT hret ls hl
  have hown : s.vm.findClass RX2 = some m.cls := hown
  have hl : lv_has ls 3 [(0, .ref (g 0)), (1, .int x), (2, .int y)] := hl
  have hinX2 : ∀ w ∈ wsX20, w ∈ wsX2_hash := by decide +kernel
  have hz := siz_le hN
  have hse := siz_eq N
  have hnd := nds_le hN
  have hlv := lvs_in hN
  refine lv_iload_n hx hb dX2_hash_0 rfl (lv_at hl 1 rfl) ?_
  refine lv_if_lt (tgt := 19) hx hb dX2_hash_1 (by decide) (fun c_1 => ?_) (fun c_1 => ?_)
  · skip
    have hc : -1 = a_hsh F x y := by unfold a_hsh; rw [if_pos (inB_f1 c_1)]
    refine lv_iconst (v := (-1)) hx hb dX2_hash_19 (by decide) ?_
    exact hret _ (SU, WO, ln) _ _ _ _ dX2_hash_20 hP hD hS hc
  · skip
    have hx0 := c_1
    refine lv_iload_n hx hb dX2_hash_4 rfl (lv_at hl 1 rfl) ?_
    refine lv_bipush (v := 64) hx hb dX2_hash_5 (by decide) ?_
    refine lv_icmp_gt (tgt := 19) hx hb dX2_hash_7 (by decide) (fun c_2 => ?_) (fun c_2 => ?_)
    · skip
      have hc : -1 = a_hsh F x y := by unfold a_hsh; rw [if_pos (inB_f2 (by decide) (fa_65 c_2))]
      refine lv_iconst (v := (-1)) hx hb dX2_hash_19 (by decide) ?_
      exact hret _ (SU, WO, ln) _ _ _ _ dX2_hash_20 hP hD hS hc
    · skip
      have hxn : ¬ inB x 65 = 0 := by rw [inB_t (by decide) hx0 (fun h => c_2 (fa_66 h))]; decide
      refine lv_iload_n hx hb dX2_hash_10 rfl (lv_at hl 2 rfl) ?_
      refine lv_bipush (v := 32) hx hb dX2_hash_11 (by decide) ?_
      refine x_si ⟨hx, hb, hml, hown, hts⟩ (c_X2_isBelow l G cA tF tC g _ N hN D R F KD KR FL SU WO ln kp rd wr ft y 32 (by omega)) (va_cwS 2 hts gX2_hash_X2_isBelow rfl rfl rfl (by decide +kernel) ⟨Nat.le_of_ble_eq_true rfl, Nat.le_of_ble_eq_true rfl⟩) hK hP hD hS hT rfl rfl hl.1 rfl (Nat.le_of_ble_eq_true rfl) dX2_hash_13 ⟨Nat.le_refl _, Nat.le_refl _⟩ (fun r_4 u H locs hp_3 hP hD hS => ?_)
      have hP : va_P G vwCl (xW g cA N D R F KD KR FL SU WO ln kp rd wr ft) _ := hP
      have hD : va_D _ (xW g cA N D R F KD KR FL SU WO ln kp rd wr ft) := hD
      have hp_3 : r_4 = inB y 32 := hp_3
      subst hp_3
      refine lv_if_ne (tgt := 21) hx hb dX2_hash_16 (by decide) (fun c_5 => ?_) (fun c_5 => ?_)
      · skip
        obtain ⟨zi, hi, rfl⟩ := inB_1 (by omega) c_5
        obtain ⟨zn, hn, rfl⟩ := inB_1 (by omega) hxn
        obtain ⟨zf, ef⟩ : ∃ z, z = pad F zn := ⟨_, rfl⟩
        have hs0 : Str zf (va_cpy hC SU 0 0 8) WO 0 := Str0 (cpy_hC SU)
        have hl : lv_has ls 3 [(0, .ref (g 0)), (1, .int (nI zn)), (2, .int (nI zi))] := hl
        refine lv_aload_n hx hb dX2_hash_21 rfl (lv_at hl 0 rfl) ?_
        refine va_get (D := G) (ci := 2) (v := .ref (g 2)) (C := RX2) (T := TX2) (N := 12) hx hb hts hinX2 hown hK hP 0 rfl rfl 1 (by decide) (hts (.fieldLink RX2 30 "SealedPages" "hasher" "LSealedPages$Hasher;") (by decide +kernel)) (fun _ h => h) rfl dX2_hash_22 ?_
        refine x_vv ⟨hx, hb, hml, hown, hts⟩ (c_X0_begin l G cA tF tC g _ N hN D R F KD KR FL SU WO ln kp rd wr ft ) (cwV 0 hts gX2_hash_X0_begin rfl rfl rfl (by decide +kernel) ⟨Nat.le_of_ble_eq_true rfl, Nat.le_of_ble_eq_true rfl⟩) hK hP hD hS hT rfl 2 0 rfl rfl rfl hl.1 rfl (Nat.le_of_ble_eq_true rfl) dX2_hash_25 ⟨Nat.le_refl _, Nat.le_refl _⟩ (fun u H locs hp_6 hP hD hS => ?_)
        have hP : va_P G vwCl (xW g cA N D R F KD KR FL (va_cpy hC SU 0 0 8) WO (nI 0) kp rd wr ft) _ := hP
        have hD : va_D _ (xW g cA N D R F KD KR FL (va_cpy hC SU 0 0 8) WO (nI 0) kp rd wr ft) := hD
        refine lv_aload_n hx hb dX2_hash_28 rfl (lv_at hl 0 rfl) ?_
        refine va_get (D := G) (ci := 2) (v := .ref (g 2)) (C := RX2) (T := TX2) (N := 12) hx hb hts hinX2 hown hK hP 0 rfl rfl 1 (by decide) (hts (.fieldLink RX2 30 "SealedPages" "hasher" "LSealedPages$Hasher;") (by decide +kernel)) (fun _ h => h) rfl dX2_hash_29 ?_
        refine lv_aload_n hx hb dX2_hash_32 rfl (lv_at hl 0 rfl) ?_
        refine va_get (D := G) (ci := 2) (v := .ref (g 5)) (C := RX2) (T := TX2) (N := 12) hx hb hts hinX2 hown hK hP 0 rfl rfl 4 (by decide) (hts (.fieldLink RX2 45 "SealedPages" "draftBytes" "[I") (by decide +kernel)) (fun _ h => h) rfl dX2_hash_33 ?_
        refine lv_iconst (v := 0) hx hb dX2_hash_36 (by decide) ?_
        refine lv_iload_n hx hb dX2_hash_37 rfl (lv_at hl 1 rfl) ?_
        refine x_vv ⟨hx, hb, hml, hown, hts⟩ (c_X0_addRow_F l G cA tF tC g _ N hN D R F KD KR FL (va_cpy hC SU 0 0 8) WO kp rd wr ft 0 zf 0 zn hs0 (by omega) (fun q hq => by rw [ef, Nat.zero_add, pad_in _ hq]) (by omega)) (cwV 3 hts gX2_hash_X0_addRow rfl rfl rfl (by decide +kernel) ⟨Nat.le_of_ble_eq_true rfl, Nat.le_of_ble_eq_true rfl⟩) hK hP hD hS hT rfl 2 0 rfl rfl rfl hl.1 rfl (Nat.le_of_ble_eq_true rfl) dX2_hash_38 ⟨Nat.le_refl _, Nat.le_refl _⟩ (fun u H locs hs1 hP hD hS => ?_)
        obtain ⟨SU1, WO1⟩ := u
        have hP : va_P G vwCl (xW g cA N D R F KD KR FL SU1 WO1 (nI (0 + zn)) kp rd wr ft) _ := hP
        have hD : va_D _ (xW g cA N D R F KD KR FL SU1 WO1 (nI (0 + zn)) kp rd wr ft) := hD
        rw [Nat.zero_add] at hs1 hP hD
        refine lv_aload_n hx hb dX2_hash_41 rfl (lv_at hl 0 rfl) ?_
        refine va_get (D := G) (ci := 2) (v := .ref (g 2)) (C := RX2) (T := TX2) (N := 12) hx hb hts hinX2 hown hK hP 0 rfl rfl 1 (by decide) (hts (.fieldLink RX2 30 "SealedPages" "hasher" "LSealedPages$Hasher;") (by decide +kernel)) (fun _ h => h) rfl dX2_hash_42 ?_
        refine x_vv ⟨hx, hb, hml, hown, hts⟩ (c_X0_finish l G cA tF tC g _ N hN D R F KD KR FL SU1 WO1 kp rd wr ft zn F (by rw [← ef]; exact hs1) (by omega)) (cwV 0 hts gX2_hash_X0_finish rfl rfl rfl (by decide +kernel) ⟨Nat.le_of_ble_eq_true rfl, Nat.le_of_ble_eq_true rfl⟩) hK hP hD hS hT rfl 2 0 rfl rfl rfl hl.1 rfl (Nat.le_of_ble_eq_true rfl) dX2_hash_45 ⟨Nat.le_refl _, Nat.le_refl _⟩ (fun u H locs hs2 hP hD hS => ?_)
        obtain ⟨SU2, WO2⟩ := u
        have hP : va_P G vwCl (xW g cA N D R F KD KR FL SU2 WO2 (nI (64 * nbk zn)) kp rd wr ft) _ := hP
        have hD : va_D _ (xW g cA N D R F KD KR FL SU2 WO2 (nI (64 * nbk zn)) kp rd wr ft) := hD
        refine lv_aload_n hx hb dX2_hash_48 rfl (lv_at hl 0 rfl) ?_
        refine va_get (D := G) (ci := 2) (v := .ref (g 2)) (C := RX2) (T := TX2) (N := 12) hx hb hts hinX2 hown hK hP 0 rfl rfl 1 (by decide) (hts (.fieldLink RX2 30 "SealedPages" "hasher" "LSealedPages$Hasher;") (by decide +kernel)) (fun _ h => h) rfl dX2_hash_49 ?_
        refine lv_iload_n hx hb dX2_hash_52 rfl (lv_at hl 2 rfl) ?_
        refine x_vi ⟨hx, hb, hml, hown, hts⟩ (c_X0_resultByte l G cA tF tC g _ N hN D R F KD KR FL SU2 WO2 (nI (64 * nbk zn)) kp rd wr ft zi hi) (cwV 1 hts gX2_hash_X0_resultByte rfl rfl rfl (by decide +kernel) ⟨Nat.le_of_ble_eq_true rfl, Nat.le_of_ble_eq_true rfl⟩) hK hP hD hS hT rfl 2 0 rfl rfl rfl hl.1 rfl (Nat.le_of_ble_eq_true rfl) dX2_hash_53 ⟨Nat.le_refl _, Nat.le_refl _⟩ (fun r_11 u H locs hp_10 hP hD hS => ?_)
        have hP : va_P G vwCl (xW g cA N D R F KD KR FL SU2 WO2 (nI (64 * nbk zn)) kp rd wr ft) _ := hP
        have hD : va_D _ (xW g cA N D R F KD KR FL SU2 WO2 (nI (64 * nbk zn)) kp rd wr ft) := hD
        have hp_10 : r_11 = hby SU2 zi := hp_10
        subst hp_10
        have hc : hby SU2 zi = a_hsh F (nI zn) (nI zi) := by unfold a_hsh; rw [if_neg (inB_nz hn (by decide)), if_neg (inB_nz hi (by decide)), nI_clamp (by omega), nI_clamp (by omega), hby_ag hs2 zi hi]; rfl
        exact hret _ (SU2, WO2, nI (64 * nbk zn)) _ _ _ _ dX2_hash_56 hP hD hS hc
      · skip
        have hc : -1 = a_hsh F x y := by unfold a_hsh; rw [if_neg hxn, if_pos c_5]
        refine lv_iconst (v := (-1)) hx hb dX2_hash_19 (by decide) ?_
        exact hret _ (SU, WO, ln) _ _ _ _ dX2_hash_20 hP hD hS hc

set_option maxHeartbeats 4000000 in
set_option maxRecDepth 100000 in
theorem c_X2_surveyTree (l : Launch) (G : va_G) (cA : ClassId) (tF tC : Nat) (g : Nat → Nat) (sz N : Nat) (hN : 1 ≤ N ∧ N ≤ 64) (D R F KD KR FL SU WO : Nat → Int32) (ln kp rd wr ft : Int32)  : CV l yX2_surveyTree wsX2_surveyTree 5 125 G cA tF tC g 13 sz (xW g cA N D R F KD KR FL SU WO ln kp rd wr ft) [.ref (g 0)] (fun (u : (Nat → Int32) × (Nat → Int32) × (Nat → Int32) × Int32) => xW g cA N D R F KD KR u.1 u.2.1 u.2.2.1 u.2.2.2 kp rd wr ft) (fun u => ∀ q, q < N → u.1 q = nI (flt N D R q)) := by
  refine x_entryV (cc := cX2_surveyTree) (maxL := 6) (by decide) rfl (fun _ => rfl) (Nat.le_of_ble_eq_true rfl) ?_
  intro p e s m args below meth c Q hx hb hml hown hts hK hP hD hS hT hret ls hl
  have hown : s.vm.findClass RX2 = some m.cls := hown
  have hl : lv_has ls 6 [(0, .ref (g 0))] := hl
  have hinX1 : ∀ w ∈ wsX10, w ∈ wsX2_surveyTree := by decide +kernel
  have hinX2 : ∀ w ∈ wsX20, w ∈ wsX2_surveyTree := by decide +kernel
  have hz := siz_le hN
  have hse := siz_eq N
  have hnd := nds_le hN
  have hlv := lvs_in hN
  refine lv_aload_n hx hb dX2_surveyTree_0 rfl (lv_at hl 0 rfl) ?_
  refine x_vi ⟨hx, hb, hml, hown, hts⟩ (c_X2_faultAboveTree l G cA tF tC g _ N hN D R F KD KR FL SU WO ln kp rd wr ft ) (cwV 0 hts gX2_surveyTree_X2_faultAboveTree rfl rfl rfl (by decide +kernel) ⟨Nat.le_of_ble_eq_true rfl, Nat.le_of_ble_eq_true rfl⟩) hK hP hD hS hT rfl 0 2 rfl rfl rfl hl.1 rfl (Nat.le_of_ble_eq_true rfl) dX2_surveyTree_1 ⟨Nat.le_refl _, Nat.le_refl _⟩ (fun r_1 u H locs hp1 hP hD hS => ?_)
  obtain ⟨SU1, WO1, ln1⟩ := u
  have hP : va_P G vwCl (xW g cA N D R F KD KR FL SU1 WO1 ln1 kp rd wr ft) _ := hP
  have hD : va_D _ (xW g cA N D R F KD KR FL SU1 WO1 ln1 kp rd wr ft) := hD
  have hp1 : r_1 = nI (fltA N D R) := hp1
  subst hp1
  refine lv_istore_n (lv' := [(1, .int (nI (fltA N D R))), (0, .ref (g 0))]) hx hb dX2_surveyTree_4 rfl hl (by decide) rfl (fun ls hl => ?_)
  refine lv_aload_n hx hb dX2_surveyTree_5 rfl (lv_at hl 1 rfl) ?_
  refine va_get (D := G) (ci := 2) (v := .ref (g 1)) (C := RX2) (T := TX2) (N := 12) hx hb hts hinX2 hown hK hP 0 rfl rfl 0 (by decide) (hts (.fieldLink RX2 23 "SealedPages" "layout" "LSealedPages$Layout;") (by decide +kernel)) (fun _ h => h) rfl dX2_surveyTree_6 ?_
  refine va_get (D := G) (ci := 1) (v := .int (nI (lvs N))) (C := RX1) (T := TX1) (N := 6) hx hb hts hinX1 hown hK hP 1 rfl rfl 1 (by decide) (hts (.fieldLink RX2 100 "SealedPages$Layout" "levelCount" "I") (by decide +kernel)) (fun _ h => h) rfl dX2_surveyTree_9 ?_
  refine lv_iconst (v := 1) hx hb dX2_surveyTree_12 (by decide) ?_
  refine lv_isub hx hb dX2_surveyTree_13 ?_
  refine x_eqi (y := nI (lvs N - 1)) (pk_sub (a := lvs N) (b := 1) (by omega)) ?_
  refine lv_istore_n (lv' := [(2, .int (nI (lvs N - 1))), (1, .int (nI (fltA N D R))), (0, .ref (g 0))]) hx hb dX2_surveyTree_14 rfl hl (by decide) rfl (fun ls hl => ?_)
  refine lv_iload_n hx hb dX2_surveyTree_15 rfl (lv_at hl 0 rfl) ?_
  refine lv_istore_n (lv' := [(3, .int (nI (lvs N - 1))), (2, .int (nI (lvs N - 1))), (1, .int (nI (fltA N D R))), (0, .ref (g 0))]) hx hb dX2_surveyTree_16 rfl hl (by decide) rfl (fun ls hl => ?_)
  have hl : lv_has ls 6 [(3, .int (nI (lvs N) - 1)), (2, .int (nI (lvs N - 1))), (1, .int (nI (fltA N D R))), (0, .ref (g 0))] := by rw [show nI (lvs N) - 1 = nI (lvs N - 1) from pk_sub (a := lvs N) (b := 1) (by omega)]; exact hl
  have loop_17 : ∀ (n_17 : Nat) (zl : Nat) (FLz : Nat → Int32) (SUz : Nat → Int32) (WOz : Nat → Int32) (lnz : Int32), zl < n_17 → (zl ≤ lvs N) → (∀ ql, zl ≤ ql → ql < lvs N → ∀ qk, qk < nod N ql → FLz (ahd N ql + qk) = nI (pth N D R (lvs N - 1 - ql) ql qk)) → ∀ (H : Heap) (locs : List Loc) (ls : Array Slot), va_P G vwCl (xW g cA N D R F KD KR FLz SUz WOz lnz kp rd wr ft) H → va_D (wA g 13 s.heap.size) (xW g cA N D R F KD KR FLz SUz WOz lnz kp rd wr ft) → va_S (wA g 13 s.heap.size) s.heap H locs → lv_has ls 6 [(0, .ref (g 0)), (1, .int (nI (fltA N D R))), (2, .int (nI (lvs N - 1))), (3, .int (nI zl - 1))] → W p l e { frames := 5, cells := 0, slots := 0, locals := 125 } s m args below meth c H locs 0 0 Q (F0 m 17 ls []) := by
    intro n_17
    induction n_17 with
    | zero => intro zl FLz SUz WOz lnz hm_17; exact absurd hm_17 (Nat.not_lt_zero _)
    | succ n_17 ih_17 =>
      intro zl FLz SUz WOz lnz hm_17 hzl hFL H locs ls hP hD hS hl
      refine lv_iload_n hx hb dX2_surveyTree_17 rfl (lv_at hl 3 rfl) ?_
      refine lv_if_lt (tgt := 112) hx hb dX2_surveyTree_18 (by decide) (fun c_2 => ?_) (fun c_2 => ?_)
      · skip
        have h0 : zl = 0 := zl_0 (by omega) c_2
        subst h0
        have hl : lv_has ls 6 [(0, .ref (g 0)), (1, .int (nI (fltA N D R))), (2, .int (nI (lvs N - 1))), (3, .int (nI 0 - 1))] := hl
        exact hret (FLz, SUz, WOz, lnz) _ _ _ _ dX2_surveyTree_112 hP hD hS (fun q hq => by have h := hFL 0 (Nat.le_refl _) (by omega) q hq; rw [show lvs N - 1 - 0 = lvs N - 1 by omega, pth_page hN] at h; rw [← h]; show _ = FLz (0 + q); rw [Nat.zero_add])
      · skip
        obtain ⟨zm, rfl⟩ := zl_s c_2
        have hnm := nod_le N hN.1 zm
        have hnn := nod_in hN (show zm < lvs N by omega)
        have hl : lv_has ls 6 [(0, .ref (g 0)), (1, .int (nI (fltA N D R))), (2, .int (nI (lvs N - 1))), (3, .int (nI (zm + 1) - 1))] := hl
        have hl : lv_has ls 6 [(0, .ref (g 0)), (1, .int (nI (fltA N D R))), (2, .int (nI (lvs N - 1))), (3, .int (nI zm))] := by rw [nI_pred] at hl; exact hl
        refine lv_iconst (v := 0) hx hb dX2_surveyTree_21 (by decide) ?_
        refine lv_istore (lv' := [(4, .int 0), (0, .ref (g 0)), (1, .int (nI (fltA N D R))), (2, .int (nI (lvs N - 1))), (3, .int (nI zm))]) hx hb dX2_surveyTree_22 hl (by decide) rfl (fun ls hl => ?_)
        have loop_24 : ∀ (n_24 : Nat) (zk : Nat) (FLy : Nat → Int32) (SUy : Nat → Int32) (WOy : Nat → Int32) (lny : Int32), (nod N zm - zk) < n_24 → (zk ≤ nod N zm) → (∀ ql, (zm + 1) ≤ ql → ql < lvs N → ∀ qk, qk < nod N ql → FLy (ahd N ql + qk) = nI (pth N D R (lvs N - 1 - ql) ql qk)) → (∀ qk, qk < zk → FLy (ahd N zm + qk) = nI (pth N D R (lvs N - 1 - zm) zm qk)) → ∀ (H : Heap) (locs : List Loc) (ls : Array Slot), va_P G vwCl (xW g cA N D R F KD KR FLy SUy WOy lny kp rd wr ft) H → va_D (wA g 13 s.heap.size) (xW g cA N D R F KD KR FLy SUy WOy lny kp rd wr ft) → va_S (wA g 13 s.heap.size) s.heap H locs → lv_has ls 6 [(0, .ref (g 0)), (1, .int (nI (fltA N D R))), (2, .int (nI (lvs N - 1))), (3, .int (nI zm)), (4, .int (nI zk))] → W p l e { frames := 5, cells := 0, slots := 0, locals := 125 } s m args below meth c H locs 0 0 Q (F0 m 24 ls []) := by
          intro n_24
          induction n_24 with
          | zero => intro zk FLy SUy WOy lny hm_24; exact absurd hm_24 (Nat.not_lt_zero _)
          | succ n_24 ih_24 =>
            intro zk FLy SUy WOy lny hm_24 hzk hFy hFk H locs ls hP hD hS hl
            refine lv_iload hx hb dX2_surveyTree_24 (lv_at hl 4 rfl) ?_
            refine lv_aload_n hx hb dX2_surveyTree_26 rfl (lv_at hl 0 rfl) ?_
            refine va_get (D := G) (ci := 2) (v := .ref (g 1)) (C := RX2) (T := TX2) (N := 12) hx hb hts hinX2 hown hK hP 0 rfl rfl 0 (by decide) (hts (.fieldLink RX2 23 "SealedPages" "layout" "LSealedPages$Layout;") (by decide +kernel)) (fun _ h => h) rfl dX2_surveyTree_27 ?_
            refine va_get (D := G) (ci := 1) (v := .ref (g 9)) (C := RX1) (T := TX1) (N := 6) hx hb hts hinX1 hown hK hP 1 rfl rfl 4 (by decide) (hts (.fieldLink RX2 161 "SealedPages$Layout" "widths" "[I") (by decide +kernel)) (fun _ h => h) rfl dX2_surveyTree_30 ?_
            refine lv_iload_n hx hb dX2_surveyTree_33 rfl (lv_at hl 3 rfl) ?_
            refine x_ald (i := zm) hx hb hK hP 9 0 rfl rfl (by omega) (by decide) dX2_surveyTree_34 ?_
            refine x_eqi (y := nI (nod N zm)) (wid_at (by omega)) ?_
            refine lv_icmp_ge (tgt := 106) hx hb dX2_surveyTree_35 (by decide) (fun c_3 => ?_) (fun c_3 => ?_)
            · skip
              have c_3 : (nod N zm) ≤ zk := (nI_leI (a := (nod N zm)) (b := zk) (by omega) (by omega)).mp c_3
              obtain rfl : zk = nod N zm := by omega
              have hl : lv_has ls 6 [(0, .ref (g 0)), (1, .int (nI (fltA N D R))), (2, .int (nI (lvs N - 1))), (3, .int (nI zm)), (4, .int (nI (nod N zm)))] := hl
              refine lv_iinc (v := nI zm - 1) (lv' := [(3, .int (nI zm - 1)), (0, .ref (g 0)), (1, .int (nI (fltA N D R))), (2, .int (nI (lvs N - 1))), (4, .int (nI (nod N zm)))]) hx hb dX2_surveyTree_106 hl (k := 3) rfl (dec_1 _) (by decide) rfl (fun ls hl => ?_)
              refine lv_goto (tgt := 17) hx hb dX2_surveyTree_109 (by decide) ?_
              exact ih_17 zm FLy SUy WOy lny (by omega) (by omega) (fun ql h1 h2 qk h3 => (Nat.eq_or_lt_of_le h1).elim (fun h => by subst h; exact hFk qk h3) (fun h => hFy ql h h2 qk h3)) _ _ _ hP hD hS (lv_sub hl [1, 2, 3, 0] rfl)
            · skip
              have c_3 : ¬ (nod N zm) ≤ zk := fun z => c_3 ((nI_leI (a := (nod N zm)) (b := zk) (by omega) (by omega)).mpr z)
              refine lv_iload_n hx hb dX2_surveyTree_38 rfl (lv_at hl 3 rfl) ?_
              refine lv_iload_n hx hb dX2_surveyTree_39 rfl (lv_at hl 2 rfl) ?_
              refine lv_icmp_ne (tgt := 47) hx hb dX2_surveyTree_40 (by decide) (fun c_4 => ?_) (fun c_4 => ?_)
              · skip
                have c_4 : ¬ zm = (lvs N - 1) := fun z => c_4 ((nI_eq (a := zm) (b := (lvs N - 1)) (by omega) (by omega)).mpr z)
                have hpt : pth N D R (lvs N - 1 - zm) zm zk = if pth N D R (lvs N - 1 - (zm + 1)) (zm + 1) (zk / 2) = 0 then nf N D zm zk else pth N D R (lvs N - 1 - (zm + 1)) (zm + 1) (zk / 2) := by rw [show lvs N - 1 - zm = lvs N - 1 - (zm + 1) + 1 by omega]; rfl
                have hk2 : zk / 2 < nod N (zm + 1) := by rw [nod_s]; omega
                have hab := pth_le (N := N) (D := D) (R := R) (lvs N - 1 - (zm + 1)) (zm + 1) (zk / 2)
                have hnn2 := nod_in hN (show zm + 1 < lvs N by omega)
                refine lv_aload_n hx hb dX2_surveyTree_47 rfl (lv_at hl 0 rfl) ?_
                refine va_get (D := G) (ci := 2) (v := .ref (g 8)) (C := RX2) (T := TX2) (N := 12) hx hb hts hinX2 hown hK hP 0 rfl rfl 7 (by decide) (hts (.fieldLink RX2 57 "SealedPages" "faultsDownTo" "[I") (by decide +kernel)) (fun _ h => h) rfl dX2_surveyTree_48 ?_
                refine lv_aload_n hx hb dX2_surveyTree_51 rfl (lv_at hl 0 rfl) ?_
                refine va_get (D := G) (ci := 2) (v := .ref (g 1)) (C := RX2) (T := TX2) (N := 12) hx hb hts hinX2 hown hK hP 0 rfl rfl 0 (by decide) (hts (.fieldLink RX2 23 "SealedPages" "layout" "LSealedPages$Layout;") (by decide +kernel)) (fun _ h => h) rfl dX2_surveyTree_52 ?_
                refine lv_iload_n hx hb dX2_surveyTree_55 rfl (lv_at hl 3 rfl) ?_
                refine lv_iconst (v := 1) hx hb dX2_surveyTree_56 (by decide) ?_
                refine lv_iadd hx hb dX2_surveyTree_57 ?_
                refine x_eqi (y := nI (zm + 1)) (nI_add zm 1) ?_
                refine lv_iload hx hb dX2_surveyTree_58 (lv_at hl 4 rfl) ?_
                refine lv_iconst (v := 2) hx hb dX2_surveyTree_60 (by decide) ?_
                refine lv_idiv hx hb dX2_surveyTree_61 (by decide) ?_
                refine x_eqi (y := nI (zk / 2)) (pk_div (a := zk) (d := 2) (by omega) (by omega) (by omega)) ?_
                refine x_vi ⟨hx, hb, hml, hown, hts⟩ (c_X1_numberOfNode l G cA tF tC g _ N hN D R F KD KR FLy SUy WOy lny kp rd wr ft (zm + 1) (zk / 2) (by omega)) (cwV 2 hts gX2_surveyTree_X1_numberOfNode rfl rfl rfl (by decide +kernel) ⟨Nat.le_of_ble_eq_true rfl, Nat.le_of_ble_eq_true rfl⟩) hK hP hD hS hT rfl 1 1 rfl rfl rfl hl.1 rfl (Nat.le_of_ble_eq_true rfl) dX2_surveyTree_62 ⟨Nat.le_refl _, Nat.le_refl _⟩ (fun r_6 u H locs hp_5 hP hD hS => ?_)
                have hP : va_P G vwCl (xW g cA N D R F KD KR FLy SUy WOy lny kp rd wr ft) _ := hP
                have hD : va_D _ (xW g cA N D R F KD KR FLy SUy WOy lny kp rd wr ft) := hD
                have hp_5 : r_6 = nI (ahd N (zm + 1) + zk / 2) := hp_5
                subst hp_5
                refine x_ald (i := ahd N (zm + 1) + zk / 2) hx hb hK hP 8 0 rfl rfl (by omega) (by have := siz_le hN; have := nds_le hN; omega) dX2_surveyTree_65 ?_
                refine x_eqi (y := nI (pth N D R (lvs N - 1 - (zm + 1)) (zm + 1) (zk / 2))) (hFy (zm + 1) (Nat.le_refl _) (by omega) (zk / 2) hk2) ?_
                refine lv_istore (lv' := [(5, .int (nI (pth N D R (lvs N - 1 - (zm + 1)) (zm + 1) (zk / 2)))), (0, .ref (g 0)), (1, .int (nI (fltA N D R))), (2, .int (nI (lvs N - 1))), (3, .int (nI zm)), (4, .int (nI zk))]) hx hb dX2_surveyTree_66 hl (by decide) rfl (fun ls hl => ?_)
                refine lv_aload_n hx hb dX2_surveyTree_68 rfl (lv_at hl 1 rfl) ?_
                refine va_get (D := G) (ci := 2) (v := .ref (g 8)) (C := RX2) (T := TX2) (N := 12) hx hb hts hinX2 hown hK hP 0 rfl rfl 7 (by decide) (hts (.fieldLink RX2 57 "SealedPages" "faultsDownTo" "[I") (by decide +kernel)) (fun _ h => h) rfl dX2_surveyTree_69 ?_
                refine lv_aload_n hx hb dX2_surveyTree_72 rfl (lv_at hl 1 rfl) ?_
                refine va_get (D := G) (ci := 2) (v := .ref (g 1)) (C := RX2) (T := TX2) (N := 12) hx hb hts hinX2 hown hK hP 0 rfl rfl 0 (by decide) (hts (.fieldLink RX2 23 "SealedPages" "layout" "LSealedPages$Layout;") (by decide +kernel)) (fun _ h => h) rfl dX2_surveyTree_73 ?_
                refine lv_iload_n hx hb dX2_surveyTree_76 rfl (lv_at hl 4 rfl) ?_
                refine lv_iload hx hb dX2_surveyTree_77 (lv_at hl 5 rfl) ?_
                refine x_vi ⟨hx, hb, hml, hown, hts⟩ (c_X1_numberOfNode l G cA tF tC g _ N hN D R F KD KR FLy SUy WOy lny kp rd wr ft zm zk (by omega)) (cwV 2 hts gX2_surveyTree_X1_numberOfNode rfl rfl rfl (by decide +kernel) ⟨Nat.le_of_ble_eq_true rfl, Nat.le_of_ble_eq_true rfl⟩) hK hP hD hS hT rfl 1 1 rfl rfl rfl hl.1 rfl (Nat.le_of_ble_eq_true rfl) dX2_surveyTree_79 ⟨Nat.le_refl _, Nat.le_refl _⟩ (fun r_8 u H locs hp_7 hP hD hS => ?_)
                have hP : va_P G vwCl (xW g cA N D R F KD KR FLy SUy WOy lny kp rd wr ft) _ := hP
                have hD : va_D _ (xW g cA N D R F KD KR FLy SUy WOy lny kp rd wr ft) := hD
                have hp_7 : r_8 = nI (ahd N zm + zk) := hp_7
                subst hp_7
                refine lv_iload hx hb dX2_surveyTree_82 (lv_at hl 0 rfl) ?_
                refine lv_if_eq (tgt := 92) hx hb dX2_surveyTree_84 (by decide) (fun c_9 => ?_) (fun c_9 => ?_)
                · skip
                  have c_9 : (pth N D R (lvs N - 1 - (zm + 1)) (zm + 1) (zk / 2)) = 0 := (nI_eq (a := (pth N D R (lvs N - 1 - (zm + 1)) (zm + 1) (zk / 2))) (b := 0) (by omega) (by omega)).mp c_9
                  have hab0 := c_9
                  refine lv_aload_n hx hb dX2_surveyTree_92 rfl (lv_at hl 1 rfl) ?_
                  refine lv_iload_n hx hb dX2_surveyTree_93 rfl (lv_at hl 4 rfl) ?_
                  refine lv_iload hx hb dX2_surveyTree_94 (lv_at hl 5 rfl) ?_
                  refine x_vi ⟨hx, hb, hml, hown, hts⟩ (c_X2_faultOfNode l G cA tF tC g _ N hN D R F KD KR FLy SUy WOy lny kp rd wr ft zm zk (by omega) (by omega)) (cwV 2 hts gX2_surveyTree_X2_faultOfNode rfl rfl rfl (by decide +kernel) ⟨Nat.le_of_ble_eq_true rfl, Nat.le_of_ble_eq_true rfl⟩) hK hP hD hS hT rfl 0 2 rfl rfl rfl hl.1 rfl (Nat.le_of_ble_eq_true rfl) dX2_surveyTree_96 ⟨Nat.le_refl _, Nat.le_refl _⟩ (fun r_10 u H locs hp2 hP hD hS => ?_)
                  obtain ⟨SU2, WO2, ln2⟩ := u
                  have hP : va_P G vwCl (xW g cA N D R F KD KR FLy SU2 WO2 ln2 kp rd wr ft) _ := hP
                  have hD : va_D _ (xW g cA N D R F KD KR FLy SU2 WO2 ln2 kp rd wr ft) := hD
                  have hp2 : r_10 = nI (nf N D zm zk) := hp2
                  subst hp2
                  refine x_ast (i := ahd N zm + zk) hx hb hK hP hD hS 8 0 rfl rfl (by omega) (by have := siz_le hN; have := nds_le hN; omega) dX2_surveyTree_99 (fun H locs hP hD hS => ?_)
                  have hP : va_P G vwCl (xW g cA N D R F KD KR (upd FLy (ahd N zm + zk) (nI (nf N D zm zk))) SU2 WO2 ln2 kp rd wr ft) _ := hP
                  have hD : va_D _ (xW g cA N D R F KD KR (upd FLy (ahd N zm + zk) (nI (nf N D zm zk))) SU2 WO2 ln2 kp rd wr ft) := hD
                  refine lv_iinc (v := nI (zk + 1)) (lv' := [(4, .int (nI (zk + 1))), (5, .int (nI (pth N D R (lvs N - 1 - (zm + 1)) (zm + 1) (zk / 2)))), (0, .ref (g 0)), (1, .int (nI (fltA N D R))), (2, .int (nI (lvs N - 1))), (3, .int (nI zm))]) hx hb dX2_surveyTree_100 hl (k := 5) rfl (nI_1 _) (by decide) rfl (fun ls hl => ?_)
                  refine lv_goto (tgt := 24) hx hb dX2_surveyTree_103 (by decide) ?_
                  exact ih_24 (zk + 1) (upd FLy (ahd N zm + zk) (nI (nf N D zm zk))) SU2 WO2 ln2 (by omega) (by omega) (fun ql h1 h2 qk h3 => by rw [pk_un (by have := ahd_mono N (show zm + 1 ≤ ql by omega); rw [ahd_s] at this; omega)]; exact hFy ql h1 h2 qk h3) (fun qk h => (Nat.lt_succ_iff_lt_or_eq.mp h).elim (fun h => by rw [pk_un (by omega)]; exact hFk qk h) (fun h => by subst h; rw [pk_us, hpt]; first | rw [if_pos hab0] | rw [if_neg hab0])) _ _ _ hP hD hS (lv_sub hl [2, 3, 4, 5, 0] rfl)
                · skip
                  have c_9 : ¬ (pth N D R (lvs N - 1 - (zm + 1)) (zm + 1) (zk / 2)) = 0 := fun z => c_9 ((nI_eq (a := (pth N D R (lvs N - 1 - (zm + 1)) (zm + 1) (zk / 2))) (b := 0) (by omega) (by omega)).mpr z)
                  have hab0 := c_9
                  refine lv_iload hx hb dX2_surveyTree_87 (lv_at hl 0 rfl) ?_
                  refine lv_goto (tgt := 99) hx hb dX2_surveyTree_89 (by decide) ?_
                  refine x_ast (i := ahd N zm + zk) hx hb hK hP hD hS 8 0 rfl rfl (by omega) (by have := siz_le hN; have := nds_le hN; omega) dX2_surveyTree_99 (fun H locs hP hD hS => ?_)
                  have hP : va_P G vwCl (xW g cA N D R F KD KR (upd FLy (ahd N zm + zk) (nI (pth N D R (lvs N - 1 - (zm + 1)) (zm + 1) (zk / 2)))) SUy WOy lny kp rd wr ft) _ := hP
                  have hD : va_D _ (xW g cA N D R F KD KR (upd FLy (ahd N zm + zk) (nI (pth N D R (lvs N - 1 - (zm + 1)) (zm + 1) (zk / 2)))) SUy WOy lny kp rd wr ft) := hD
                  refine lv_iinc (v := nI (zk + 1)) (lv' := [(4, .int (nI (zk + 1))), (5, .int (nI (pth N D R (lvs N - 1 - (zm + 1)) (zm + 1) (zk / 2)))), (0, .ref (g 0)), (1, .int (nI (fltA N D R))), (2, .int (nI (lvs N - 1))), (3, .int (nI zm))]) hx hb dX2_surveyTree_100 hl (k := 5) rfl (nI_1 _) (by decide) rfl (fun ls hl => ?_)
                  refine lv_goto (tgt := 24) hx hb dX2_surveyTree_103 (by decide) ?_
                  exact ih_24 (zk + 1) (upd FLy (ahd N zm + zk) (nI (pth N D R (lvs N - 1 - (zm + 1)) (zm + 1) (zk / 2)))) SUy WOy lny (by omega) (by omega) (fun ql h1 h2 qk h3 => by rw [pk_un (by have := ahd_mono N (show zm + 1 ≤ ql by omega); rw [ahd_s] at this; omega)]; exact hFy ql h1 h2 qk h3) (fun qk h => (Nat.lt_succ_iff_lt_or_eq.mp h).elim (fun h => by rw [pk_un (by omega)]; exact hFk qk h) (fun h => by subst h; rw [pk_us, hpt]; first | rw [if_pos hab0] | rw [if_neg hab0])) _ _ _ hP hD hS (lv_sub hl [2, 3, 4, 5, 0] rfl)
              · skip
                have c_4 : zm = (lvs N - 1) := (nI_eq (a := zm) (b := (lvs N - 1)) (by omega) (by omega)).mp c_4
                have hpt : pth N D R (lvs N - 1 - zm) zm zk = if fltA N D R = 0 then nf N D zm zk else fltA N D R := by rw [show lvs N - 1 - zm = 0 by omega]; rfl
                have hab := fltA_le N D R
                refine lv_iload_n hx hb dX2_surveyTree_43 rfl (lv_at hl 1 rfl) ?_
                refine lv_goto (tgt := 66) hx hb dX2_surveyTree_44 (by decide) ?_
                refine lv_istore (lv' := [(5, .int (nI (fltA N D R))), (0, .ref (g 0)), (1, .int (nI (fltA N D R))), (2, .int (nI (lvs N - 1))), (3, .int (nI zm)), (4, .int (nI zk))]) hx hb dX2_surveyTree_66 hl (by decide) rfl (fun ls hl => ?_)
                refine lv_aload_n hx hb dX2_surveyTree_68 rfl (lv_at hl 1 rfl) ?_
                refine va_get (D := G) (ci := 2) (v := .ref (g 8)) (C := RX2) (T := TX2) (N := 12) hx hb hts hinX2 hown hK hP 0 rfl rfl 7 (by decide) (hts (.fieldLink RX2 57 "SealedPages" "faultsDownTo" "[I") (by decide +kernel)) (fun _ h => h) rfl dX2_surveyTree_69 ?_
                refine lv_aload_n hx hb dX2_surveyTree_72 rfl (lv_at hl 1 rfl) ?_
                refine va_get (D := G) (ci := 2) (v := .ref (g 1)) (C := RX2) (T := TX2) (N := 12) hx hb hts hinX2 hown hK hP 0 rfl rfl 0 (by decide) (hts (.fieldLink RX2 23 "SealedPages" "layout" "LSealedPages$Layout;") (by decide +kernel)) (fun _ h => h) rfl dX2_surveyTree_73 ?_
                refine lv_iload_n hx hb dX2_surveyTree_76 rfl (lv_at hl 4 rfl) ?_
                refine lv_iload hx hb dX2_surveyTree_77 (lv_at hl 5 rfl) ?_
                refine x_vi ⟨hx, hb, hml, hown, hts⟩ (c_X1_numberOfNode l G cA tF tC g _ N hN D R F KD KR FLy SUy WOy lny kp rd wr ft zm zk (by omega)) (cwV 2 hts gX2_surveyTree_X1_numberOfNode rfl rfl rfl (by decide +kernel) ⟨Nat.le_of_ble_eq_true rfl, Nat.le_of_ble_eq_true rfl⟩) hK hP hD hS hT rfl 1 1 rfl rfl rfl hl.1 rfl (Nat.le_of_ble_eq_true rfl) dX2_surveyTree_79 ⟨Nat.le_refl _, Nat.le_refl _⟩ (fun r_12 u H locs hp_11 hP hD hS => ?_)
                have hP : va_P G vwCl (xW g cA N D R F KD KR FLy SUy WOy lny kp rd wr ft) _ := hP
                have hD : va_D _ (xW g cA N D R F KD KR FLy SUy WOy lny kp rd wr ft) := hD
                have hp_11 : r_12 = nI (ahd N zm + zk) := hp_11
                subst hp_11
                refine lv_iload hx hb dX2_surveyTree_82 (lv_at hl 0 rfl) ?_
                refine lv_if_eq (tgt := 92) hx hb dX2_surveyTree_84 (by decide) (fun c_13 => ?_) (fun c_13 => ?_)
                · skip
                  have c_13 : (fltA N D R) = 0 := (nI_eq (a := (fltA N D R)) (b := 0) (by omega) (by omega)).mp c_13
                  have hab0 := c_13
                  refine lv_aload_n hx hb dX2_surveyTree_92 rfl (lv_at hl 1 rfl) ?_
                  refine lv_iload_n hx hb dX2_surveyTree_93 rfl (lv_at hl 4 rfl) ?_
                  refine lv_iload hx hb dX2_surveyTree_94 (lv_at hl 5 rfl) ?_
                  refine x_vi ⟨hx, hb, hml, hown, hts⟩ (c_X2_faultOfNode l G cA tF tC g _ N hN D R F KD KR FLy SUy WOy lny kp rd wr ft zm zk (by omega) (by omega)) (cwV 2 hts gX2_surveyTree_X2_faultOfNode rfl rfl rfl (by decide +kernel) ⟨Nat.le_of_ble_eq_true rfl, Nat.le_of_ble_eq_true rfl⟩) hK hP hD hS hT rfl 0 2 rfl rfl rfl hl.1 rfl (Nat.le_of_ble_eq_true rfl) dX2_surveyTree_96 ⟨Nat.le_refl _, Nat.le_refl _⟩ (fun r_14 u H locs hp2 hP hD hS => ?_)
                  obtain ⟨SU2, WO2, ln2⟩ := u
                  have hP : va_P G vwCl (xW g cA N D R F KD KR FLy SU2 WO2 ln2 kp rd wr ft) _ := hP
                  have hD : va_D _ (xW g cA N D R F KD KR FLy SU2 WO2 ln2 kp rd wr ft) := hD
                  have hp2 : r_14 = nI (nf N D zm zk) := hp2
                  subst hp2
                  refine x_ast (i := ahd N zm + zk) hx hb hK hP hD hS 8 0 rfl rfl (by omega) (by have := siz_le hN; have := nds_le hN; omega) dX2_surveyTree_99 (fun H locs hP hD hS => ?_)
                  have hP : va_P G vwCl (xW g cA N D R F KD KR (upd FLy (ahd N zm + zk) (nI (nf N D zm zk))) SU2 WO2 ln2 kp rd wr ft) _ := hP
                  have hD : va_D _ (xW g cA N D R F KD KR (upd FLy (ahd N zm + zk) (nI (nf N D zm zk))) SU2 WO2 ln2 kp rd wr ft) := hD
                  refine lv_iinc (v := nI (zk + 1)) (lv' := [(4, .int (nI (zk + 1))), (5, .int (nI (fltA N D R))), (0, .ref (g 0)), (1, .int (nI (fltA N D R))), (2, .int (nI (lvs N - 1))), (3, .int (nI zm))]) hx hb dX2_surveyTree_100 hl (k := 5) rfl (nI_1 _) (by decide) rfl (fun ls hl => ?_)
                  refine lv_goto (tgt := 24) hx hb dX2_surveyTree_103 (by decide) ?_
                  exact ih_24 (zk + 1) (upd FLy (ahd N zm + zk) (nI (nf N D zm zk))) SU2 WO2 ln2 (by omega) (by omega) (fun ql h1 h2 qk h3 => by rw [pk_un (by have := ahd_mono N (show zm + 1 ≤ ql by omega); rw [ahd_s] at this; omega)]; exact hFy ql h1 h2 qk h3) (fun qk h => (Nat.lt_succ_iff_lt_or_eq.mp h).elim (fun h => by rw [pk_un (by omega)]; exact hFk qk h) (fun h => by subst h; rw [pk_us, hpt]; first | rw [if_pos hab0] | rw [if_neg hab0])) _ _ _ hP hD hS (lv_sub hl [2, 3, 4, 5, 0] rfl)
                · skip
                  have c_13 : ¬ (fltA N D R) = 0 := fun z => c_13 ((nI_eq (a := (fltA N D R)) (b := 0) (by omega) (by omega)).mpr z)
                  have hab0 := c_13
                  refine lv_iload hx hb dX2_surveyTree_87 (lv_at hl 0 rfl) ?_
                  refine lv_goto (tgt := 99) hx hb dX2_surveyTree_89 (by decide) ?_
                  refine x_ast (i := ahd N zm + zk) hx hb hK hP hD hS 8 0 rfl rfl (by omega) (by have := siz_le hN; have := nds_le hN; omega) dX2_surveyTree_99 (fun H locs hP hD hS => ?_)
                  have hP : va_P G vwCl (xW g cA N D R F KD KR (upd FLy (ahd N zm + zk) (nI (fltA N D R))) SUy WOy lny kp rd wr ft) _ := hP
                  have hD : va_D _ (xW g cA N D R F KD KR (upd FLy (ahd N zm + zk) (nI (fltA N D R))) SUy WOy lny kp rd wr ft) := hD
                  refine lv_iinc (v := nI (zk + 1)) (lv' := [(4, .int (nI (zk + 1))), (5, .int (nI (fltA N D R))), (0, .ref (g 0)), (1, .int (nI (fltA N D R))), (2, .int (nI (lvs N - 1))), (3, .int (nI zm))]) hx hb dX2_surveyTree_100 hl (k := 5) rfl (nI_1 _) (by decide) rfl (fun ls hl => ?_)
                  refine lv_goto (tgt := 24) hx hb dX2_surveyTree_103 (by decide) ?_
                  exact ih_24 (zk + 1) (upd FLy (ahd N zm + zk) (nI (fltA N D R))) SUy WOy lny (by omega) (by omega) (fun ql h1 h2 qk h3 => by rw [pk_un (by have := ahd_mono N (show zm + 1 ≤ ql by omega); rw [ahd_s] at this; omega)]; exact hFy ql h1 h2 qk h3) (fun qk h => (Nat.lt_succ_iff_lt_or_eq.mp h).elim (fun h => by rw [pk_un (by omega)]; exact hFk qk h) (fun h => by subst h; rw [pk_us, hpt]; first | rw [if_pos hab0] | rw [if_neg hab0])) _ _ _ hP hD hS (lv_sub hl [2, 3, 4, 5, 0] rfl)
        exact loop_24 _ 0 FLz SUz WOz lnz (Nat.lt_succ_self _) (by omega) hFL (fun qk h => absurd h (by omega)) _ _ _ hP hD hS (lv_sub hl [1, 2, 3, 4, 0] rfl)
  exact loop_17 _ (lvs N) FL SU1 WO1 ln1 (Nat.lt_succ_self _) (by omega) (fun ql h1 h2 => absurd h2 (by omega)) _ _ _ hP hD hS (lv_sub hl [3, 2, 1, 0] rfl)

set_option maxHeartbeats 4000000 in
set_option maxRecDepth 100000 in
theorem c_X2_held (l : Launch) (G : va_G) (cA : ClassId) (tF tC : Nat) (g : Nat → Nat) (sz N : Nat) (hN : 1 ≤ N ∧ N ≤ 64) (D R F KD KR FL SU WO : Nat → Int32) (ln kp rd wr ft : Int32)  : CI l yX2_held wsX2_held 6 150 G cA tF tC g 13 sz (xW g cA N D R F KD KR FL SU WO ln kp rd wr ft) [.ref (g 0)] (fun (u : (Nat → Int32) × (Nat → Int32) × (Nat → Int32) × Int32) => xW g cA N D R F KD KR u.1 u.2.1 u.2.2.1 u.2.2.2 kp rd wr ft) (fun r _ => r = nI (heldN N D R N)) := by
  refine x_entryI (cc := cX2_held) (maxL := 3) (by decide) rfl (fun _ => rfl) (Nat.le_of_ble_eq_true rfl) ?_
  intro p e s m args below meth c Q hx hb hml hown hts hK hP hD hS hT hret ls hl
  have hown : s.vm.findClass RX2 = some m.cls := hown
  have hl : lv_has ls 3 [(0, .ref (g 0))] := hl
  have hinX1 : ∀ w ∈ wsX10, w ∈ wsX2_held := by decide +kernel
  have hinX2 : ∀ w ∈ wsX20, w ∈ wsX2_held := by decide +kernel
  have hz := siz_le hN
  have hse := siz_eq N
  have hnd := nds_le hN
  have hlv := lvs_in hN
  refine lv_aload_n hx hb dX2_held_0 rfl (lv_at hl 0 rfl) ?_
  refine x_vv ⟨hx, hb, hml, hown, hts⟩ (c_X2_surveyTree l G cA tF tC g _ N hN D R F KD KR FL SU WO ln kp rd wr ft ) (cwV 0 hts gX2_held_X2_surveyTree rfl rfl rfl (by decide +kernel) ⟨Nat.le_of_ble_eq_true rfl, Nat.le_of_ble_eq_true rfl⟩) hK hP hD hS hT rfl 0 2 rfl rfl rfl hl.1 rfl (Nat.le_of_ble_eq_true rfl) dX2_held_1 ⟨Nat.le_refl _, Nat.le_refl _⟩ (fun u H locs hsv hP hD hS => ?_)
  obtain ⟨FL1, SU1, WO1, ln1⟩ := u
  have hP : va_P G vwCl (xW g cA N D R F KD KR FL1 SU1 WO1 ln1 kp rd wr ft) _ := hP
  have hD : va_D _ (xW g cA N D R F KD KR FL1 SU1 WO1 ln1 kp rd wr ft) := hD
  refine lv_iconst (v := 0) hx hb dX2_held_4 (by decide) ?_
  refine lv_istore_n (lv' := [(1, .int 0), (0, .ref (g 0))]) hx hb dX2_held_5 rfl hl (by decide) rfl (fun ls hl => ?_)
  refine lv_iconst (v := 0) hx hb dX2_held_6 (by decide) ?_
  refine lv_istore_n (lv' := [(2, .int 0), (1, .int 0), (0, .ref (g 0))]) hx hb dX2_held_7 rfl hl (by decide) rfl (fun ls hl => ?_)
  have loop_8 : ∀ (n_8 : Nat) (zq : Nat), (N - zq) < n_8 → (zq ≤ N) → ∀ (H : Heap) (locs : List Loc) (ls : Array Slot), va_P G vwCl (xW g cA N D R F KD KR FL1 SU1 WO1 ln1 kp rd wr ft) H → va_D (wA g 13 s.heap.size) (xW g cA N D R F KD KR FL1 SU1 WO1 ln1 kp rd wr ft) → va_S (wA g 13 s.heap.size) s.heap H locs → lv_has ls 3 [(0, .ref (g 0)), (1, .int (nI (heldN N D R zq))), (2, .int (nI zq))] → W p l e { frames := 6, cells := 0, slots := 0, locals := 150 } s m args below meth c H locs 0 0 Q (F0 m 8 ls []) := by
    intro n_8
    induction n_8 with
    | zero => intro zq hm_8; exact absurd hm_8 (Nat.not_lt_zero _)
    | succ n_8 ih_8 =>
      intro zq hm_8 hzq H locs ls hP hD hS hl
      have hfl := flt_le hN D R zq
      have hnn := nod_in hN (show 0 < lvs N by omega)
      have ha0 : ahd N 0 = 0 := rfl
      have hn0 : nod N 0 = N := rfl
      refine lv_iload_n hx hb dX2_held_8 rfl (lv_at hl 2 rfl) ?_
      refine lv_aload_n hx hb dX2_held_9 rfl (lv_at hl 0 rfl) ?_
      refine va_get (D := G) (ci := 2) (v := .ref (g 1)) (C := RX2) (T := TX2) (N := 12) hx hb hts hinX2 hown hK hP 0 rfl rfl 0 (by decide) (hts (.fieldLink RX2 23 "SealedPages" "layout" "LSealedPages$Layout;") (by decide +kernel)) (fun _ h => h) rfl dX2_held_10 ?_
      refine va_get (D := G) (ci := 1) (v := .int (nI N)) (C := RX1) (T := TX1) (N := 6) hx hb hts hinX1 hown hK hP 1 rfl rfl 0 (by decide) (hts (.fieldLink RX2 109 "SealedPages$Layout" "pageCount" "I") (by decide +kernel)) (fun _ h => h) rfl dX2_held_13 ?_
      refine lv_icmp_ge (tgt := 45) hx hb dX2_held_16 (by decide) (fun c_2 => ?_) (fun c_2 => ?_)
      · skip
        have c_2 : N ≤ zq := (nI_leI (a := N) (b := zq) (by omega) (by omega)).mp c_2
        obtain rfl : N = zq := by omega
        have hl : lv_has ls 3 [(0, .ref (g 0)), (1, .int (nI (heldN N D R N))), (2, .int (nI N))] := hl
        refine lv_iload_n hx hb dX2_held_45 rfl (lv_at hl 1 rfl) ?_
        exact hret _ (FL1, SU1, WO1, ln1) _ _ _ _ dX2_held_46 hP hD hS rfl
      · skip
        have c_2 : ¬ N ≤ zq := fun z => c_2 ((nI_leI (a := N) (b := zq) (by omega) (by omega)).mpr z)
        refine lv_aload_n hx hb dX2_held_19 rfl (lv_at hl 0 rfl) ?_
        refine va_get (D := G) (ci := 2) (v := .ref (g 8)) (C := RX2) (T := TX2) (N := 12) hx hb hts hinX2 hown hK hP 0 rfl rfl 7 (by decide) (hts (.fieldLink RX2 57 "SealedPages" "faultsDownTo" "[I") (by decide +kernel)) (fun _ h => h) rfl dX2_held_20 ?_
        refine lv_aload_n hx hb dX2_held_23 rfl (lv_at hl 0 rfl) ?_
        refine va_get (D := G) (ci := 2) (v := .ref (g 1)) (C := RX2) (T := TX2) (N := 12) hx hb hts hinX2 hown hK hP 0 rfl rfl 0 (by decide) (hts (.fieldLink RX2 23 "SealedPages" "layout" "LSealedPages$Layout;") (by decide +kernel)) (fun _ h => h) rfl dX2_held_24 ?_
        refine lv_iconst (v := 0) hx hb dX2_held_27 (by decide) ?_
        refine lv_iload_n hx hb dX2_held_28 rfl (lv_at hl 2 rfl) ?_
        refine x_vi ⟨hx, hb, hml, hown, hts⟩ (c_X1_numberOfNode l G cA tF tC g _ N hN D R F KD KR FL1 SU1 WO1 ln1 kp rd wr ft 0 zq (by omega)) (cwV 2 hts gX2_held_X1_numberOfNode rfl rfl rfl (by decide +kernel) ⟨Nat.le_of_ble_eq_true rfl, Nat.le_of_ble_eq_true rfl⟩) hK hP hD hS hT rfl 1 1 rfl rfl rfl hl.1 rfl (Nat.le_of_ble_eq_true rfl) dX2_held_29 ⟨Nat.le_refl _, Nat.le_refl _⟩ (fun r_4 u H locs hp_3 hP hD hS => ?_)
        have hP : va_P G vwCl (xW g cA N D R F KD KR FL1 SU1 WO1 ln1 kp rd wr ft) _ := hP
        have hD : va_D _ (xW g cA N D R F KD KR FL1 SU1 WO1 ln1 kp rd wr ft) := hD
        have hp_3 : r_4 = nI (ahd N 0 + zq) := hp_3
        subst hp_3
        refine x_ald (i := ahd N 0 + zq) hx hb hK hP 8 0 rfl rfl (by omega) (by have := siz_le hN; have := nds_le hN; omega) dX2_held_32 ?_
        refine x_eqi (y := nI (flt N D R zq)) (by rw [← hsv zq (by omega)]; show FL1 (0 + zq) = _; rw [Nat.zero_add]) ?_
        refine lv_if_ne (tgt := 39) hx hb dX2_held_33 (by decide) (fun c_5 => ?_) (fun c_5 => ?_)
        · skip
          have c_5 : ¬ (flt N D R zq) = 0 := fun z => c_5 ((nI_eq (a := (flt N D R zq)) (b := 0) (by omega) (by omega)).mpr z)
          have hc : ¬ flt N D R zq = 0 := c_5
          have hl : lv_has ls 3 [(0, .ref (g 0)), (1, .int (nI (heldN N D R (zq + 1)))), (2, .int (nI zq))] := by rw [held_s, if_neg hc]; exact hl
          refine lv_iinc (v := nI (zq + 1)) (lv' := [(2, .int (nI (zq + 1))), (0, .ref (g 0)), (1, .int (nI (heldN N D R (zq + 1))))]) hx hb dX2_held_39 hl (k := 2) rfl (nI_1 _) (by decide) rfl (fun ls hl => ?_)
          refine lv_goto (tgt := 8) hx hb dX2_held_42 (by decide) ?_
          exact ih_8 (zq + 1) (by omega) (by omega) _ _ _ hP hD hS (lv_sub hl [1, 2, 0] rfl)
        · skip
          have c_5 : (flt N D R zq) = 0 := (nI_eq (a := (flt N D R zq)) (b := 0) (by omega) (by omega)).mp c_5
          have hc : flt N D R zq = 0 := c_5
          refine lv_iinc (v := nI (heldN N D R (zq + 1))) (lv' := [(1, .int (nI (heldN N D R (zq + 1)))), (0, .ref (g 0)), (2, .int (nI zq))]) hx hb dX2_held_36 hl (k := 1) rfl (by rw [held_s, if_pos hc]; exact nI_1 _) (by decide) rfl (fun ls hl => ?_)
          refine lv_iinc (v := nI (zq + 1)) (lv' := [(2, .int (nI (zq + 1))), (1, .int (nI (heldN N D R (zq + 1)))), (0, .ref (g 0))]) hx hb dX2_held_39 hl (k := 2) rfl (nI_1 _) (by decide) rfl (fun ls hl => ?_)
          refine lv_goto (tgt := 8) hx hb dX2_held_42 (by decide) ?_
          exact ih_8 (zq + 1) (by omega) (by omega) _ _ _ hP hD hS (lv_sub hl [2, 1, 0] rfl)
  exact loop_8 _ 0 (Nat.lt_succ_self _) (by omega) _ _ _ hP hD hS (lv_sub hl [2, 1, 0] rfl)

set_option maxHeartbeats 4000000 in
set_option maxRecDepth 100000 in
theorem c_X2_first (l : Launch) (G : va_G) (cA : ClassId) (tF tC : Nat) (g : Nat → Nat) (sz N : Nat) (hN : 1 ≤ N ∧ N ≤ 64) (D R F KD KR FL SU WO : Nat → Int32) (ln kp rd wr ft : Int32)  : CI l yX2_first wsX2_first 6 150 G cA tF tC g 13 sz (xW g cA N D R F KD KR FL SU WO ln kp rd wr ft) [.ref (g 0)] (fun (u : (Nat → Int32) × (Nat → Int32) × (Nat → Int32) × Int32) => xW g cA N D R F KD KR u.1 u.2.1 u.2.2.1 u.2.2.2 kp rd wr ft) (fun r _ => r = fstN N D R N 0) := by
  refine x_entryI (cc := cX2_first) (maxL := 2) (by decide) rfl (fun _ => rfl) (Nat.le_of_ble_eq_true rfl) ?_
  intro p e s m args below meth c Q hx hb hml hown hts hK hP hD hS hT hret ls hl
  have hown : s.vm.findClass RX2 = some m.cls := hown
  have hl : lv_has ls 2 [(0, .ref (g 0))] := hl
  have hinX1 : ∀ w ∈ wsX10, w ∈ wsX2_first := by decide +kernel
  have hinX2 : ∀ w ∈ wsX20, w ∈ wsX2_first := by decide +kernel
  have hz := siz_le hN
  have hse := siz_eq N
  have hnd := nds_le hN
  have hlv := lvs_in hN
  refine lv_aload_n hx hb dX2_first_0 rfl (lv_at hl 0 rfl) ?_
  refine x_vv ⟨hx, hb, hml, hown, hts⟩ (c_X2_surveyTree l G cA tF tC g _ N hN D R F KD KR FL SU WO ln kp rd wr ft ) (cwV 0 hts gX2_first_X2_surveyTree rfl rfl rfl (by decide +kernel) ⟨Nat.le_of_ble_eq_true rfl, Nat.le_of_ble_eq_true rfl⟩) hK hP hD hS hT rfl 0 2 rfl rfl rfl hl.1 rfl (Nat.le_of_ble_eq_true rfl) dX2_first_1 ⟨Nat.le_refl _, Nat.le_refl _⟩ (fun u H locs hsv hP hD hS => ?_)
  obtain ⟨FL1, SU1, WO1, ln1⟩ := u
  have hP : va_P G vwCl (xW g cA N D R F KD KR FL1 SU1 WO1 ln1 kp rd wr ft) _ := hP
  have hD : va_D _ (xW g cA N D R F KD KR FL1 SU1 WO1 ln1 kp rd wr ft) := hD
  refine lv_iconst (v := 0) hx hb dX2_first_4 (by decide) ?_
  refine lv_istore_n (lv' := [(1, .int 0), (0, .ref (g 0))]) hx hb dX2_first_5 rfl hl (by decide) rfl (fun ls hl => ?_)
  have loop_6 : ∀ (n_6 : Nat) (zq : Nat), (N - zq) < n_6 → (zq ≤ N) → (fstN N D R (N - zq) zq = fstN N D R N 0) → ∀ (H : Heap) (locs : List Loc) (ls : Array Slot), va_P G vwCl (xW g cA N D R F KD KR FL1 SU1 WO1 ln1 kp rd wr ft) H → va_D (wA g 13 s.heap.size) (xW g cA N D R F KD KR FL1 SU1 WO1 ln1 kp rd wr ft) → va_S (wA g 13 s.heap.size) s.heap H locs → lv_has ls 2 [(0, .ref (g 0)), (1, .int (nI zq))] → W p l e { frames := 6, cells := 0, slots := 0, locals := 150 } s m args below meth c H locs 0 0 Q (F0 m 6 ls []) := by
    intro n_6
    induction n_6 with
    | zero => intro zq hm_6; exact absurd hm_6 (Nat.not_lt_zero _)
    | succ n_6 ih_6 =>
      intro zq hm_6 hzq hfs H locs ls hP hD hS hl
      have hfl := flt_le hN D R zq
      have hnn := nod_in hN (show 0 < lvs N by omega)
      have ha0 : ahd N 0 = 0 := rfl
      have hn0 : nod N 0 = N := rfl
      refine lv_iload_n hx hb dX2_first_6 rfl (lv_at hl 1 rfl) ?_
      refine lv_aload_n hx hb dX2_first_7 rfl (lv_at hl 0 rfl) ?_
      refine va_get (D := G) (ci := 2) (v := .ref (g 1)) (C := RX2) (T := TX2) (N := 12) hx hb hts hinX2 hown hK hP 0 rfl rfl 0 (by decide) (hts (.fieldLink RX2 23 "SealedPages" "layout" "LSealedPages$Layout;") (by decide +kernel)) (fun _ h => h) rfl dX2_first_8 ?_
      refine va_get (D := G) (ci := 1) (v := .int (nI N)) (C := RX1) (T := TX1) (N := 6) hx hb hts hinX1 hown hK hP 1 rfl rfl 0 (by decide) (hts (.fieldLink RX2 109 "SealedPages$Layout" "pageCount" "I") (by decide +kernel)) (fun _ h => h) rfl dX2_first_11 ?_
      refine lv_icmp_ge (tgt := 42) hx hb dX2_first_14 (by decide) (fun c_2 => ?_) (fun c_2 => ?_)
      · skip
        have c_2 : N ≤ zq := (nI_leI (a := N) (b := zq) (by omega) (by omega)).mp c_2
        have hc : -1 = fstN N D R N 0 := by rw [← hfs, show N - zq = 0 by omega]; rfl
        refine lv_iconst (v := (-1)) hx hb dX2_first_42 (by decide) ?_
        exact hret _ (FL1, SU1, WO1, ln1) _ _ _ _ dX2_first_43 hP hD hS hc
      · skip
        have c_2 : ¬ N ≤ zq := fun z => c_2 ((nI_leI (a := N) (b := zq) (by omega) (by omega)).mpr z)
        refine lv_aload_n hx hb dX2_first_17 rfl (lv_at hl 0 rfl) ?_
        refine va_get (D := G) (ci := 2) (v := .ref (g 8)) (C := RX2) (T := TX2) (N := 12) hx hb hts hinX2 hown hK hP 0 rfl rfl 7 (by decide) (hts (.fieldLink RX2 57 "SealedPages" "faultsDownTo" "[I") (by decide +kernel)) (fun _ h => h) rfl dX2_first_18 ?_
        refine lv_aload_n hx hb dX2_first_21 rfl (lv_at hl 0 rfl) ?_
        refine va_get (D := G) (ci := 2) (v := .ref (g 1)) (C := RX2) (T := TX2) (N := 12) hx hb hts hinX2 hown hK hP 0 rfl rfl 0 (by decide) (hts (.fieldLink RX2 23 "SealedPages" "layout" "LSealedPages$Layout;") (by decide +kernel)) (fun _ h => h) rfl dX2_first_22 ?_
        refine lv_iconst (v := 0) hx hb dX2_first_25 (by decide) ?_
        refine lv_iload_n hx hb dX2_first_26 rfl (lv_at hl 1 rfl) ?_
        refine x_vi ⟨hx, hb, hml, hown, hts⟩ (c_X1_numberOfNode l G cA tF tC g _ N hN D R F KD KR FL1 SU1 WO1 ln1 kp rd wr ft 0 zq (by omega)) (cwV 2 hts gX2_first_X1_numberOfNode rfl rfl rfl (by decide +kernel) ⟨Nat.le_of_ble_eq_true rfl, Nat.le_of_ble_eq_true rfl⟩) hK hP hD hS hT rfl 1 1 rfl rfl rfl hl.1 rfl (Nat.le_of_ble_eq_true rfl) dX2_first_27 ⟨Nat.le_refl _, Nat.le_refl _⟩ (fun r_4 u H locs hp_3 hP hD hS => ?_)
        have hP : va_P G vwCl (xW g cA N D R F KD KR FL1 SU1 WO1 ln1 kp rd wr ft) _ := hP
        have hD : va_D _ (xW g cA N D R F KD KR FL1 SU1 WO1 ln1 kp rd wr ft) := hD
        have hp_3 : r_4 = nI (ahd N 0 + zq) := hp_3
        subst hp_3
        refine x_ald (i := ahd N 0 + zq) hx hb hK hP 8 0 rfl rfl (by omega) (by have := siz_le hN; have := nds_le hN; omega) dX2_first_30 ?_
        refine x_eqi (y := nI (flt N D R zq)) (by rw [← hsv zq (by omega)]; show FL1 (0 + zq) = _; rw [Nat.zero_add]) ?_
        refine lv_if_eq (tgt := 36) hx hb dX2_first_31 (by decide) (fun c_5 => ?_) (fun c_5 => ?_)
        · skip
          have c_5 : (flt N D R zq) = 0 := (nI_eq (a := (flt N D R zq)) (b := 0) (by omega) (by omega)).mp c_5
          have hfs2 : fstN N D R (N - (zq + 1)) (zq + 1) = fstN N D R N 0 := by rw [← hfs, show N - zq = N - (zq + 1) + 1 by omega, fst_s, if_pos c_5]
          refine lv_iinc (v := nI (zq + 1)) (lv' := [(1, .int (nI (zq + 1))), (0, .ref (g 0))]) hx hb dX2_first_36 hl (k := 1) rfl (nI_1 _) (by decide) rfl (fun ls hl => ?_)
          refine lv_goto (tgt := 6) hx hb dX2_first_39 (by decide) ?_
          exact ih_6 (zq + 1) (by omega) (by omega) hfs2 _ _ _ hP hD hS (lv_sub hl [1, 0] rfl)
        · skip
          have c_5 : ¬ (flt N D R zq) = 0 := fun z => c_5 ((nI_eq (a := (flt N D R zq)) (b := 0) (by omega) (by omega)).mpr z)
          have hc : nI zq = fstN N D R N 0 := by rw [← hfs, show N - zq = N - (zq + 1) + 1 by omega, fst_s, if_neg c_5]
          refine lv_iload_n hx hb dX2_first_34 rfl (lv_at hl 1 rfl) ?_
          exact hret _ (FL1, SU1, WO1, ln1) _ _ _ _ dX2_first_35 hP hD hS hc
  exact loop_6 _ 0 (Nat.lt_succ_self _) (by omega) rfl _ _ _ hP hD hS (lv_sub hl [1, 0] rfl)
