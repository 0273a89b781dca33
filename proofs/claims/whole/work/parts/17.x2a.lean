set_option maxHeartbeats 4000000 in
set_option maxRecDepth 100000 in
theorem c_X2_isBelow (l : Launch) (G : va_G) (cA : ClassId) (tF tC : Nat) (g : Nat → Nat) (sz N : Nat) (hN : 1 ≤ N ∧ N ≤ 64) (D R F KD KR FL SU WO : Nat → Int32) (ln kp rd wr ft : Int32) (x : Int32) (zn : Nat) (hn : zn < 2 ^ 31) : CI l yX2_isBelow wsX2_isBelow 0 0 G cA tF tC g 13 sz (xW g cA N D R F KD KR FL SU WO ln kp rd wr ft) [.int x, .int (nI zn)] (fun (u : Unit) => xW g cA N D R F KD KR FL SU WO ln kp rd wr ft) (fun r _ => r = inB x zn) := by
  refine x_entryZ (cc := cX2_isBelow) (maxL := 2) (by decide) rfl (fun _ => rfl) (Nat.le_of_ble_eq_true rfl) ?_
  intro p e s m args below meth c Q hx hb hml hown hts hK hP hD hS hT hret ls hl
  have hown : s.vm.findClass RX2 = some m.cls := hown
  have hl : lv_has ls 2 [(0, .int x), (1, .int (nI zn))] := hl
  refine lv_iload_n hx hb dX2_isBelow_0 rfl (lv_at hl 0 rfl) ?_
  refine lv_if_lt (tgt := 13) hx hb dX2_isBelow_1 (by decide) (fun c_1 => ?_) (fun c_1 => ?_)
  · skip
    have hc := inB_f1 (n := zn) c_1
    refine lv_iconst (v := 0) hx hb dX2_isBelow_13 (by decide) ?_
    exact hret _ () _ _ _ _ dX2_isBelow_14 hP hD hS rfl hc.symm
  · skip
    have hc1 := c_1
    refine lv_iload_n hx hb dX2_isBelow_4 rfl (lv_at hl 0 rfl) ?_
    refine lv_iload_n hx hb dX2_isBelow_5 rfl (lv_at hl 1 rfl) ?_
    refine lv_icmp_ge (tgt := 13) hx hb dX2_isBelow_6 (by decide) (fun c_2 => ?_) (fun c_2 => ?_)
    · skip
      have hc := inB_f2 hn c_2
      refine lv_iconst (v := 0) hx hb dX2_isBelow_13 (by decide) ?_
      exact hret _ () _ _ _ _ dX2_isBelow_14 hP hD hS rfl hc.symm
    · skip
      have hc := inB_t hn hc1 c_2
      refine lv_iconst (v := 1) hx hb dX2_isBelow_9 (by decide) ?_
      refine lv_goto (tgt := 14) hx hb dX2_isBelow_10 (by decide) ?_
      exact hret _ () _ _ _ _ dX2_isBelow_14 hP hD hS rfl hc.symm

set_option maxHeartbeats 4000000 in
set_option maxRecDepth 100000 in
theorem c_X1_hasPage (l : Launch) (G : va_G) (cA : ClassId) (tF tC : Nat) (g : Nat → Nat) (sz N : Nat) (hN : 1 ≤ N ∧ N ≤ 64) (D R F KD KR FL SU WO : Nat → Int32) (ln kp rd wr ft : Int32) (x : Int32) : CI l yX1_hasPage wsX1_hasPage 1 21 G cA tF tC g 13 sz (xW g cA N D R F KD KR FL SU WO ln kp rd wr ft) [.ref (g 1), .int x] (fun (u : Unit) => xW g cA N D R F KD KR FL SU WO ln kp rd wr ft) (fun r _ => r = inB x N) := by
  refine x_entryZ (cc := cX1_hasPage) (maxL := 2) (by decide) rfl (fun _ => rfl) (Nat.le_of_ble_eq_true rfl) ?_
  intro p e s m args below meth c Q hx hb hml hown hts hK hP hD hS hT hret ls hl
  have hown : s.vm.findClass RX1 = some m.cls := hown
  have hl : lv_has ls 2 [(0, .ref (g 1)), (1, .int x)] := hl
  have hinX1 : ∀ w ∈ wsX10, w ∈ wsX1_hasPage := by decide +kernel
  refine lv_iload_n hx hb dX1_hasPage_0 rfl (lv_at hl 1 rfl) ?_
  refine lv_aload_n hx hb dX1_hasPage_1 rfl (lv_at hl 0 rfl) ?_
  refine va_get (D := G) (ci := 1) (v := .int (nI N)) (C := RX1) (T := TX1) (N := 6) hx hb hts hinX1 hown hK hP 1 rfl rfl 0 (by decide) (hts (.fieldLink RX1 9 "SealedPages$Layout" "pageCount" "I") (by decide +kernel)) (fun _ h => h) rfl dX1_hasPage_2 ?_
  refine x_ni (host := "SealedPages") ⟨hx, hb, hml, hown, hts⟩ (c_X2_isBelow l G cA tF tC g _ N hN D R F KD KR FL SU WO ln kp rd wr ft x N (by omega)) ⟨va_cnB 2 hts gX1_hasPage_X2_isBelow_n31 rfl rfl rfl (show va_Nw (.methodLinkNest RX1 31 yX2_isBelow "SealedPages") s from hT.2.2.2.2) (hts (.initialized RX2) (by decide +kernel)) (by decide +kernel) ⟨Nat.le_of_ble_eq_true rfl, Nat.le_of_ble_eq_true rfl⟩, hts (.static yX2_isBelow) (by decide +kernel), trivial⟩ hK hP hD hS hT rfl rfl hl.1 rfl (Nat.le_of_ble_eq_true rfl) dX1_hasPage_5 ⟨Nat.le_refl _, Nat.le_refl _⟩ (fun r_2 u H locs hp_1 hP hD hS => ?_)
  have hP : va_P G vwCl (xW g cA N D R F KD KR FL SU WO ln kp rd wr ft) _ := hP
  have hD : va_D _ (xW g cA N D R F KD KR FL SU WO ln kp rd wr ft) := hD
  have hp_1 : r_2 = inB x N := hp_1
  subst hp_1
  exact hret _ () _ _ _ _ dX1_hasPage_8 hP hD hS (inB_z _ _) rfl

set_option maxHeartbeats 4000000 in
set_option maxRecDepth 100000 in
theorem c_X1_hasNode (l : Launch) (G : va_G) (cA : ClassId) (tF tC : Nat) (g : Nat → Nat) (sz N : Nat) (hN : 1 ≤ N ∧ N ≤ 64) (D R F KD KR FL SU WO : Nat → Int32) (ln kp rd wr ft : Int32) (x y : Int32) : CI l yX1_hasNode wsX1_hasNode 1 21 G cA tF tC g 13 sz (xW g cA N D R F KD KR FL SU WO ln kp rd wr ft) [.ref (g 1), .int x, .int y] (fun (u : Unit) => xW g cA N D R F KD KR FL SU WO ln kp rd wr ft) (fun r _ => r = inN N x y) := by
  refine x_entryZ (cc := cX1_hasNode) (maxL := 3) (by decide) rfl (fun _ => rfl) (Nat.le_of_ble_eq_true rfl) ?_
  intro p e s m args below meth c Q hx hb hml hown hts hK hP hD hS hT hret ls hl
  have hown : s.vm.findClass RX1 = some m.cls := hown
  have hl : lv_has ls 3 [(0, .ref (g 1)), (1, .int x), (2, .int y)] := hl
  have hinX1 : ∀ w ∈ wsX10, w ∈ wsX1_hasNode := by decide +kernel
  have hz := siz_le hN
  have hse := siz_eq N
  have hnd := nds_le hN
  have hlv := lvs_in hN
  refine lv_iload_n hx hb dX1_hasNode_0 rfl (lv_at hl 1 rfl) ?_
  refine lv_aload_n hx hb dX1_hasNode_1 rfl (lv_at hl 0 rfl) ?_
  refine va_get (D := G) (ci := 1) (v := .int (nI (lvs N))) (C := RX1) (T := TX1) (N := 6) hx hb hts hinX1 hown hK hP 1 rfl rfl 1 (by decide) (hts (.fieldLink RX1 22 "SealedPages$Layout" "levelCount" "I") (by decide +kernel)) (fun _ h => h) rfl dX1_hasNode_2 ?_
  refine x_ni (host := "SealedPages") ⟨hx, hb, hml, hown, hts⟩ (c_X2_isBelow l G cA tF tC g _ N hN D R F KD KR FL SU WO ln kp rd wr ft x (lvs N) (by omega)) ⟨va_cnB 2 hts gX1_hasNode_X2_isBelow_n31 rfl rfl rfl (show va_Nw (.methodLinkNest RX1 31 yX2_isBelow "SealedPages") s from hT.2.2.2.2) (hts (.initialized RX2) (by decide +kernel)) (by decide +kernel) ⟨Nat.le_of_ble_eq_true rfl, Nat.le_of_ble_eq_true rfl⟩, hts (.static yX2_isBelow) (by decide +kernel), trivial⟩ hK hP hD hS hT rfl rfl hl.1 rfl (Nat.le_of_ble_eq_true rfl) dX1_hasNode_5 ⟨Nat.le_refl _, Nat.le_refl _⟩ (fun r_2 u H locs hp_1 hP hD hS => ?_)
  have hP : va_P G vwCl (xW g cA N D R F KD KR FL SU WO ln kp rd wr ft) _ := hP
  have hD : va_D _ (xW g cA N D R F KD KR FL SU WO ln kp rd wr ft) := hD
  have hp_1 : r_2 = inB x (lvs N) := hp_1
  subst hp_1
  refine lv_if_eq (tgt := 28) hx hb dX1_hasNode_8 (by decide) (fun c_3 => ?_) (fun c_3 => ?_)
  · skip
    have hc := (inN_0 (y := y) c_3).symm
    refine lv_iconst (v := 0) hx hb dX1_hasNode_28 (by decide) ?_
    exact hret _ () _ _ _ _ dX1_hasNode_29 hP hD hS rfl hc
  · skip
    obtain ⟨zq, hq, rfl⟩ := inB_1 (by omega) c_3
    have hnq := nod_le N hN.1 zq
    have hl : lv_has ls 3 [(0, .ref (g 1)), (1, .int (nI zq)), (2, .int y)] := hl
    refine lv_iload_n hx hb dX1_hasNode_11 rfl (lv_at hl 2 rfl) ?_
    refine lv_aload_n hx hb dX1_hasNode_12 rfl (lv_at hl 0 rfl) ?_
    refine va_get (D := G) (ci := 1) (v := .ref (g 9)) (C := RX1) (T := TX1) (N := 6) hx hb hts hinX1 hown hK hP 1 rfl rfl 4 (by decide) (hts (.fieldLink RX1 15 "SealedPages$Layout" "widths" "[I") (by decide +kernel)) (fun _ h => h) rfl dX1_hasNode_13 ?_
    refine lv_iload_n hx hb dX1_hasNode_16 rfl (lv_at hl 1 rfl) ?_
    refine x_ald (i := zq) hx hb hK hP 9 0 rfl rfl (by omega) (by decide) dX1_hasNode_17 ?_
    refine x_eqi (y := nI (nod N zq)) (wid_at hq) ?_
    refine x_ni (host := "SealedPages") ⟨hx, hb, hml, hown, hts⟩ (c_X2_isBelow l G cA tF tC g _ N hN D R F KD KR FL SU WO ln kp rd wr ft y (nod N zq) (by omega)) ⟨va_cnB 2 hts gX1_hasNode_X2_isBelow_n31 rfl rfl rfl (show va_Nw (.methodLinkNest RX1 31 yX2_isBelow "SealedPages") s from hT.2.2.2.2) (hts (.initialized RX2) (by decide +kernel)) (by decide +kernel) ⟨Nat.le_of_ble_eq_true rfl, Nat.le_of_ble_eq_true rfl⟩, hts (.static yX2_isBelow) (by decide +kernel), trivial⟩ hK hP hD hS hT rfl rfl hl.1 rfl (Nat.le_of_ble_eq_true rfl) dX1_hasNode_18 ⟨Nat.le_refl _, Nat.le_refl _⟩ (fun r_5 u H locs hp_4 hP hD hS => ?_)
    have hP : va_P G vwCl (xW g cA N D R F KD KR FL SU WO ln kp rd wr ft) _ := hP
    have hD : va_D _ (xW g cA N D R F KD KR FL SU WO ln kp rd wr ft) := hD
    have hp_4 : r_5 = inB y (nod N zq) := hp_4
    subst hp_4
    refine lv_if_eq (tgt := 28) hx hb dX1_hasNode_21 (by decide) (fun c_6 => ?_) (fun c_6 => ?_)
    · skip
      have hc : (0 : Int32) = inN N (nI zq) y := by rw [inN_o hN hq, c_6]
      refine lv_iconst (v := 0) hx hb dX1_hasNode_28 (by decide) ?_
      exact hret _ () _ _ _ _ dX1_hasNode_29 hP hD hS rfl hc
    · skip
      have hc : (1 : Int32) = inN N (nI zq) y := by rw [inN_o hN hq]; exact ((inB_01 _ _).resolve_left c_6).symm
      refine lv_iconst (v := 1) hx hb dX1_hasNode_24 (by decide) ?_
      refine lv_goto (tgt := 29) hx hb dX1_hasNode_25 (by decide) ?_
      exact hret _ () _ _ _ _ dX1_hasNode_29 hP hD hS rfl hc

set_option maxHeartbeats 4000000 in
set_option maxRecDepth 100000 in
theorem c_X1_placeOfPage (l : Launch) (G : va_G) (cA : ClassId) (tF tC : Nat) (g : Nat → Nat) (sz N : Nat) (hN : 1 ≤ N ∧ N ≤ 64) (D R F KD KR FL SU WO : Nat → Int32) (ln kp rd wr ft : Int32) (p0 : Nat) : CI l yX1_placeOfPage wsX1_placeOfPage 0 0 G cA tF tC g 13 sz (xW g cA N D R F KD KR FL SU WO ln kp rd wr ft) [.ref (g 1), .int (nI p0)] (fun (u : Unit) => xW g cA N D R F KD KR FL SU WO ln kp rd wr ft) (fun r _ => r = nI (8 + 64 * p0)) := by
  refine x_entryI (cc := cX1_placeOfPage) (maxL := 2) (by decide) rfl (fun _ => rfl) (Nat.le_of_ble_eq_true rfl) ?_
  intro p e s m args below meth c Q hx hb hml hown hts hK hP hD hS hT hret ls hl
  have hown : s.vm.findClass RX1 = some m.cls := hown
  have hl : lv_has ls 2 [(0, .ref (g 1)), (1, .int (nI p0))] := hl
  refine lv_bipush (v := 8) hx hb dX1_placeOfPage_0 (by decide) ?_
  refine lv_bipush (v := 64) hx hb dX1_placeOfPage_2 (by decide) ?_
  refine lv_iload_n hx hb dX1_placeOfPage_4 rfl (lv_at hl 1 rfl) ?_
  refine lv_imul hx hb dX1_placeOfPage_5 ?_
  refine x_eqi (y := nI (64 * p0)) (pk_mul 64 p0) ?_
  refine lv_iadd hx hb dX1_placeOfPage_6 ?_
  refine x_eqi (y := nI (8 + (64 * p0))) (nI_add 8 (64 * p0)) ?_
  exact hret _ () _ _ _ _ dX1_placeOfPage_7 hP hD hS rfl

set_option maxHeartbeats 4000000 in
set_option maxRecDepth 100000 in
theorem c_X1_numberOfNode (l : Launch) (G : va_G) (cA : ClassId) (tF tC : Nat) (g : Nat → Nat) (sz N : Nat) (hN : 1 ≤ N ∧ N ≤ 64) (D R F KD KR FL SU WO : Nat → Int32) (ln kp rd wr ft : Int32) (ql qk : Nat) (hql : ql < lvs N) : CI l yX1_numberOfNode wsX1_numberOfNode 0 0 G cA tF tC g 13 sz (xW g cA N D R F KD KR FL SU WO ln kp rd wr ft) [.ref (g 1), .int (nI ql), .int (nI qk)] (fun (u : Unit) => xW g cA N D R F KD KR FL SU WO ln kp rd wr ft) (fun r _ => r = nI (ahd N ql + qk)) := by
  refine x_entryI (cc := cX1_numberOfNode) (maxL := 3) (by decide) rfl (fun _ => rfl) (Nat.le_of_ble_eq_true rfl) ?_
  intro p e s m args below meth c Q hx hb hml hown hts hK hP hD hS hT hret ls hl
  have hown : s.vm.findClass RX1 = some m.cls := hown
  have hl : lv_has ls 3 [(0, .ref (g 1)), (1, .int (nI ql)), (2, .int (nI qk))] := hl
  have hinX1 : ∀ w ∈ wsX10, w ∈ wsX1_numberOfNode := by decide +kernel
  have hz := siz_le hN
  have hse := siz_eq N
  have hnd := nds_le hN
  have hlv := lvs_in hN
  refine lv_aload_n hx hb dX1_numberOfNode_0 rfl (lv_at hl 0 rfl) ?_
  refine va_get (D := G) (ci := 1) (v := .ref (g 10)) (C := RX1) (T := TX1) (N := 6) hx hb hts hinX1 hown hK hP 1 rfl rfl 5 (by decide) (hts (.fieldLink RX1 19 "SealedPages$Layout" "nodesAhead" "[I") (by decide +kernel)) (fun _ h => h) rfl dX1_numberOfNode_1 ?_
  refine lv_iload_n hx hb dX1_numberOfNode_4 rfl (lv_at hl 1 rfl) ?_
  refine x_ald (i := ql) hx hb hK hP 10 0 rfl rfl (by omega) (by decide) dX1_numberOfNode_5 ?_
  refine x_eqi (y := nI (ahd N ql)) (ahA_at hql) ?_
  refine lv_iload_n hx hb dX1_numberOfNode_6 rfl (lv_at hl 2 rfl) ?_
  refine lv_iadd hx hb dX1_numberOfNode_7 ?_
  refine x_eqi (y := nI ((ahd N ql) + qk)) (nI_add (ahd N ql) qk) ?_
  exact hret _ () _ _ _ _ dX1_numberOfNode_8 hP hD hS rfl

set_option maxHeartbeats 4000000 in
set_option maxRecDepth 100000 in
theorem c_X1_placeOfNode (l : Launch) (G : va_G) (cA : ClassId) (tF tC : Nat) (g : Nat → Nat) (sz N : Nat) (hN : 1 ≤ N ∧ N ≤ 64) (D R F KD KR FL SU WO : Nat → Int32) (ln kp rd wr ft : Int32) (ql qk : Nat) (hql : ql < lvs N) : CI l yX1_placeOfNode wsX1_placeOfNode 1 22 G cA tF tC g 13 sz (xW g cA N D R F KD KR FL SU WO ln kp rd wr ft) [.ref (g 1), .int (nI ql), .int (nI qk)] (fun (u : Unit) => xW g cA N D R F KD KR FL SU WO ln kp rd wr ft) (fun r _ => r = nI (plc N ql qk)) := by
  refine x_entryI (cc := cX1_placeOfNode) (maxL := 3) (by decide) rfl (fun _ => rfl) (Nat.le_of_ble_eq_true rfl) ?_
  intro p e s m args below meth c Q hx hb hml hown hts hK hP hD hS hT hret ls hl
  have hown : s.vm.findClass RX1 = some m.cls := hown
  have hl : lv_has ls 3 [(0, .ref (g 1)), (1, .int (nI ql)), (2, .int (nI qk))] := hl
  have hinX1 : ∀ w ∈ wsX10, w ∈ wsX1_placeOfNode := by decide +kernel
  have hz := siz_le hN
  have hse := siz_eq N
  have hnd := nds_le hN
  have hlv := lvs_in hN
  refine lv_bipush (v := 8) hx hb dX1_placeOfNode_0 (by decide) ?_
  refine lv_bipush (v := 64) hx hb dX1_placeOfNode_2 (by decide) ?_
  refine lv_aload_n hx hb dX1_placeOfNode_4 rfl (lv_at hl 0 rfl) ?_
  refine va_get (D := G) (ci := 1) (v := .int (nI N)) (C := RX1) (T := TX1) (N := 6) hx hb hts hinX1 hown hK hP 1 rfl rfl 0 (by decide) (hts (.fieldLink RX1 9 "SealedPages$Layout" "pageCount" "I") (by decide +kernel)) (fun _ h => h) rfl dX1_placeOfNode_5 ?_
  refine lv_imul hx hb dX1_placeOfNode_8 ?_
  refine x_eqi (y := nI (64 * N)) (pk_mul 64 N) ?_
  refine lv_iadd hx hb dX1_placeOfNode_9 ?_
  refine x_eqi (y := nI (8 + (64 * N))) (nI_add 8 (64 * N)) ?_
  refine lv_bipush (v := 32) hx hb dX1_placeOfNode_10 (by decide) ?_
  refine lv_aload_n hx hb dX1_placeOfNode_12 rfl (lv_at hl 0 rfl) ?_
  refine lv_iload_n hx hb dX1_placeOfNode_13 rfl (lv_at hl 1 rfl) ?_
  refine lv_iload_n hx hb dX1_placeOfNode_14 rfl (lv_at hl 2 rfl) ?_
  refine x_vi ⟨hx, hb, hml, hown, hts⟩ (c_X1_numberOfNode l G cA tF tC g _ N hN D R F KD KR FL SU WO ln kp rd wr ft ql qk hql) (cwV 2 hts gX1_placeOfNode_X1_numberOfNode rfl rfl rfl (by decide +kernel) ⟨Nat.le_of_ble_eq_true rfl, Nat.le_of_ble_eq_true rfl⟩) hK hP hD hS hT rfl 1 1 rfl rfl rfl hl.1 rfl (Nat.le_of_ble_eq_true rfl) dX1_placeOfNode_15 ⟨Nat.le_refl _, Nat.le_refl _⟩ (fun r_2 u H locs hp_1 hP hD hS => ?_)
  have hP : va_P G vwCl (xW g cA N D R F KD KR FL SU WO ln kp rd wr ft) _ := hP
  have hD : va_D _ (xW g cA N D R F KD KR FL SU WO ln kp rd wr ft) := hD
  have hp_1 : r_2 = nI (ahd N ql + qk) := hp_1
  subst hp_1
  refine lv_imul hx hb dX1_placeOfNode_18 ?_
  refine x_eqi (y := nI (32 * (ahd N ql + qk))) (pk_mul 32 (ahd N ql + qk)) ?_
  refine lv_iadd hx hb dX1_placeOfNode_19 ?_
  refine x_eqi (y := nI ((8 + (64 * N)) + (32 * (ahd N ql + qk)))) (nI_add (8 + (64 * N)) (32 * (ahd N ql + qk))) ?_
  exact hret _ () _ _ _ _ dX1_placeOfNode_20 hP hD hS rfl

set_option maxHeartbeats 4000000 in
set_option maxRecDepth 100000 in
theorem c_X2_nodeBesideWay (l : Launch) (G : va_G) (cA : ClassId) (tF tC : Nat) (g : Nat → Nat) (sz N : Nat) (hN : 1 ≤ N ∧ N ≤ 64) (D R F KD KR FL SU WO : Nat → Int32) (ln kp rd wr ft : Int32) (p0 ql : Nat) (hp0 : p0 < 64) (hql : ql < 7) : CI l yX2_nodeBesideWay wsX2_nodeBesideWay 0 0 G cA tF tC g 13 sz (xW g cA N D R F KD KR FL SU WO ln kp rd wr ft) [.int (nI p0), .int (nI ql)] (fun (u : Unit) => xW g cA N D R F KD KR FL SU WO ln kp rd wr ft) (fun r _ => r = nI (bsd p0 ql)) := by
  refine x_entryI (cc := cX2_nodeBesideWay) (maxL := 2) (by decide) rfl (fun _ => rfl) (Nat.le_of_ble_eq_true rfl) ?_
  intro p e s m args below meth c Q hx hb hml hown hts hK hP hD hS hT hret ls hl
  have hown : s.vm.findClass RX2 = some m.cls := hown
  have hl : lv_has ls 2 [(0, .int (nI p0)), (1, .int (nI ql))] := hl
  have hpw : p0 / 2 ^ ql ≤ p0 := Nat.div_le_self _ _
  refine lv_iload_n hx hb dX2_nodeBesideWay_0 rfl (lv_at hl 0 rfl) ?_
  refine lv_iload_n hx hb dX2_nodeBesideWay_1 rfl (lv_at hl 1 rfl) ?_
  refine lv_ishr hx hb dX2_nodeBesideWay_2 ?_
  refine x_eqi (y := nI (p0 / 2 ^ ql)) (pk_shrN (n := p0) (by omega) _ ql (s_l _ (by omega))) ?_
  refine lv_iconst (v := 1) hx hb dX2_nodeBesideWay_3 (by decide) ?_
  refine lv_ixor hx hb dX2_nodeBesideWay_4 ?_
  refine x_eqi (y := nI (bsd p0 ql)) (by rw [show (1 : Int32) = nI 1 from rfl, nx_xor, xor1 _ (by omega)]; rfl) ?_
  exact hret _ () _ _ _ _ dX2_nodeBesideWay_5 hP hD hS rfl

set_option maxHeartbeats 4000000 in
set_option maxRecDepth 100000 in
theorem c_X2_headByteAsTold (l : Launch) (G : va_G) (cA : ClassId) (tF tC : Nat) (g : Nat → Nat) (sz N : Nat) (hN : 1 ≤ N ∧ N ≤ 64) (D R F KD KR FL SU WO : Nat → Int32) (ln kp rd wr ft : Int32) (zi : Nat) (hi : zi < 8) : CI l yX2_headByteAsTold wsX2_headByteAsTold 0 0 G cA tF tC g 13 sz (xW g cA N D R F KD KR FL SU WO ln kp rd wr ft) [.ref (g 0), .int (nI zi)] (fun (u : Unit) => xW g cA N D R F KD KR FL SU WO ln kp rd wr ft) (fun r _ => r = hed N zi) := by
  refine x_entryI (cc := cX2_headByteAsTold) (maxL := 2) (by decide) rfl (fun _ => rfl) (Nat.le_of_ble_eq_true rfl) ?_
  intro p e s m args below meth c Q hx hb hml hown hts hK hP hD hS hT hret ls hl
  have hown : s.vm.findClass RX2 = some m.cls := hown
  have hl : lv_has ls 2 [(0, .ref (g 0)), (1, .int (nI zi))] := hl
  have hinX1 : ∀ w ∈ wsX10, w ∈ wsX2_headByteAsTold := by decide +kernel
  have hinX2 : ∀ w ∈ wsX20, w ∈ wsX2_headByteAsTold := by decide +kernel
  refine lv_iload_n hx hb dX2_headByteAsTold_0 rfl (lv_at hl 1 rfl) ?_
  rcases (show zi = 0 ∨ zi = 1 ∨ zi = 2 ∨ zi = 3 ∨ 4 ≤ zi by omega) with h4 | h4 | h4 | h4 | h4
  · skip
    subst h4
    refine lv_tableIn (off := 31) (tgt := 32) hx hb dX2_headByteAsTold_1 (by decide) (by decide) (by decide) (by decide) ?_
    refine lv_bipush (v := 83) hx hb dX2_headByteAsTold_32 (by decide) ?_
    exact hret _ () _ _ _ _ dX2_headByteAsTold_34 hP hD hS rfl
  · skip
    subst h4
    refine lv_tableIn (off := 34) (tgt := 35) hx hb dX2_headByteAsTold_1 (by decide) (by decide) (by decide) (by decide) ?_
    refine lv_bipush (v := 73) hx hb dX2_headByteAsTold_35 (by decide) ?_
    exact hret _ () _ _ _ _ dX2_headByteAsTold_37 hP hD hS rfl
  · skip
    subst h4
    refine lv_tableIn (off := 37) (tgt := 38) hx hb dX2_headByteAsTold_1 (by decide) (by decide) (by decide) (by decide) ?_
    refine lv_aload_n hx hb dX2_headByteAsTold_38 rfl (lv_at hl 0 rfl) ?_
    refine va_get (D := G) (ci := 2) (v := .ref (g 1)) (C := RX2) (T := TX2) (N := 12) hx hb hts hinX2 hown hK hP 0 rfl rfl 0 (by decide) (hts (.fieldLink RX2 23 "SealedPages" "layout" "LSealedPages$Layout;") (by decide +kernel)) (fun _ h => h) rfl dX2_headByteAsTold_39 ?_
    refine va_get (D := G) (ci := 1) (v := .int (nI N)) (C := RX1) (T := TX1) (N := 6) hx hb hts hinX1 hown hK hP 1 rfl rfl 0 (by decide) (hts (.fieldLink RX2 109 "SealedPages$Layout" "pageCount" "I") (by decide +kernel)) (fun _ h => h) rfl dX2_headByteAsTold_42 ?_
    exact hret _ () _ _ _ _ dX2_headByteAsTold_45 hP hD hS rfl
  · skip
    subst h4
    refine lv_tableIn (off := 45) (tgt := 46) hx hb dX2_headByteAsTold_1 (by decide) (by decide) (by decide) (by decide) ?_
    refine lv_bipush (v := 64) hx hb dX2_headByteAsTold_46 (by decide) ?_
    exact hret _ () _ _ _ _ dX2_headByteAsTold_48 hP hD hS rfl
  · skip
    refine lv_tableOut (tgt := 49) hx hb dX2_headByteAsTold_1 (Or.inr (by rw [nI_toInt (by omega)]; omega)) (by decide) ?_
    refine lv_iconst (v := 0) hx hb dX2_headByteAsTold_49 (by decide) ?_
    exact hret _ () _ _ _ _ dX2_headByteAsTold_50 hP hD hS (by unfold hed; rw [if_neg (by omega), if_neg (by omega), if_neg (by omega), if_neg (by omega)])

set_option maxHeartbeats 4000000 in
set_option maxRecDepth 100000 in
theorem c_X2_hashNode (l : Launch) (G : va_G) (cA : ClassId) (tF tC : Nat) (g : Nat → Nat) (sz N : Nat) (hN : 1 ≤ N ∧ N ≤ 64) (D R F KD KR FL SU WO : Nat → Int32) (ln kp rd wr ft : Int32) (ql qk : Nat) (hql : ql < lvs N) (hqk : qk < nod N ql) : CV l yX2_hashNode wsX2_hashNode 3 80 G cA tF tC g 13 sz (xW g cA N D R F KD KR FL SU WO ln kp rd wr ft) [.ref (g 0), .int (nI ql), .int (nI qk)] (fun (u : (Nat → Int32) × (Nat → Int32) × Int32) => xW g cA N D R F KD KR FL u.1 u.2.1 u.2.2 kp rd wr ft) (fun u => ag 32 (hby u.1) (nsha N D ql qk)) := by
  refine x_entryV (cc := cX2_hashNode) (maxL := 4) (by decide) rfl (fun _ => rfl) (Nat.le_of_ble_eq_true rfl) ?_
  intro p e s m args below meth c Q hx hb hml hown hts hK hP hD hS hT hret ls hl
  have hown : s.vm.findClass RX2 = some m.cls := hown
  have hl : lv_has ls 4 [(0, .ref (g 0)), (1, .int (nI ql)), (2, .int (nI qk))] := hl
  have hinX2 : ∀ w ∈ wsX20, w ∈ wsX2_hashNode := by decide +kernel
  have hz := siz_le hN
  have hse := siz_eq N
  have hnd := nds_le hN
  have hlv := lvs_in hN
  have hnl := nlen_in N ql qk
  have hpg := fun (h : ql = 0) => page_in (N := N) (p := qk) (by subst h; exact hqk)
  have hkn := nod_le N hN.1 ql
  obtain ⟨zf, ef⟩ : ∃ z, z = pad (nmsg D ql qk (nbas N ql qk)) (nlen N ql qk) := ⟨_, rfl⟩
  have hs0 : Str zf (va_cpy hC SU 0 0 8) WO 0 := Str0 (cpy_hC SU)
  refine lv_aload_n hx hb dX2_hashNode_0 rfl (lv_at hl 0 rfl) ?_
  refine va_get (D := G) (ci := 2) (v := .ref (g 2)) (C := RX2) (T := TX2) (N := 12) hx hb hts hinX2 hown hK hP 0 rfl rfl 1 (by decide) (hts (.fieldLink RX2 30 "SealedPages" "hasher" "LSealedPages$Hasher;") (by decide +kernel)) (fun _ h => h) rfl dX2_hashNode_1 ?_
  refine x_vv ⟨hx, hb, hml, hown, hts⟩ (c_X0_begin l G cA tF tC g _ N hN D R F KD KR FL SU WO ln kp rd wr ft ) (cwV 0 hts gX2_hashNode_X0_begin rfl rfl rfl (by decide +kernel) ⟨Nat.le_of_ble_eq_true rfl, Nat.le_of_ble_eq_true rfl⟩) hK hP hD hS hT rfl 2 0 rfl rfl rfl hl.1 rfl (Nat.le_of_ble_eq_true rfl) dX2_hashNode_4 ⟨Nat.le_refl _, Nat.le_refl _⟩ (fun u H locs hp_1 hP hD hS => ?_)
  have hP : va_P G vwCl (xW g cA N D R F KD KR FL (va_cpy hC SU 0 0 8) WO (nI 0) kp rd wr ft) _ := hP
  have hD : va_D _ (xW g cA N D R F KD KR FL (va_cpy hC SU 0 0 8) WO (nI 0) kp rd wr ft) := hD
  refine lv_aload_n hx hb dX2_hashNode_7 rfl (lv_at hl 0 rfl) ?_
  refine va_get (D := G) (ci := 2) (v := .ref (g 2)) (C := RX2) (T := TX2) (N := 12) hx hb hts hinX2 hown hK hP 0 rfl rfl 1 (by decide) (hts (.fieldLink RX2 30 "SealedPages" "hasher" "LSealedPages$Hasher;") (by decide +kernel)) (fun _ h => h) rfl dX2_hashNode_8 ?_
  refine lv_iload_n hx hb dX2_hashNode_11 rfl (lv_at hl 1 rfl) ?_
  refine x_vv ⟨hx, hb, hml, hown, hts⟩ (c_X0_addByte l G cA tF tC g _ N hN D R F KD KR FL (va_cpy hC SU 0 0 8) WO kp rd wr ft 0 zf (nI ql) hs0 (by rw [ef, msg_0 (by omega)]) (by omega)) (cwV 1 hts gX2_hashNode_X0_addByte rfl rfl rfl (by decide +kernel) ⟨Nat.le_of_ble_eq_true rfl, Nat.le_of_ble_eq_true rfl⟩) hK hP hD hS hT rfl 2 0 rfl rfl rfl hl.1 rfl (Nat.le_of_ble_eq_true rfl) dX2_hashNode_12 ⟨Nat.le_refl _, Nat.le_refl _⟩ (fun u H locs hs1 hP hD hS => ?_)
  obtain ⟨SU1, WO1⟩ := u
  have hP : va_P G vwCl (xW g cA N D R F KD KR FL SU1 WO1 (nI (0 + 1)) kp rd wr ft) _ := hP
  have hD : va_D _ (xW g cA N D R F KD KR FL SU1 WO1 (nI (0 + 1)) kp rd wr ft) := hD
  refine lv_aload_n hx hb dX2_hashNode_15 rfl (lv_at hl 0 rfl) ?_
  refine va_get (D := G) (ci := 2) (v := .ref (g 2)) (C := RX2) (T := TX2) (N := 12) hx hb hts hinX2 hown hK hP 0 rfl rfl 1 (by decide) (hts (.fieldLink RX2 30 "SealedPages" "hasher" "LSealedPages$Hasher;") (by decide +kernel)) (fun _ h => h) rfl dX2_hashNode_16 ?_
  refine lv_iload_n hx hb dX2_hashNode_19 rfl (lv_at hl 2 rfl) ?_
  refine x_vv ⟨hx, hb, hml, hown, hts⟩ (c_X0_addByte l G cA tF tC g _ N hN D R F KD KR FL SU1 WO1 kp rd wr ft (0 + 1) zf (nI qk) hs1 (by rw [ef, msg_1 (by omega)]) (by omega)) (cwV 1 hts gX2_hashNode_X0_addByte rfl rfl rfl (by decide +kernel) ⟨Nat.le_of_ble_eq_true rfl, Nat.le_of_ble_eq_true rfl⟩) hK hP hD hS hT rfl 2 0 rfl rfl rfl hl.1 rfl (Nat.le_of_ble_eq_true rfl) dX2_hashNode_20 ⟨Nat.le_refl _, Nat.le_refl _⟩ (fun u H locs hs2 hP hD hS => ?_)
  obtain ⟨SU2, WO2⟩ := u
  have hP : va_P G vwCl (xW g cA N D R F KD KR FL SU2 WO2 (nI (0 + 1 + 1)) kp rd wr ft) _ := hP
  have hD : va_D _ (xW g cA N D R F KD KR FL SU2 WO2 (nI (0 + 1 + 1)) kp rd wr ft) := hD
  refine lv_iload_n hx hb dX2_hashNode_23 rfl (lv_at hl 1 rfl) ?_
  refine lv_if_ne (tgt := 51) hx hb dX2_hashNode_24 (by decide) (fun c_5 => ?_) (fun c_5 => ?_)
  · skip
    have c_5 : ¬ ql = 0 := fun z => c_5 ((nI_eq (a := ql) (b := 0) (by omega) (by omega)).mpr z)
    have hq0 : ¬ ql = 0 := c_5
    have hbl := below_in hN hq0 hql hqk
    refine lv_aload_n hx hb dX2_hashNode_51 rfl (lv_at hl 0 rfl) ?_
    refine va_get (D := G) (ci := 2) (v := .ref (g 1)) (C := RX2) (T := TX2) (N := 12) hx hb hts hinX2 hown hK hP 0 rfl rfl 0 (by decide) (hts (.fieldLink RX2 23 "SealedPages" "layout" "LSealedPages$Layout;") (by decide +kernel)) (fun _ h => h) rfl dX2_hashNode_52 ?_
    refine lv_iload_n hx hb dX2_hashNode_55 rfl (lv_at hl 1 rfl) ?_
    refine lv_iconst (v := 1) hx hb dX2_hashNode_56 (by decide) ?_
    refine lv_isub hx hb dX2_hashNode_57 ?_
    refine x_eqi (y := nI (ql - 1)) (pk_sub (a := ql) (b := 1) (by omega)) ?_
    refine lv_iconst (v := 2) hx hb dX2_hashNode_58 (by decide) ?_
    refine lv_iload_n hx hb dX2_hashNode_59 rfl (lv_at hl 2 rfl) ?_
    refine lv_imul hx hb dX2_hashNode_60 ?_
    refine x_eqi (y := nI (2 * qk)) (pk_mul 2 qk) ?_
    refine lv_iconst (v := 1) hx hb dX2_hashNode_61 (by decide) ?_
    refine lv_iadd hx hb dX2_hashNode_62 ?_
    refine x_eqi (y := nI ((2 * qk) + 1)) (nI_add (2 * qk) 1) ?_
    refine x_vi ⟨hx, hb, hml, hown, hts⟩ (c_X1_hasNode l G cA tF tC g _ N hN D R F KD KR FL SU2 WO2 (nI (0 + 1 + 1)) kp rd wr ft (nI (ql - 1)) (nI (2 * qk + 1))) (cwV 2 hts gX2_hashNode_X1_hasNode rfl rfl rfl (by decide +kernel) ⟨Nat.le_of_ble_eq_true rfl, Nat.le_of_ble_eq_true rfl⟩) hK hP hD hS hT rfl 1 1 rfl rfl rfl hl.1 rfl (Nat.le_of_ble_eq_true rfl) dX2_hashNode_63 ⟨Nat.le_refl _, Nat.le_refl _⟩ (fun r_7 u H locs hp_6 hP hD hS => ?_)
    have hP : va_P G vwCl (xW g cA N D R F KD KR FL SU2 WO2 (nI (0 + 1 + 1)) kp rd wr ft) _ := hP
    have hD : va_D _ (xW g cA N D R F KD KR FL SU2 WO2 (nI (0 + 1 + 1)) kp rd wr ft) := hD
    have hp_6 : r_7 = inN N (nI (ql - 1)) (nI (2 * qk + 1)) := hp_6
    subst hp_6
    refine lv_if_eq (tgt := 73) hx hb dX2_hashNode_66 (by decide) (fun c_8 => ?_) (fun c_8 => ?_)
    · skip
      have hq1 : ¬ 2 * qk + 1 < nod N (ql - 1) := fun h => by rw [inN_n hN (by omega) (by omega), if_pos h] at c_8; exact absurd c_8 (by decide)
      have hlen : nlen N ql qk = 0 + 1 + 1 + 1 * 32 := nlen_1 hq0 hq1
      refine lv_iconst (v := 1) hx hb dX2_hashNode_73 (by decide) ?_
      refine lv_istore_n (lv' := [(3, .int 1), (0, .ref (g 0)), (1, .int (nI ql)), (2, .int (nI qk))]) hx hb dX2_hashNode_74 rfl hl (by decide) rfl (fun ls hl => ?_)
      refine lv_aload_n hx hb dX2_hashNode_75 rfl (lv_at hl 1 rfl) ?_
      refine va_get (D := G) (ci := 2) (v := .ref (g 2)) (C := RX2) (T := TX2) (N := 12) hx hb hts hinX2 hown hK hP 0 rfl rfl 1 (by decide) (hts (.fieldLink RX2 30 "SealedPages" "hasher" "LSealedPages$Hasher;") (by decide +kernel)) (fun _ h => h) rfl dX2_hashNode_76 ?_
      refine lv_aload_n hx hb dX2_hashNode_79 rfl (lv_at hl 1 rfl) ?_
      refine va_get (D := G) (ci := 2) (v := .ref (g 3)) (C := RX2) (T := TX2) (N := 12) hx hb hts hinX2 hown hK hP 0 rfl rfl 2 (by decide) (hts (.fieldLink RX2 38 "SealedPages" "diskBytes" "[I") (by decide +kernel)) (fun _ h => h) rfl dX2_hashNode_80 ?_
      refine lv_aload_n hx hb dX2_hashNode_83 rfl (lv_at hl 1 rfl) ?_
      refine va_get (D := G) (ci := 2) (v := .ref (g 1)) (C := RX2) (T := TX2) (N := 12) hx hb hts hinX2 hown hK hP 0 rfl rfl 0 (by decide) (hts (.fieldLink RX2 23 "SealedPages" "layout" "LSealedPages$Layout;") (by decide +kernel)) (fun _ h => h) rfl dX2_hashNode_84 ?_
      refine lv_iload_n hx hb dX2_hashNode_87 rfl (lv_at hl 2 rfl) ?_
      refine lv_iconst (v := 1) hx hb dX2_hashNode_88 (by decide) ?_
      refine lv_isub hx hb dX2_hashNode_89 ?_
      refine x_eqi (y := nI (ql - 1)) (pk_sub (a := ql) (b := 1) (by omega)) ?_
      refine lv_iconst (v := 2) hx hb dX2_hashNode_90 (by decide) ?_
      refine lv_iload_n hx hb dX2_hashNode_91 rfl (lv_at hl 3 rfl) ?_
      refine lv_imul hx hb dX2_hashNode_92 ?_
      refine x_eqi (y := nI (2 * qk)) (pk_mul 2 qk) ?_
      refine x_vi ⟨hx, hb, hml, hown, hts⟩ (c_X1_placeOfNode l G cA tF tC g _ N hN D R F KD KR FL SU2 WO2 (nI (0 + 1 + 1)) kp rd wr ft (ql - 1) (2 * qk) (by omega)) (cwV 2 hts gX2_hashNode_X1_placeOfNode rfl rfl rfl (by decide +kernel) ⟨Nat.le_of_ble_eq_true rfl, Nat.le_of_ble_eq_true rfl⟩) hK hP hD hS hT rfl 1 1 rfl rfl rfl hl.1 rfl (Nat.le_of_ble_eq_true rfl) dX2_hashNode_93 ⟨Nat.le_refl _, Nat.le_refl _⟩ (fun r_10 u H locs hp_9 hP hD hS => ?_)
      have hP : va_P G vwCl (xW g cA N D R F KD KR FL SU2 WO2 (nI (0 + 1 + 1)) kp rd wr ft) _ := hP
      have hD : va_D _ (xW g cA N D R F KD KR FL SU2 WO2 (nI (0 + 1 + 1)) kp rd wr ft) := hD
      have hp_9 : r_10 = nI (plc N (ql - 1) (2 * qk)) := hp_9
      subst hp_9
      refine lv_iload_n hx hb dX2_hashNode_96 rfl (lv_at hl 0 rfl) ?_
      refine lv_bipush (v := 32) hx hb dX2_hashNode_97 (by decide) ?_
      refine lv_imul hx hb dX2_hashNode_99 ?_
      refine x_eqi (y := nI (1 * 32)) (pk_mul 1 32) ?_
      refine x_vv ⟨hx, hb, hml, hown, hts⟩ (c_X0_addRow_D l G cA tF tC g _ N hN D R F KD KR FL SU2 WO2 kp rd wr ft (0 + 1 + 1) zf (plc N (ql - 1) (2 * qk)) (1 * 32) hs2 (by omega) (fun q hq => by rw [ef, msg_2 (by omega), nbas_1 hq0]) (by omega)) (cwV 3 hts gX2_hashNode_X0_addRow rfl rfl rfl (by decide +kernel) ⟨Nat.le_of_ble_eq_true rfl, Nat.le_of_ble_eq_true rfl⟩) hK hP hD hS hT rfl 2 0 rfl rfl rfl hl.1 rfl (Nat.le_of_ble_eq_true rfl) dX2_hashNode_100 ⟨Nat.le_refl _, Nat.le_refl _⟩ (fun u H locs hs5 hP hD hS => ?_)
      obtain ⟨SU5, WO5⟩ := u
      have hP : va_P G vwCl (xW g cA N D R F KD KR FL SU5 WO5 (nI (0 + 1 + 1 + 1 * 32)) kp rd wr ft) _ := hP
      have hD : va_D _ (xW g cA N D R F KD KR FL SU5 WO5 (nI (0 + 1 + 1 + 1 * 32)) kp rd wr ft) := hD
      rw [← hlen] at hP hD
      refine lv_aload_n hx hb dX2_hashNode_103 rfl (lv_at hl 1 rfl) ?_
      refine va_get (D := G) (ci := 2) (v := .ref (g 2)) (C := RX2) (T := TX2) (N := 12) hx hb hts hinX2 hown hK hP 0 rfl rfl 1 (by decide) (hts (.fieldLink RX2 30 "SealedPages" "hasher" "LSealedPages$Hasher;") (by decide +kernel)) (fun _ h => h) rfl dX2_hashNode_104 ?_
      refine x_vv ⟨hx, hb, hml, hown, hts⟩ (c_X0_finish l G cA tF tC g _ N hN D R F KD KR FL SU5 WO5 kp rd wr ft (nlen N ql qk) (nmsg D ql qk (nbas N ql qk)) (by rw [← ef, hlen]; exact hs5) (by omega)) (cwV 0 hts gX2_hashNode_X0_finish rfl rfl rfl (by decide +kernel) ⟨Nat.le_of_ble_eq_true rfl, Nat.le_of_ble_eq_true rfl⟩) hK hP hD hS hT rfl 2 0 rfl rfl rfl hl.1 rfl (Nat.le_of_ble_eq_true rfl) dX2_hashNode_107 ⟨Nat.le_refl _, Nat.le_refl _⟩ (fun u H locs hs6 hP hD hS => ?_)
      obtain ⟨SU6, WO6⟩ := u
      have hP : va_P G vwCl (xW g cA N D R F KD KR FL SU6 WO6 (nI (64 * nbk (nlen N ql qk))) kp rd wr ft) _ := hP
      have hD : va_D _ (xW g cA N D R F KD KR FL SU6 WO6 (nI (64 * nbk (nlen N ql qk))) kp rd wr ft) := hD
      exact hret (SU6, WO6, nI (64 * nbk (nlen N ql qk))) _ _ _ _ dX2_hashNode_110 hP hD hS (hby_ag hs6)
    · skip
      have hq1 : 2 * qk + 1 < nod N (ql - 1) := Decidable.byContradiction (fun h => by rw [inN_n hN (by omega) (by omega), if_neg h] at c_8; exact c_8 rfl)
      have hlen : nlen N ql qk = 0 + 1 + 1 + 2 * 32 := nlen_2 hq0 hq1
      have hbl2 := hbl.2.2 hq1
      refine lv_iconst (v := 2) hx hb dX2_hashNode_69 (by decide) ?_
      refine lv_goto (tgt := 74) hx hb dX2_hashNode_70 (by decide) ?_
      refine lv_istore_n (lv' := [(3, .int 2), (0, .ref (g 0)), (1, .int (nI ql)), (2, .int (nI qk))]) hx hb dX2_hashNode_74 rfl hl (by decide) rfl (fun ls hl => ?_)
      refine lv_aload_n hx hb dX2_hashNode_75 rfl (lv_at hl 1 rfl) ?_
      refine va_get (D := G) (ci := 2) (v := .ref (g 2)) (C := RX2) (T := TX2) (N := 12) hx hb hts hinX2 hown hK hP 0 rfl rfl 1 (by decide) (hts (.fieldLink RX2 30 "SealedPages" "hasher" "LSealedPages$Hasher;") (by decide +kernel)) (fun _ h => h) rfl dX2_hashNode_76 ?_
      refine lv_aload_n hx hb dX2_hashNode_79 rfl (lv_at hl 1 rfl) ?_
      refine va_get (D := G) (ci := 2) (v := .ref (g 3)) (C := RX2) (T := TX2) (N := 12) hx hb hts hinX2 hown hK hP 0 rfl rfl 2 (by decide) (hts (.fieldLink RX2 38 "SealedPages" "diskBytes" "[I") (by decide +kernel)) (fun _ h => h) rfl dX2_hashNode_80 ?_
      refine lv_aload_n hx hb dX2_hashNode_83 rfl (lv_at hl 1 rfl) ?_
      refine va_get (D := G) (ci := 2) (v := .ref (g 1)) (C := RX2) (T := TX2) (N := 12) hx hb hts hinX2 hown hK hP 0 rfl rfl 0 (by decide) (hts (.fieldLink RX2 23 "SealedPages" "layout" "LSealedPages$Layout;") (by decide +kernel)) (fun _ h => h) rfl dX2_hashNode_84 ?_
      refine lv_iload_n hx hb dX2_hashNode_87 rfl (lv_at hl 2 rfl) ?_
      refine lv_iconst (v := 1) hx hb dX2_hashNode_88 (by decide) ?_
      refine lv_isub hx hb dX2_hashNode_89 ?_
      refine x_eqi (y := nI (ql - 1)) (pk_sub (a := ql) (b := 1) (by omega)) ?_
      refine lv_iconst (v := 2) hx hb dX2_hashNode_90 (by decide) ?_
      refine lv_iload_n hx hb dX2_hashNode_91 rfl (lv_at hl 3 rfl) ?_
      refine lv_imul hx hb dX2_hashNode_92 ?_
      refine x_eqi (y := nI (2 * qk)) (pk_mul 2 qk) ?_
      refine x_vi ⟨hx, hb, hml, hown, hts⟩ (c_X1_placeOfNode l G cA tF tC g _ N hN D R F KD KR FL SU2 WO2 (nI (0 + 1 + 1)) kp rd wr ft (ql - 1) (2 * qk) (by omega)) (cwV 2 hts gX2_hashNode_X1_placeOfNode rfl rfl rfl (by decide +kernel) ⟨Nat.le_of_ble_eq_true rfl, Nat.le_of_ble_eq_true rfl⟩) hK hP hD hS hT rfl 1 1 rfl rfl rfl hl.1 rfl (Nat.le_of_ble_eq_true rfl) dX2_hashNode_93 ⟨Nat.le_refl _, Nat.le_refl _⟩ (fun r_14 u H locs hp_13 hP hD hS => ?_)
      have hP : va_P G vwCl (xW g cA N D R F KD KR FL SU2 WO2 (nI (0 + 1 + 1)) kp rd wr ft) _ := hP
      have hD : va_D _ (xW g cA N D R F KD KR FL SU2 WO2 (nI (0 + 1 + 1)) kp rd wr ft) := hD
      have hp_13 : r_14 = nI (plc N (ql - 1) (2 * qk)) := hp_13
      subst hp_13
      refine lv_iload_n hx hb dX2_hashNode_96 rfl (lv_at hl 0 rfl) ?_
      refine lv_bipush (v := 32) hx hb dX2_hashNode_97 (by decide) ?_
      refine lv_imul hx hb dX2_hashNode_99 ?_
      refine x_eqi (y := nI (2 * 32)) (pk_mul 2 32) ?_
      refine x_vv ⟨hx, hb, hml, hown, hts⟩ (c_X0_addRow_D l G cA tF tC g _ N hN D R F KD KR FL SU2 WO2 kp rd wr ft (0 + 1 + 1) zf (plc N (ql - 1) (2 * qk)) (2 * 32) hs2 (by omega) (fun q hq => by rw [ef, msg_2 (by omega), nbas_1 hq0]) (by omega)) (cwV 3 hts gX2_hashNode_X0_addRow rfl rfl rfl (by decide +kernel) ⟨Nat.le_of_ble_eq_true rfl, Nat.le_of_ble_eq_true rfl⟩) hK hP hD hS hT rfl 2 0 rfl rfl rfl hl.1 rfl (Nat.le_of_ble_eq_true rfl) dX2_hashNode_100 ⟨Nat.le_refl _, Nat.le_refl _⟩ (fun u H locs hs5 hP hD hS => ?_)
      obtain ⟨SU5, WO5⟩ := u
      have hP : va_P G vwCl (xW g cA N D R F KD KR FL SU5 WO5 (nI (0 + 1 + 1 + 2 * 32)) kp rd wr ft) _ := hP
      have hD : va_D _ (xW g cA N D R F KD KR FL SU5 WO5 (nI (0 + 1 + 1 + 2 * 32)) kp rd wr ft) := hD
      rw [← hlen] at hP hD
      refine lv_aload_n hx hb dX2_hashNode_103 rfl (lv_at hl 1 rfl) ?_
      refine va_get (D := G) (ci := 2) (v := .ref (g 2)) (C := RX2) (T := TX2) (N := 12) hx hb hts hinX2 hown hK hP 0 rfl rfl 1 (by decide) (hts (.fieldLink RX2 30 "SealedPages" "hasher" "LSealedPages$Hasher;") (by decide +kernel)) (fun _ h => h) rfl dX2_hashNode_104 ?_
      refine x_vv ⟨hx, hb, hml, hown, hts⟩ (c_X0_finish l G cA tF tC g _ N hN D R F KD KR FL SU5 WO5 kp rd wr ft (nlen N ql qk) (nmsg D ql qk (nbas N ql qk)) (by rw [← ef, hlen]; exact hs5) (by omega)) (cwV 0 hts gX2_hashNode_X0_finish rfl rfl rfl (by decide +kernel) ⟨Nat.le_of_ble_eq_true rfl, Nat.le_of_ble_eq_true rfl⟩) hK hP hD hS hT rfl 2 0 rfl rfl rfl hl.1 rfl (Nat.le_of_ble_eq_true rfl) dX2_hashNode_107 ⟨Nat.le_refl _, Nat.le_refl _⟩ (fun u H locs hs6 hP hD hS => ?_)
      obtain ⟨SU6, WO6⟩ := u
      have hP : va_P G vwCl (xW g cA N D R F KD KR FL SU6 WO6 (nI (64 * nbk (nlen N ql qk))) kp rd wr ft) _ := hP
      have hD : va_D _ (xW g cA N D R F KD KR FL SU6 WO6 (nI (64 * nbk (nlen N ql qk))) kp rd wr ft) := hD
      exact hret (SU6, WO6, nI (64 * nbk (nlen N ql qk))) _ _ _ _ dX2_hashNode_110 hP hD hS (hby_ag hs6)
  · skip
    have c_5 : ql = 0 := (nI_eq (a := ql) (b := 0) (by omega) (by omega)).mp c_5
    have hq0 : ql = 0 := c_5
    have hlen : nlen N ql qk = 0 + 1 + 1 + 64 := by rw [hq0]; rfl
    have hba : nbas N ql qk = 8 + 64 * qk := by rw [hq0]; rfl
    have hpg := hpg hq0
    refine lv_aload_n hx hb dX2_hashNode_27 rfl (lv_at hl 0 rfl) ?_
    refine va_get (D := G) (ci := 2) (v := .ref (g 2)) (C := RX2) (T := TX2) (N := 12) hx hb hts hinX2 hown hK hP 0 rfl rfl 1 (by decide) (hts (.fieldLink RX2 30 "SealedPages" "hasher" "LSealedPages$Hasher;") (by decide +kernel)) (fun _ h => h) rfl dX2_hashNode_28 ?_
    refine lv_aload_n hx hb dX2_hashNode_31 rfl (lv_at hl 0 rfl) ?_
    refine va_get (D := G) (ci := 2) (v := .ref (g 3)) (C := RX2) (T := TX2) (N := 12) hx hb hts hinX2 hown hK hP 0 rfl rfl 2 (by decide) (hts (.fieldLink RX2 38 "SealedPages" "diskBytes" "[I") (by decide +kernel)) (fun _ h => h) rfl dX2_hashNode_32 ?_
    refine lv_aload_n hx hb dX2_hashNode_35 rfl (lv_at hl 0 rfl) ?_
    refine va_get (D := G) (ci := 2) (v := .ref (g 1)) (C := RX2) (T := TX2) (N := 12) hx hb hts hinX2 hown hK hP 0 rfl rfl 0 (by decide) (hts (.fieldLink RX2 23 "SealedPages" "layout" "LSealedPages$Layout;") (by decide +kernel)) (fun _ h => h) rfl dX2_hashNode_36 ?_
    refine lv_iload_n hx hb dX2_hashNode_39 rfl (lv_at hl 2 rfl) ?_
    refine x_vi ⟨hx, hb, hml, hown, hts⟩ (c_X1_placeOfPage l G cA tF tC g _ N hN D R F KD KR FL SU2 WO2 (nI (0 + 1 + 1)) kp rd wr ft qk) (cwV 1 hts gX2_hashNode_X1_placeOfPage rfl rfl rfl (by decide +kernel) ⟨Nat.le_of_ble_eq_true rfl, Nat.le_of_ble_eq_true rfl⟩) hK hP hD hS hT rfl 1 1 rfl rfl rfl hl.1 rfl (Nat.le_of_ble_eq_true rfl) dX2_hashNode_40 ⟨Nat.le_refl _, Nat.le_refl _⟩ (fun r_18 u H locs hp_17 hP hD hS => ?_)
    have hP : va_P G vwCl (xW g cA N D R F KD KR FL SU2 WO2 (nI (0 + 1 + 1)) kp rd wr ft) _ := hP
    have hD : va_D _ (xW g cA N D R F KD KR FL SU2 WO2 (nI (0 + 1 + 1)) kp rd wr ft) := hD
    have hp_17 : r_18 = nI (8 + 64 * qk) := hp_17
    subst hp_17
    refine lv_bipush (v := 64) hx hb dX2_hashNode_43 (by decide) ?_
    refine x_vv ⟨hx, hb, hml, hown, hts⟩ (c_X0_addRow_D l G cA tF tC g _ N hN D R F KD KR FL SU2 WO2 kp rd wr ft (0 + 1 + 1) zf (8 + 64 * qk) 64 hs2 hpg (fun q hq => by rw [ef, msg_2 (by omega), hba]) (by omega)) (cwV 3 hts gX2_hashNode_X0_addRow rfl rfl rfl (by decide +kernel) ⟨Nat.le_of_ble_eq_true rfl, Nat.le_of_ble_eq_true rfl⟩) hK hP hD hS hT rfl 2 0 rfl rfl rfl hl.1 rfl (Nat.le_of_ble_eq_true rfl) dX2_hashNode_45 ⟨Nat.le_refl _, Nat.le_refl _⟩ (fun u H locs hs5 hP hD hS => ?_)
    obtain ⟨SU5, WO5⟩ := u
    have hP : va_P G vwCl (xW g cA N D R F KD KR FL SU5 WO5 (nI (0 + 1 + 1 + 64)) kp rd wr ft) _ := hP
    have hD : va_D _ (xW g cA N D R F KD KR FL SU5 WO5 (nI (0 + 1 + 1 + 64)) kp rd wr ft) := hD
    refine lv_goto (tgt := 103) hx hb dX2_hashNode_48 (by decide) ?_
    rw [← hlen] at hP hD
    refine lv_aload_n hx hb dX2_hashNode_103 rfl (lv_at hl 0 rfl) ?_
    refine va_get (D := G) (ci := 2) (v := .ref (g 2)) (C := RX2) (T := TX2) (N := 12) hx hb hts hinX2 hown hK hP 0 rfl rfl 1 (by decide) (hts (.fieldLink RX2 30 "SealedPages" "hasher" "LSealedPages$Hasher;") (by decide +kernel)) (fun _ h => h) rfl dX2_hashNode_104 ?_
    refine x_vv ⟨hx, hb, hml, hown, hts⟩ (c_X0_finish l G cA tF tC g _ N hN D R F KD KR FL SU5 WO5 kp rd wr ft (nlen N ql qk) (nmsg D ql qk (nbas N ql qk)) (by rw [← ef, hlen]; exact hs5) (by omega)) (cwV 0 hts gX2_hashNode_X0_finish rfl rfl rfl (by decide +kernel) ⟨Nat.le_of_ble_eq_true rfl, Nat.le_of_ble_eq_true rfl⟩) hK hP hD hS hT rfl 2 0 rfl rfl rfl hl.1 rfl (Nat.le_of_ble_eq_true rfl) dX2_hashNode_107 ⟨Nat.le_refl _, Nat.le_refl _⟩ (fun u H locs hs6 hP hD hS => ?_)
    obtain ⟨SU6, WO6⟩ := u
    have hP : va_P G vwCl (xW g cA N D R F KD KR FL SU6 WO6 (nI (64 * nbk (nlen N ql qk))) kp rd wr ft) _ := hP
    have hD : va_D _ (xW g cA N D R F KD KR FL SU6 WO6 (nI (64 * nbk (nlen N ql qk))) kp rd wr ft) := hD
    exact hret (SU6, WO6, nI (64 * nbk (nlen N ql qk))) _ _ _ _ dX2_hashNode_110 hP hD hS (hby_ag hs6)

set_option maxHeartbeats 4000000 in
set_option maxRecDepth 100000 in
theorem c_X2_hashHeadAndLastNode (l : Launch) (G : va_G) (cA : ClassId) (tF tC : Nat) (g : Nat → Nat) (sz N : Nat) (hN : 1 ≤ N ∧ N ≤ 64) (D R F KD KR FL SU WO : Nat → Int32) (ln kp rd wr ft : Int32)  : CV l yX2_hashHeadAndLastNode wsX2_hashHeadAndLastNode 3 80 G cA tF tC g 13 sz (xW g cA N D R F KD KR FL SU WO ln kp rd wr ft) [.ref (g 0)] (fun (u : (Nat → Int32) × (Nat → Int32) × Int32) => xW g cA N D R F KD KR FL u.1 u.2.1 u.2.2 kp rd wr ft) (fun u => ag 32 (hby u.1) (rsha N D)) := by
  refine x_entryV (cc := cX2_hashHeadAndLastNode) (maxL := 1) (by decide) rfl (fun _ => rfl) (Nat.le_of_ble_eq_true rfl) ?_
  intro p e s m args below meth c Q hx hb hml hown hts hK hP hD hS hT hret ls hl
  have hown : s.vm.findClass RX2 = some m.cls := hown
  have hl : lv_has ls 1 [(0, .ref (g 0))] := hl
  have hinX1 : ∀ w ∈ wsX10, w ∈ wsX2_hashHeadAndLastNode := by decide +kernel
  have hinX2 : ∀ w ∈ wsX20, w ∈ wsX2_hashHeadAndLastNode := by decide +kernel
  have hz := siz_le hN
  have hse := siz_eq N
  have hnd := nds_le hN
  have hlv := lvs_in hN
  have hpl := plc_in hN (show lvs N - 1 < lvs N by omega) (show 0 < nod N (lvs N - 1) by rw [nod_last hN]; omega)
  obtain ⟨zf, ef⟩ : ∃ z, z = pad (rmsg N D) 40 := ⟨_, rfl⟩
  have hs0 : Str zf (va_cpy hC SU 0 0 8) WO 0 := Str0 (cpy_hC SU)
  refine lv_aload_n hx hb dX2_hashHeadAndLastNode_0 rfl (lv_at hl 0 rfl) ?_
  refine va_get (D := G) (ci := 2) (v := .ref (g 2)) (C := RX2) (T := TX2) (N := 12) hx hb hts hinX2 hown hK hP 0 rfl rfl 1 (by decide) (hts (.fieldLink RX2 30 "SealedPages" "hasher" "LSealedPages$Hasher;") (by decide +kernel)) (fun _ h => h) rfl dX2_hashHeadAndLastNode_1 ?_
  refine x_vv ⟨hx, hb, hml, hown, hts⟩ (c_X0_begin l G cA tF tC g _ N hN D R F KD KR FL SU WO ln kp rd wr ft ) (cwV 0 hts gX2_hashHeadAndLastNode_X0_begin rfl rfl rfl (by decide +kernel) ⟨Nat.le_of_ble_eq_true rfl, Nat.le_of_ble_eq_true rfl⟩) hK hP hD hS hT rfl 2 0 rfl rfl rfl hl.1 rfl (Nat.le_of_ble_eq_true rfl) dX2_hashHeadAndLastNode_4 ⟨Nat.le_refl _, Nat.le_refl _⟩ (fun u H locs hp_1 hP hD hS => ?_)
  have hP : va_P G vwCl (xW g cA N D R F KD KR FL (va_cpy hC SU 0 0 8) WO (nI 0) kp rd wr ft) _ := hP
  have hD : va_D _ (xW g cA N D R F KD KR FL (va_cpy hC SU 0 0 8) WO (nI 0) kp rd wr ft) := hD
  refine lv_aload_n hx hb dX2_hashHeadAndLastNode_7 rfl (lv_at hl 0 rfl) ?_
  refine va_get (D := G) (ci := 2) (v := .ref (g 2)) (C := RX2) (T := TX2) (N := 12) hx hb hts hinX2 hown hK hP 0 rfl rfl 1 (by decide) (hts (.fieldLink RX2 30 "SealedPages" "hasher" "LSealedPages$Hasher;") (by decide +kernel)) (fun _ h => h) rfl dX2_hashHeadAndLastNode_8 ?_
  refine lv_aload_n hx hb dX2_hashHeadAndLastNode_11 rfl (lv_at hl 0 rfl) ?_
  refine va_get (D := G) (ci := 2) (v := .ref (g 3)) (C := RX2) (T := TX2) (N := 12) hx hb hts hinX2 hown hK hP 0 rfl rfl 2 (by decide) (hts (.fieldLink RX2 38 "SealedPages" "diskBytes" "[I") (by decide +kernel)) (fun _ h => h) rfl dX2_hashHeadAndLastNode_12 ?_
  refine lv_iconst (v := 0) hx hb dX2_hashHeadAndLastNode_15 (by decide) ?_
  refine lv_bipush (v := 8) hx hb dX2_hashHeadAndLastNode_16 (by decide) ?_
  refine x_vv ⟨hx, hb, hml, hown, hts⟩ (c_X0_addRow_D l G cA tF tC g _ N hN D R F KD KR FL (va_cpy hC SU 0 0 8) WO kp rd wr ft 0 zf 0 8 hs0 (by omega) (fun q hq => by rw [ef, rmsg_a hq]) (by omega)) (cwV 3 hts gX2_hashHeadAndLastNode_X0_addRow rfl rfl rfl (by decide +kernel) ⟨Nat.le_of_ble_eq_true rfl, Nat.le_of_ble_eq_true rfl⟩) hK hP hD hS hT rfl 2 0 rfl rfl rfl hl.1 rfl (Nat.le_of_ble_eq_true rfl) dX2_hashHeadAndLastNode_18 ⟨Nat.le_refl _, Nat.le_refl _⟩ (fun u H locs hs1 hP hD hS => ?_)
  obtain ⟨SU1, WO1⟩ := u
  have hP : va_P G vwCl (xW g cA N D R F KD KR FL SU1 WO1 (nI (0 + 8)) kp rd wr ft) _ := hP
  have hD : va_D _ (xW g cA N D R F KD KR FL SU1 WO1 (nI (0 + 8)) kp rd wr ft) := hD
  refine lv_aload_n hx hb dX2_hashHeadAndLastNode_21 rfl (lv_at hl 0 rfl) ?_
  refine va_get (D := G) (ci := 2) (v := .ref (g 2)) (C := RX2) (T := TX2) (N := 12) hx hb hts hinX2 hown hK hP 0 rfl rfl 1 (by decide) (hts (.fieldLink RX2 30 "SealedPages" "hasher" "LSealedPages$Hasher;") (by decide +kernel)) (fun _ h => h) rfl dX2_hashHeadAndLastNode_22 ?_
  refine lv_aload_n hx hb dX2_hashHeadAndLastNode_25 rfl (lv_at hl 0 rfl) ?_
  refine va_get (D := G) (ci := 2) (v := .ref (g 3)) (C := RX2) (T := TX2) (N := 12) hx hb hts hinX2 hown hK hP 0 rfl rfl 2 (by decide) (hts (.fieldLink RX2 38 "SealedPages" "diskBytes" "[I") (by decide +kernel)) (fun _ h => h) rfl dX2_hashHeadAndLastNode_26 ?_
  refine lv_aload_n hx hb dX2_hashHeadAndLastNode_29 rfl (lv_at hl 0 rfl) ?_
  refine va_get (D := G) (ci := 2) (v := .ref (g 1)) (C := RX2) (T := TX2) (N := 12) hx hb hts hinX2 hown hK hP 0 rfl rfl 0 (by decide) (hts (.fieldLink RX2 23 "SealedPages" "layout" "LSealedPages$Layout;") (by decide +kernel)) (fun _ h => h) rfl dX2_hashHeadAndLastNode_30 ?_
  refine lv_aload_n hx hb dX2_hashHeadAndLastNode_33 rfl (lv_at hl 0 rfl) ?_
  refine va_get (D := G) (ci := 2) (v := .ref (g 1)) (C := RX2) (T := TX2) (N := 12) hx hb hts hinX2 hown hK hP 0 rfl rfl 0 (by decide) (hts (.fieldLink RX2 23 "SealedPages" "layout" "LSealedPages$Layout;") (by decide +kernel)) (fun _ h => h) rfl dX2_hashHeadAndLastNode_34 ?_
  refine va_get (D := G) (ci := 1) (v := .int (nI (lvs N))) (C := RX1) (T := TX1) (N := 6) hx hb hts hinX1 hown hK hP 1 rfl rfl 1 (by decide) (hts (.fieldLink RX2 100 "SealedPages$Layout" "levelCount" "I") (by decide +kernel)) (fun _ h => h) rfl dX2_hashHeadAndLastNode_37 ?_
  refine lv_iconst (v := 1) hx hb dX2_hashHeadAndLastNode_40 (by decide) ?_
  refine lv_isub hx hb dX2_hashHeadAndLastNode_41 ?_
  refine x_eqi (y := nI ((lvs N) - 1)) (pk_sub (a := lvs N) (b := 1) (by omega)) ?_
  refine lv_iconst (v := 0) hx hb dX2_hashHeadAndLastNode_42 (by decide) ?_
  refine x_vi ⟨hx, hb, hml, hown, hts⟩ (c_X1_placeOfNode l G cA tF tC g _ N hN D R F KD KR FL SU1 WO1 (nI (0 + 8)) kp rd wr ft (lvs N - 1) 0 (by omega)) (cwV 2 hts gX2_hashHeadAndLastNode_X1_placeOfNode rfl rfl rfl (by decide +kernel) ⟨Nat.le_of_ble_eq_true rfl, Nat.le_of_ble_eq_true rfl⟩) hK hP hD hS hT rfl 1 1 rfl rfl rfl hl.1 rfl (Nat.le_of_ble_eq_true rfl) dX2_hashHeadAndLastNode_43 ⟨Nat.le_refl _, Nat.le_refl _⟩ (fun r_5 u H locs hp_4 hP hD hS => ?_)
  have hP : va_P G vwCl (xW g cA N D R F KD KR FL SU1 WO1 (nI (0 + 8)) kp rd wr ft) _ := hP
  have hD : va_D _ (xW g cA N D R F KD KR FL SU1 WO1 (nI (0 + 8)) kp rd wr ft) := hD
  have hp_4 : r_5 = nI (plc N (lvs N - 1) 0) := hp_4
  subst hp_4
  refine lv_bipush (v := 32) hx hb dX2_hashHeadAndLastNode_46 (by decide) ?_
  refine x_vv ⟨hx, hb, hml, hown, hts⟩ (c_X0_addRow_D l G cA tF tC g _ N hN D R F KD KR FL SU1 WO1 kp rd wr ft (0 + 8) zf (plc N (lvs N - 1) 0) 32 hs1 (by omega) (fun q hq => by rw [ef, rmsg_b hq]) (by omega)) (cwV 3 hts gX2_hashHeadAndLastNode_X0_addRow rfl rfl rfl (by decide +kernel) ⟨Nat.le_of_ble_eq_true rfl, Nat.le_of_ble_eq_true rfl⟩) hK hP hD hS hT rfl 2 0 rfl rfl rfl hl.1 rfl (Nat.le_of_ble_eq_true rfl) dX2_hashHeadAndLastNode_48 ⟨Nat.le_refl _, Nat.le_refl _⟩ (fun u H locs hs5 hP hD hS => ?_)
  obtain ⟨SU5, WO5⟩ := u
  have hP : va_P G vwCl (xW g cA N D R F KD KR FL SU5 WO5 (nI (0 + 8 + 32)) kp rd wr ft) _ := hP
  have hD : va_D _ (xW g cA N D R F KD KR FL SU5 WO5 (nI (0 + 8 + 32)) kp rd wr ft) := hD
  refine lv_aload_n hx hb dX2_hashHeadAndLastNode_51 rfl (lv_at hl 0 rfl) ?_
  refine va_get (D := G) (ci := 2) (v := .ref (g 2)) (C := RX2) (T := TX2) (N := 12) hx hb hts hinX2 hown hK hP 0 rfl rfl 1 (by decide) (hts (.fieldLink RX2 30 "SealedPages" "hasher" "LSealedPages$Hasher;") (by decide +kernel)) (fun _ h => h) rfl dX2_hashHeadAndLastNode_52 ?_
  refine x_vv ⟨hx, hb, hml, hown, hts⟩ (c_X0_finish l G cA tF tC g _ N hN D R F KD KR FL SU5 WO5 kp rd wr ft 40 (rmsg N D) (by rw [← ef]; exact hs5) (by omega)) (cwV 0 hts gX2_hashHeadAndLastNode_X0_finish rfl rfl rfl (by decide +kernel) ⟨Nat.le_of_ble_eq_true rfl, Nat.le_of_ble_eq_true rfl⟩) hK hP hD hS hT rfl 2 0 rfl rfl rfl hl.1 rfl (Nat.le_of_ble_eq_true rfl) dX2_hashHeadAndLastNode_55 ⟨Nat.le_refl _, Nat.le_refl _⟩ (fun u H locs hs6 hP hD hS => ?_)
  obtain ⟨SU6, WO6⟩ := u
  have hP : va_P G vwCl (xW g cA N D R F KD KR FL SU6 WO6 (nI (64 * nbk 40)) kp rd wr ft) _ := hP
  have hD : va_D _ (xW g cA N D R F KD KR FL SU6 WO6 (nI (64 * nbk 40)) kp rd wr ft) := hD
  exact hret (SU6, WO6, nI (64 * nbk 40)) _ _ _ _ dX2_hashHeadAndLastNode_58 hP hD hS (hby_ag hs6)

set_option maxHeartbeats 4000000 in
set_option maxRecDepth 100000 in
theorem c_X2_faultAboveTree (l : Launch) (G : va_G) (cA : ClassId) (tF tC : Nat) (g : Nat → Nat) (sz N : Nat) (hN : 1 ≤ N ∧ N ≤ 64) (D R F KD KR FL SU WO : Nat → Int32) (ln kp rd wr ft : Int32)  : CI l yX2_faultAboveTree wsX2_faultAboveTree 4 100 G cA tF tC g 13 sz (xW g cA N D R F KD KR FL SU WO ln kp rd wr ft) [.ref (g 0)] (fun (u : (Nat → Int32) × (Nat → Int32) × Int32) => xW g cA N D R F KD KR FL u.1 u.2.1 u.2.2 kp rd wr ft) (fun r _ => r = nI (fltA N D R)) := by
  refine x_entryI (cc := cX2_faultAboveTree) (maxL := 2) (by decide) rfl (fun _ => rfl) (Nat.le_of_ble_eq_true rfl) ?_
  intro p e s m args below meth c Q hx hb hml hown hts hK hP hD hS hT hret ls hl
  have hown : s.vm.findClass RX2 = some m.cls := hown
  have hl : lv_has ls 2 [(0, .ref (g 0))] := hl
  have hinX2 : ∀ w ∈ wsX20, w ∈ wsX2_faultAboveTree := by decide +kernel
  have hz := siz_le hN
  have hse := siz_eq N
  have hnd := nds_le hN
  have hlv := lvs_in hN
  refine lv_iconst (v := 0) hx hb dX2_faultAboveTree_0 (by decide) ?_
  refine lv_istore_n (lv' := [(1, .int 0), (0, .ref (g 0))]) hx hb dX2_faultAboveTree_1 rfl hl (by decide) rfl (fun ls hl => ?_)
  have loop_2 : ∀ (n_2 : Nat) (zi : Nat), (8 - zi) < n_2 → zi ≤ 8 → eqN D (hed N) zi = true → ∀ (H : Heap) (locs : List Loc) (ls : Array Slot), va_P G vwCl (xW g cA N D R F KD KR FL SU WO ln kp rd wr ft) H → va_D (wA g 13 s.heap.size) (xW g cA N D R F KD KR FL SU WO ln kp rd wr ft) → va_S (wA g 13 s.heap.size) s.heap H locs → lv_has ls 2 [(0, .ref (g 0)), (1, .int (nI zi))] → W p l e { frames := 4, cells := 0, slots := 0, locals := 100 } s m args below meth c H locs 0 0 Q (F0 m 2 ls []) := by
    intro n_2
    induction n_2 with
    | zero => intro zi hm_2; exact absurd hm_2 (Nat.not_lt_zero _)
    | succ n_2 ih_2 =>
      intro zi hm_2 hi he H locs ls hP hD hS hl
      refine lv_iload_n hx hb dX2_faultAboveTree_2 rfl (lv_at hl 1 rfl) ?_
      refine lv_bipush (v := 8) hx hb dX2_faultAboveTree_3 (by decide) ?_
      refine lv_icmp_ge (tgt := 30) hx hb dX2_faultAboveTree_5 (by decide) (fun c_1 => ?_) (fun c_1 => ?_)
      · skip
        have c_1 : 8 ≤ zi := (nI_leI (a := 8) (b := zi) (by omega) (by omega)).mp c_1
        obtain rfl : zi = 8 := by omega
        have hhok : hok N D = true := he
        have hl : lv_has ls 2 [(0, .ref (g 0)), (1, .int (nI 8))] := hl
        refine lv_aload_n hx hb dX2_faultAboveTree_30 rfl (lv_at hl 0 rfl) ?_
        refine x_vv ⟨hx, hb, hml, hown, hts⟩ (c_X2_hashHeadAndLastNode l G cA tF tC g _ N hN D R F KD KR FL SU WO ln kp rd wr ft ) (cwV 0 hts gX2_faultAboveTree_X2_hashHeadAndLastNode rfl rfl rfl (by decide +kernel) ⟨Nat.le_of_ble_eq_true rfl, Nat.le_of_ble_eq_true rfl⟩) hK hP hD hS hT rfl 0 2 rfl rfl rfl hl.1 rfl (Nat.le_of_ble_eq_true rfl) dX2_faultAboveTree_31 ⟨Nat.le_refl _, Nat.le_refl _⟩ (fun u H locs hs1 hP hD hS => ?_)
        obtain ⟨SU1, WO1, ln1⟩ := u
        have hP : va_P G vwCl (xW g cA N D R F KD KR FL SU1 WO1 ln1 kp rd wr ft) _ := hP
        have hD : va_D _ (xW g cA N D R F KD KR FL SU1 WO1 ln1 kp rd wr ft) := hD
        refine lv_aload_n hx hb dX2_faultAboveTree_34 rfl (lv_at hl 0 rfl) ?_
        refine va_get (D := G) (ci := 2) (v := .ref (g 2)) (C := RX2) (T := TX2) (N := 12) hx hb hts hinX2 hown hK hP 0 rfl rfl 1 (by decide) (hts (.fieldLink RX2 30 "SealedPages" "hasher" "LSealedPages$Hasher;") (by decide +kernel)) (fun _ h => h) rfl dX2_faultAboveTree_35 ?_
        refine lv_aload_n hx hb dX2_faultAboveTree_38 rfl (lv_at hl 0 rfl) ?_
        refine va_get (D := G) (ci := 2) (v := .ref (g 4)) (C := RX2) (T := TX2) (N := 12) hx hb hts hinX2 hown hK hP 0 rfl rfl 3 (by decide) (hts (.fieldLink RX2 42 "SealedPages" "rootBytes" "[I") (by decide +kernel)) (fun _ h => h) rfl dX2_faultAboveTree_39 ?_
        refine lv_iconst (v := 0) hx hb dX2_faultAboveTree_42 (by decide) ?_
        refine x_vi ⟨hx, hb, hml, hown, hts⟩ (c_X0_resultIsAt_R l G cA tF tC g _ N hN D R F KD KR FL SU1 WO1 ln1 kp rd wr ft 0 (by omega)) (cwV 2 hts gX2_faultAboveTree_X0_resultIsAt rfl rfl rfl (by decide +kernel) ⟨Nat.le_of_ble_eq_true rfl, Nat.le_of_ble_eq_true rfl⟩) hK hP hD hS hT rfl 2 0 rfl rfl rfl hl.1 rfl (Nat.le_of_ble_eq_true rfl) dX2_faultAboveTree_43 ⟨Nat.le_refl _, Nat.le_refl _⟩ (fun r_3 u H locs hb9 hP hD hS => ?_)
        have hP : va_P G vwCl (xW g cA N D R F KD KR FL SU1 WO1 ln1 kp rd wr ft) _ := hP
        have hD : va_D _ (xW g cA N D R F KD KR FL SU1 WO1 ln1 kp rd wr ft) := hD
        have hb9 : r_3 = bI (rok N D R) := by rw [hb9, eqN_cong (f := fun zi => R (0 + zi)) (f' := R) (h := hby SU1) (h' := rsha N D) (fun zj hj => by show R (0 + zj) = R zj; rw [Nat.zero_add]) hs1]; rfl
        subst hb9
        refine lv_if_eq (tgt := 53) hx hb dX2_faultAboveTree_46 (by decide) (fun c_4 => ?_) (fun c_4 => ?_)
        · skip
          have hc := c_4
          refine lv_iconst (v := 2) hx hb dX2_faultAboveTree_53 (by decide) ?_
          exact hret _ (SU1, WO1, ln1) _ _ _ _ dX2_faultAboveTree_54 hP hD hS (by rw [fltA_b hhok]; first | (rw [if_pos (bI_1 hc)]; rfl) | (rw [bI_0 hc]; rfl))
        · skip
          have hc := c_4
          refine lv_iconst (v := 0) hx hb dX2_faultAboveTree_49 (by decide) ?_
          refine lv_goto (tgt := 54) hx hb dX2_faultAboveTree_50 (by decide) ?_
          exact hret _ (SU1, WO1, ln1) _ _ _ _ dX2_faultAboveTree_54 hP hD hS (by rw [fltA_b hhok]; first | (rw [if_pos (bI_1 hc)]; rfl) | (rw [bI_0 hc]; rfl))
      · skip
        have c_1 : ¬ 8 ≤ zi := fun z => c_1 ((nI_leI (a := 8) (b := zi) (by omega) (by omega)).mpr z)
        refine lv_aload_n hx hb dX2_faultAboveTree_8 rfl (lv_at hl 0 rfl) ?_
        refine va_get (D := G) (ci := 2) (v := .ref (g 3)) (C := RX2) (T := TX2) (N := 12) hx hb hts hinX2 hown hK hP 0 rfl rfl 2 (by decide) (hts (.fieldLink RX2 38 "SealedPages" "diskBytes" "[I") (by decide +kernel)) (fun _ h => h) rfl dX2_faultAboveTree_9 ?_
        refine lv_iload_n hx hb dX2_faultAboveTree_12 rfl (lv_at hl 1 rfl) ?_
        refine x_ald (i := zi) hx hb hK hP 3 0 rfl rfl (by omega) (by have := siz_le hN; have := nds_le hN; omega) dX2_faultAboveTree_13 ?_
        refine lv_aload_n hx hb dX2_faultAboveTree_14 rfl (lv_at hl 0 rfl) ?_
        refine lv_iload_n hx hb dX2_faultAboveTree_15 rfl (lv_at hl 1 rfl) ?_
        refine x_vi ⟨hx, hb, hml, hown, hts⟩ (c_X2_headByteAsTold l G cA tF tC g _ N hN D R F KD KR FL SU WO ln kp rd wr ft zi (by omega)) (cwV 1 hts gX2_faultAboveTree_X2_headByteAsTold rfl rfl rfl (by decide +kernel) ⟨Nat.le_of_ble_eq_true rfl, Nat.le_of_ble_eq_true rfl⟩) hK hP hD hS hT rfl 0 2 rfl rfl rfl hl.1 rfl (Nat.le_of_ble_eq_true rfl) dX2_faultAboveTree_16 ⟨Nat.le_refl _, Nat.le_refl _⟩ (fun r_6 u H locs hp_5 hP hD hS => ?_)
        have hP : va_P G vwCl (xW g cA N D R F KD KR FL SU WO ln kp rd wr ft) _ := hP
        have hD : va_D _ (xW g cA N D R F KD KR FL SU WO ln kp rd wr ft) := hD
        have hp_5 : r_6 = hed N zi := hp_5
        subst hp_5
        refine lv_icmp_eq (tgt := 24) hx hb dX2_faultAboveTree_19 (by decide) (fun c_7 => ?_) (fun c_7 => ?_)
        · skip
          have hc := c_7
          refine lv_iinc (v := nI (zi + 1)) (lv' := [(1, .int (nI (zi + 1))), (0, .ref (g 0))]) hx hb dX2_faultAboveTree_24 hl (k := 1) rfl (nI_1 _) (by decide) rfl (fun ls hl => ?_)
          refine lv_goto (tgt := 2) hx hb dX2_faultAboveTree_27 (by decide) ?_
          exact ih_2 (zi + 1) (by omega) (by omega) (by rw [eqN_s, he]; simp [hc]) _ _ _ hP hD hS (lv_sub hl [1, 0] rfl)
        · skip
          have hc := c_7
          refine lv_iconst (v := 1) hx hb dX2_faultAboveTree_22 (by decide) ?_
          exact hret _ (SU, WO, ln) _ _ _ _ dX2_faultAboveTree_23 hP hD hS (by rw [fltA_1 (eqN_no (f := D) (h := hed N) hc (show zi < 8 by omega))]; rfl)
  exact loop_2 _ 0 (Nat.lt_succ_self _) (by omega) rfl _ _ _ hP hD hS (lv_sub hl [1, 0] rfl)

set_option maxHeartbeats 4000000 in
set_option maxRecDepth 100000 in
theorem c_X2_faultOfNode (l : Launch) (G : va_G) (cA : ClassId) (tF tC : Nat) (g : Nat → Nat) (sz N : Nat) (hN : 1 ≤ N ∧ N ≤ 64) (D R F KD KR FL SU WO : Nat → Int32) (ln kp rd wr ft : Int32) (ql qk : Nat) (hql : ql < lvs N) (hqk : qk < nod N ql) : CI l yX2_faultOfNode wsX2_faultOfNode 4 103 G cA tF tC g 13 sz (xW g cA N D R F KD KR FL SU WO ln kp rd wr ft) [.ref (g 0), .int (nI ql), .int (nI qk)] (fun (u : (Nat → Int32) × (Nat → Int32) × Int32) => xW g cA N D R F KD KR FL u.1 u.2.1 u.2.2 kp rd wr ft) (fun r _ => r = nI (nf N D ql qk)) := by
  refine x_entryI (cc := cX2_faultOfNode) (maxL := 3) (by decide) rfl (fun _ => rfl) (Nat.le_of_ble_eq_true rfl) ?_
  intro p e s m args below meth c Q hx hb hml hown hts hK hP hD hS hT hret ls hl
  have hown : s.vm.findClass RX2 = some m.cls := hown
  have hl : lv_has ls 3 [(0, .ref (g 0)), (1, .int (nI ql)), (2, .int (nI qk))] := hl
  have hinX2 : ∀ w ∈ wsX20, w ∈ wsX2_faultOfNode := by decide +kernel
  have hz := siz_le hN
  have hse := siz_eq N
  have hnd := nds_le hN
  have hlv := lvs_in hN
  have hpl := plc_in hN hql hqk
  refine lv_aload_n hx hb dX2_faultOfNode_0 rfl (lv_at hl 0 rfl) ?_
  refine lv_iload_n hx hb dX2_faultOfNode_1 rfl (lv_at hl 1 rfl) ?_
  refine lv_iload_n hx hb dX2_faultOfNode_2 rfl (lv_at hl 2 rfl) ?_
  refine x_vv ⟨hx, hb, hml, hown, hts⟩ (c_X2_hashNode l G cA tF tC g _ N hN D R F KD KR FL SU WO ln kp rd wr ft ql qk hql hqk) (cwV 2 hts gX2_faultOfNode_X2_hashNode rfl rfl rfl (by decide +kernel) ⟨Nat.le_of_ble_eq_true rfl, Nat.le_of_ble_eq_true rfl⟩) hK hP hD hS hT rfl 0 2 rfl rfl rfl hl.1 rfl (Nat.le_of_ble_eq_true rfl) dX2_faultOfNode_3 ⟨Nat.le_refl _, Nat.le_refl _⟩ (fun u H locs hs1 hP hD hS => ?_)
  obtain ⟨SU1, WO1, ln1⟩ := u
  have hP : va_P G vwCl (xW g cA N D R F KD KR FL SU1 WO1 ln1 kp rd wr ft) _ := hP
  have hD : va_D _ (xW g cA N D R F KD KR FL SU1 WO1 ln1 kp rd wr ft) := hD
  refine lv_aload_n hx hb dX2_faultOfNode_6 rfl (lv_at hl 0 rfl) ?_
  refine va_get (D := G) (ci := 2) (v := .ref (g 2)) (C := RX2) (T := TX2) (N := 12) hx hb hts hinX2 hown hK hP 0 rfl rfl 1 (by decide) (hts (.fieldLink RX2 30 "SealedPages" "hasher" "LSealedPages$Hasher;") (by decide +kernel)) (fun _ h => h) rfl dX2_faultOfNode_7 ?_
  refine lv_aload_n hx hb dX2_faultOfNode_10 rfl (lv_at hl 0 rfl) ?_
  refine va_get (D := G) (ci := 2) (v := .ref (g 3)) (C := RX2) (T := TX2) (N := 12) hx hb hts hinX2 hown hK hP 0 rfl rfl 2 (by decide) (hts (.fieldLink RX2 38 "SealedPages" "diskBytes" "[I") (by decide +kernel)) (fun _ h => h) rfl dX2_faultOfNode_11 ?_
  refine lv_aload_n hx hb dX2_faultOfNode_14 rfl (lv_at hl 0 rfl) ?_
  refine va_get (D := G) (ci := 2) (v := .ref (g 1)) (C := RX2) (T := TX2) (N := 12) hx hb hts hinX2 hown hK hP 0 rfl rfl 0 (by decide) (hts (.fieldLink RX2 23 "SealedPages" "layout" "LSealedPages$Layout;") (by decide +kernel)) (fun _ h => h) rfl dX2_faultOfNode_15 ?_
  refine lv_iload_n hx hb dX2_faultOfNode_18 rfl (lv_at hl 1 rfl) ?_
  refine lv_iload_n hx hb dX2_faultOfNode_19 rfl (lv_at hl 2 rfl) ?_
  refine x_vi ⟨hx, hb, hml, hown, hts⟩ (c_X1_placeOfNode l G cA tF tC g _ N hN D R F KD KR FL SU1 WO1 ln1 kp rd wr ft ql qk hql) (cwV 2 hts gX2_faultOfNode_X1_placeOfNode rfl rfl rfl (by decide +kernel) ⟨Nat.le_of_ble_eq_true rfl, Nat.le_of_ble_eq_true rfl⟩) hK hP hD hS hT rfl 1 1 rfl rfl rfl hl.1 rfl (Nat.le_of_ble_eq_true rfl) dX2_faultOfNode_20 ⟨Nat.le_refl _, Nat.le_refl _⟩ (fun r_3 u H locs hp_2 hP hD hS => ?_)
  have hP : va_P G vwCl (xW g cA N D R F KD KR FL SU1 WO1 ln1 kp rd wr ft) _ := hP
  have hD : va_D _ (xW g cA N D R F KD KR FL SU1 WO1 ln1 kp rd wr ft) := hD
  have hp_2 : r_3 = nI (plc N ql qk) := hp_2
  subst hp_2
  refine x_vi ⟨hx, hb, hml, hown, hts⟩ (c_X0_resultIsAt_D l G cA tF tC g _ N hN D R F KD KR FL SU1 WO1 ln1 kp rd wr ft (plc N ql qk) hpl) (cwV 2 hts gX2_faultOfNode_X0_resultIsAt rfl rfl rfl (by decide +kernel) ⟨Nat.le_of_ble_eq_true rfl, Nat.le_of_ble_eq_true rfl⟩) hK hP hD hS hT rfl 2 0 rfl rfl rfl hl.1 rfl (Nat.le_of_ble_eq_true rfl) dX2_faultOfNode_23 ⟨Nat.le_refl _, Nat.le_refl _⟩ (fun r_4 u H locs hb9 hP hD hS => ?_)
  have hP : va_P G vwCl (xW g cA N D R F KD KR FL SU1 WO1 ln1 kp rd wr ft) _ := hP
  have hD : va_D _ (xW g cA N D R F KD KR FL SU1 WO1 ln1 kp rd wr ft) := hD
  have hb9 : r_4 = bI (nok N D ql qk) := by rw [hb9, eqN_cong ag_rf hs1]; rfl
  subst hb9
  refine lv_if_eq (tgt := 33) hx hb dX2_faultOfNode_26 (by decide) (fun c_5 => ?_) (fun c_5 => ?_)
  · skip
    have hc := c_5
    refine lv_iconst (v := 3) hx hb dX2_faultOfNode_33 (by decide) ?_
    refine lv_iload_n hx hb dX2_faultOfNode_34 rfl (lv_at hl 1 rfl) ?_
    refine lv_iadd hx hb dX2_faultOfNode_35 ?_
    refine x_eqi (y := nI (3 + ql)) (nI_add 3 ql) ?_
    exact hret _ (SU1, WO1, ln1) _ _ _ _ dX2_faultOfNode_36 hP hD hS (by unfold nf; first | (rw [if_pos (bI_1 hc)]; rfl) | (rw [bI_0 hc]; rfl))
  · skip
    have hc := c_5
    refine lv_iconst (v := 0) hx hb dX2_faultOfNode_29 (by decide) ?_
    refine lv_goto (tgt := 36) hx hb dX2_faultOfNode_30 (by decide) ?_
    exact hret _ (SU1, WO1, ln1) _ _ _ _ dX2_faultOfNode_36 hP hD hS (by unfold nf; first | (rw [if_pos (bI_1 hc)]; rfl) | (rw [bI_0 hc]; rfl))

set_option maxHeartbeats 4000000 in
set_option maxRecDepth 100000 in
theorem c_X2_sealNode (l : Launch) (G : va_G) (cA : ClassId) (tF tC : Nat) (g : Nat → Nat) (sz N : Nat) (hN : 1 ≤ N ∧ N ≤ 64) (D R F KD KR FL SU WO : Nat → Int32) (ln kp rd wr ft : Int32) (ql qk : Nat) (hql : ql < lvs N) (hqk : qk < nod N ql) : CV l yX2_sealNode wsX2_sealNode 4 103 G cA tF tC g 13 sz (xW g cA N D R F KD KR FL SU WO ln kp rd wr ft) [.ref (g 0), .int (nI ql), .int (nI qk)] (fun (u : (Nat → Int32) × (Nat → Int32) × Int32) => xW g cA N (sNode N D ql qk) R F KD KR FL u.1 u.2.1 u.2.2 kp rd wr ft) (fun _ => True) := by
  refine x_entryV (cc := cX2_sealNode) (maxL := 3) (by decide) rfl (fun _ => rfl) (Nat.le_of_ble_eq_true rfl) ?_
  intro p e s m args below meth c Q hx hb hml hown hts hK hP hD hS hT hret ls hl
  have hown : s.vm.findClass RX2 = some m.cls := hown
  have hl : lv_has ls 3 [(0, .ref (g 0)), (1, .int (nI ql)), (2, .int (nI qk))] := hl
  have hinX2 : ∀ w ∈ wsX20, w ∈ wsX2_sealNode := by decide +kernel
  have hz := siz_le hN
  have hse := siz_eq N
  have hnd := nds_le hN
  have hlv := lvs_in hN
  have hpl := plc_in hN hql hqk
  refine lv_aload_n hx hb dX2_sealNode_0 rfl (lv_at hl 0 rfl) ?_
  refine lv_iload_n hx hb dX2_sealNode_1 rfl (lv_at hl 1 rfl) ?_
  refine lv_iload_n hx hb dX2_sealNode_2 rfl (lv_at hl 2 rfl) ?_
  refine x_vv ⟨hx, hb, hml, hown, hts⟩ (c_X2_hashNode l G cA tF tC g _ N hN D R F KD KR FL SU WO ln kp rd wr ft ql qk hql hqk) (cwV 2 hts gX2_sealNode_X2_hashNode rfl rfl rfl (by decide +kernel) ⟨Nat.le_of_ble_eq_true rfl, Nat.le_of_ble_eq_true rfl⟩) hK hP hD hS hT rfl 0 2 rfl rfl rfl hl.1 rfl (Nat.le_of_ble_eq_true rfl) dX2_sealNode_3 ⟨Nat.le_refl _, Nat.le_refl _⟩ (fun u H locs hs1 hP hD hS => ?_)
  obtain ⟨SU1, WO1, ln1⟩ := u
  have hP : va_P G vwCl (xW g cA N D R F KD KR FL SU1 WO1 ln1 kp rd wr ft) _ := hP
  have hD : va_D _ (xW g cA N D R F KD KR FL SU1 WO1 ln1 kp rd wr ft) := hD
  refine lv_aload_n hx hb dX2_sealNode_6 rfl (lv_at hl 0 rfl) ?_
  refine va_get (D := G) (ci := 2) (v := .ref (g 2)) (C := RX2) (T := TX2) (N := 12) hx hb hts hinX2 hown hK hP 0 rfl rfl 1 (by decide) (hts (.fieldLink RX2 30 "SealedPages" "hasher" "LSealedPages$Hasher;") (by decide +kernel)) (fun _ h => h) rfl dX2_sealNode_7 ?_
  refine lv_aload_n hx hb dX2_sealNode_10 rfl (lv_at hl 0 rfl) ?_
  refine va_get (D := G) (ci := 2) (v := .ref (g 3)) (C := RX2) (T := TX2) (N := 12) hx hb hts hinX2 hown hK hP 0 rfl rfl 2 (by decide) (hts (.fieldLink RX2 38 "SealedPages" "diskBytes" "[I") (by decide +kernel)) (fun _ h => h) rfl dX2_sealNode_11 ?_
  refine lv_aload_n hx hb dX2_sealNode_14 rfl (lv_at hl 0 rfl) ?_
  refine va_get (D := G) (ci := 2) (v := .ref (g 1)) (C := RX2) (T := TX2) (N := 12) hx hb hts hinX2 hown hK hP 0 rfl rfl 0 (by decide) (hts (.fieldLink RX2 23 "SealedPages" "layout" "LSealedPages$Layout;") (by decide +kernel)) (fun _ h => h) rfl dX2_sealNode_15 ?_
  refine lv_iload_n hx hb dX2_sealNode_18 rfl (lv_at hl 1 rfl) ?_
  refine lv_iload_n hx hb dX2_sealNode_19 rfl (lv_at hl 2 rfl) ?_
  refine x_vi ⟨hx, hb, hml, hown, hts⟩ (c_X1_placeOfNode l G cA tF tC g _ N hN D R F KD KR FL SU1 WO1 ln1 kp rd wr ft ql qk hql) (cwV 2 hts gX2_sealNode_X1_placeOfNode rfl rfl rfl (by decide +kernel) ⟨Nat.le_of_ble_eq_true rfl, Nat.le_of_ble_eq_true rfl⟩) hK hP hD hS hT rfl 1 1 rfl rfl rfl hl.1 rfl (Nat.le_of_ble_eq_true rfl) dX2_sealNode_20 ⟨Nat.le_refl _, Nat.le_refl _⟩ (fun r_3 u H locs hp_2 hP hD hS => ?_)
  have hP : va_P G vwCl (xW g cA N D R F KD KR FL SU1 WO1 ln1 kp rd wr ft) _ := hP
  have hD : va_D _ (xW g cA N D R F KD KR FL SU1 WO1 ln1 kp rd wr ft) := hD
  have hp_2 : r_3 = nI (plc N ql qk) := hp_2
  subst hp_2
  refine x_vv ⟨hx, hb, hml, hown, hts⟩ (c_X0_copyResult_D l G cA tF tC g _ N hN D R F KD KR FL SU1 WO1 ln1 kp rd wr ft (plc N ql qk) hpl) (cwV 2 hts gX2_sealNode_X0_copyResult rfl rfl rfl (by decide +kernel) ⟨Nat.le_of_ble_eq_true rfl, Nat.le_of_ble_eq_true rfl⟩) hK hP hD hS hT rfl 2 0 rfl rfl rfl hl.1 rfl (Nat.le_of_ble_eq_true rfl) dX2_sealNode_23 ⟨Nat.le_refl _, Nat.le_refl _⟩ (fun u H locs hp_4 hP hD hS => ?_)
  have hP : va_P G vwCl (xW g cA N (va_cpy (hby SU1) D 0 (plc N ql qk) 32) R F KD KR FL SU1 WO1 ln1 kp rd wr ft) _ := hP
  have hD : va_D _ (xW g cA N (va_cpy (hby SU1) D 0 (plc N ql qk) 32) R F KD KR FL SU1 WO1 ln1 kp rd wr ft) := hD
  have ec_6 : va_cpy (hby SU1) D 0 (plc N ql qk) 32 = sNode N D ql qk := cpy_ag (fun q hq => by rw [Nat.zero_add]; exact hs1 q hq)
  rw [ec_6] at hP hD
  exact hret (SU1, WO1, ln1) _ _ _ _ dX2_sealNode_26 hP hD hS trivial

set_option maxHeartbeats 4000000 in
set_option maxRecDepth 100000 in
theorem c_X2_sealRoot (l : Launch) (G : va_G) (cA : ClassId) (tF tC : Nat) (g : Nat → Nat) (sz N : Nat) (hN : 1 ≤ N ∧ N ≤ 64) (D R F KD KR FL SU WO : Nat → Int32) (ln kp rd wr ft : Int32)  : CV l yX2_sealRoot wsX2_sealRoot 4 100 G cA tF tC g 13 sz (xW g cA N D R F KD KR FL SU WO ln kp rd wr ft) [.ref (g 0)] (fun (u : (Nat → Int32) × (Nat → Int32) × Int32) => xW g cA N D (sRoot N D R) F KD KR FL u.1 u.2.1 u.2.2 kp rd wr ft) (fun _ => True) := by
  refine x_entryV (cc := cX2_sealRoot) (maxL := 1) (by decide) rfl (fun _ => rfl) (Nat.le_of_ble_eq_true rfl) ?_
  intro p e s m args below meth c Q hx hb hml hown hts hK hP hD hS hT hret ls hl
  have hown : s.vm.findClass RX2 = some m.cls := hown
  have hl : lv_has ls 1 [(0, .ref (g 0))] := hl
  have hinX2 : ∀ w ∈ wsX20, w ∈ wsX2_sealRoot := by decide +kernel
  have hz := siz_le hN
  have hse := siz_eq N
  have hnd := nds_le hN
  have hlv := lvs_in hN
  refine lv_aload_n hx hb dX2_sealRoot_0 rfl (lv_at hl 0 rfl) ?_
  refine x_vv ⟨hx, hb, hml, hown, hts⟩ (c_X2_hashHeadAndLastNode l G cA tF tC g _ N hN D R F KD KR FL SU WO ln kp rd wr ft ) (cwV 0 hts gX2_sealRoot_X2_hashHeadAndLastNode rfl rfl rfl (by decide +kernel) ⟨Nat.le_of_ble_eq_true rfl, Nat.le_of_ble_eq_true rfl⟩) hK hP hD hS hT rfl 0 2 rfl rfl rfl hl.1 rfl (Nat.le_of_ble_eq_true rfl) dX2_sealRoot_1 ⟨Nat.le_refl _, Nat.le_refl _⟩ (fun u H locs hs1 hP hD hS => ?_)
  obtain ⟨SU1, WO1, ln1⟩ := u
  have hP : va_P G vwCl (xW g cA N D R F KD KR FL SU1 WO1 ln1 kp rd wr ft) _ := hP
  have hD : va_D _ (xW g cA N D R F KD KR FL SU1 WO1 ln1 kp rd wr ft) := hD
  refine lv_aload_n hx hb dX2_sealRoot_4 rfl (lv_at hl 0 rfl) ?_
  refine va_get (D := G) (ci := 2) (v := .ref (g 2)) (C := RX2) (T := TX2) (N := 12) hx hb hts hinX2 hown hK hP 0 rfl rfl 1 (by decide) (hts (.fieldLink RX2 30 "SealedPages" "hasher" "LSealedPages$Hasher;") (by decide +kernel)) (fun _ h => h) rfl dX2_sealRoot_5 ?_
  refine lv_aload_n hx hb dX2_sealRoot_8 rfl (lv_at hl 0 rfl) ?_
  refine va_get (D := G) (ci := 2) (v := .ref (g 4)) (C := RX2) (T := TX2) (N := 12) hx hb hts hinX2 hown hK hP 0 rfl rfl 3 (by decide) (hts (.fieldLink RX2 42 "SealedPages" "rootBytes" "[I") (by decide +kernel)) (fun _ h => h) rfl dX2_sealRoot_9 ?_
  refine lv_iconst (v := 0) hx hb dX2_sealRoot_12 (by decide) ?_
  refine x_vv ⟨hx, hb, hml, hown, hts⟩ (c_X0_copyResult_R l G cA tF tC g _ N hN D R F KD KR FL SU1 WO1 ln1 kp rd wr ft 0 (by omega)) (cwV 2 hts gX2_sealRoot_X0_copyResult rfl rfl rfl (by decide +kernel) ⟨Nat.le_of_ble_eq_true rfl, Nat.le_of_ble_eq_true rfl⟩) hK hP hD hS hT rfl 2 0 rfl rfl rfl hl.1 rfl (Nat.le_of_ble_eq_true rfl) dX2_sealRoot_13 ⟨Nat.le_refl _, Nat.le_refl _⟩ (fun u H locs hp_2 hP hD hS => ?_)
  have hP : va_P G vwCl (xW g cA N D (va_cpy (hby SU1) R 0 0 32) F KD KR FL SU1 WO1 ln1 kp rd wr ft) _ := hP
  have hD : va_D _ (xW g cA N D (va_cpy (hby SU1) R 0 0 32) F KD KR FL SU1 WO1 ln1 kp rd wr ft) := hD
  have ec_4 : va_cpy (hby SU1) R 0 0 32 = sRoot N D R := cpy_ag (fun q hq => by rw [Nat.zero_add]; exact hs1 q hq)
  rw [ec_4] at hP hD
  exact hret (SU1, WO1, ln1) _ _ _ _ dX2_sealRoot_16 hP hD hS trivial
