set_option maxHeartbeats 4000000 in
set_option maxRecDepth 100000 in
theorem c_X0_init (l : Launch) (G : va_G) (cA : ClassId) (tF tC : Nat) (h0 sz : Nat)  : CC l yX0_init wsX0_init 1 2 72 20 G cA tF tC h0 0 [.null, .null, .int 0] eT sz [] (fun (u : Nat × Nat) => [(h0, .inr (0, [.ref u.1, .ref u.2, .int 0])), (u.1, .inl (cA, 8, .inl (fun _ => 0))), (u.2, .inl (cA, 64, .inl (fun _ => 0)))]) (fun _ => True) := by
  refine k_entry (cc := cX0_init) (maxL := 1) (by decide) rfl rfl (Nat.le_of_ble_eq_true rfl) ?_
  intro p e s m args below meth c Q hx hb hml hown hin hts hK hP hD hS hA hT hE hret ls hl
  have hown : s.vm.findClass RX0 = some m.cls := hown
  have hl : lv_has ls 1 [(0, .ref h0)] := hl
  have hinX0 : ∀ w ∈ wsX00, w ∈ wsX0_init := by decide +kernel
  refine lv_aload_n hx hb dX0_init_0 rfl (lv_at hl 0 rfl) ?_
  refine W.objInit hx hb hown (hts (.methodLink RX0 3 objectInit) (by decide +kernel)) (hts (.instanceMethod objectInit) (by decide +kernel)) (hts (.code objectInit ⟨#[0xb1]⟩ 1 none) (by decide +kernel)) rfl (by rw [hml]; exact hl.1) rfl dX0_init_1 (Nat.le_of_ble_eq_true rfl) (Nat.le_of_ble_eq_true rfl) ?_
  refine W.eq (g2 := F0 m 4 ls []) rfl ?_
  refine lv_aload_n hx hb dX0_init_4 rfl (lv_at hl 0 rfl) ?_
  refine lv_bipush (v := 8) hx hb dX0_init_5 (by decide) ?_
  refine k_newa (N' := 8) hx hb (hts (.arrayClass .int) (by decide +kernel)) hK hP hD hS hA (by omega) (Nat.le_of_ble_eq_true rfl) (by show 0 + 8 ≤ 72; omega) dX0_init_7 (fun q7 H hP hD hS => ?_)
  have hP : va_P G vwCl ([(h0, .inr (0, [.null, .null, .int 0])), (q7, .inl (cA, 8, .inl (fun _ => 0)))]) _ := hP
  have hD : va_D _ ([(h0, .inr (0, [.null, .null, .int 0])), (q7, .inl (cA, 8, .inl (fun _ => 0)))]) := hD
  refine W.widen (k := 1) (n := 8) (by omega) (by omega) ?_
  refine va_putF (D := G) (ci := 0) (v := .ref q7) (ty := .array .int) (C := RX0) (T := TX0) (N := 3) hx hb hts hinX0 tyX0 tyX0_ok nmX0 hown hK hP hD hS 0 rfl rfl 0 (by decide) (hts (.fieldLink RX0 9 "SealedPages$Hasher" "sums" "[I") (by decide +kernel)) (fun _ h => h) rfl hin rfl (by decide +kernel) rfl rfl (Nat.le_of_ble_eq_true rfl) dX0_init_9 (fun H locs hP hD hS => ?_)
  have hP : va_P G vwCl ([(h0, .inr (0, [.ref q7, .null, .int 0])), (q7, .inl (cA, 8, .inl (fun _ => 0)))]) _ := hP
  have hD : va_D _ ([(h0, .inr (0, [.ref q7, .null, .int 0])), (q7, .inl (cA, 8, .inl (fun _ => 0)))]) := hD
  refine lv_aload_n hx hb dX0_init_12 rfl (lv_at hl 0 rfl) ?_
  refine lv_bipush (v := 64) hx hb dX0_init_13 (by decide) ?_
  refine k_newa (N' := 64) hx hb (hts (.arrayClass .int) (by decide +kernel)) hK hP hD hS hA (by omega) (Nat.le_of_ble_eq_true rfl) (by show 8 + 64 ≤ 72; omega) dX0_init_15 (fun q15 H hP hD hS => ?_)
  have hP : va_P G vwCl ([(h0, .inr (0, [.ref q7, .null, .int 0])), (q7, .inl (cA, 8, .inl (fun _ => 0))), (q15, .inl (cA, 64, .inl (fun _ => 0)))]) _ := hP
  have hD : va_D _ ([(h0, .inr (0, [.ref q7, .null, .int 0])), (q7, .inl (cA, 8, .inl (fun _ => 0))), (q15, .inl (cA, 64, .inl (fun _ => 0)))]) := hD
  refine W.widen (k := 2) (n := 72) (by omega) (by omega) ?_
  refine va_putF (D := G) (ci := 0) (v := .ref q15) (ty := .array .int) (C := RX0) (T := TX0) (N := 3) hx hb hts hinX0 tyX0 tyX0_ok nmX0 hown hK hP hD hS 0 rfl rfl 1 (by decide) (hts (.fieldLink RX0 15 "SealedPages$Hasher" "words" "[I") (by decide +kernel)) (fun _ h => h) rfl hin rfl (by decide +kernel) rfl rfl (Nat.le_of_ble_eq_true rfl) dX0_init_17 (fun H locs hP hD hS => ?_)
  have hP : va_P G vwCl ([(h0, .inr (0, [.ref q7, .ref q15, .int 0])), (q7, .inl (cA, 8, .inl (fun _ => 0))), (q15, .inl (cA, 64, .inl (fun _ => 0)))]) _ := hP
  have hD : va_D _ ([(h0, .inr (0, [.ref q7, .ref q15, .int 0])), (q7, .inl (cA, 8, .inl (fun _ => 0))), (q15, .inl (cA, 64, .inl (fun _ => 0)))]) := hD
  have hP := hP.sub (ws' := [(h0, .inr (0, [.ref q7, .ref q15, .int 0])), (q7, .inl (cA, 8, .inl (fun _ => 0))), (q15, .inl (cA, 64, .inl (fun _ => 0)))]) [0, 1, 2] rfl
  have hD := hD.sub (ws' := [(h0, .inr (0, [.ref q7, .ref q15, .int 0])), (q7, .inl (cA, 8, .inl (fun _ => 0))), (q15, .inl (cA, 64, .inl (fun _ => 0)))]) [0, 1, 2] (by decide) rfl
  refine W.widen (k := 2) (n := 72) (Nat.le_of_ble_eq_true rfl) (Nat.le_of_ble_eq_true rfl) ?_
  exact hret (q7, q15) _ _ _ _ dX0_init_20 hP hD hS trivial

set_option maxHeartbeats 4000000 in
set_option maxRecDepth 100000 in
theorem c_X1_init (l : Launch) (G : va_G) (cA : ClassId) (tF tC : Nat) (h0 sz : Nat) (N : Nat) (hN : 1 ≤ N ∧ N ≤ 64) : CC l yX1_init wsX1_init 1 2 14 20 G cA tF tC h0 1 [.int 0, .int 0, .int 0, .int 0, .null, .null] eT sz [.int (nI N)] (fun (u : Nat × Nat) => [(h0, .inr (1, [.int (nI N), .int (nI (lvs N)), .int (nI (nds N)), .int (nI (siz N)), .ref u.1, .ref u.2])), (u.1, .inl (cA, 7, .inl (wid N))), (u.2, .inl (cA, 7, .inl (ahA N)))]) (fun _ => True) := by
  refine k_entry (cc := cX1_init) (maxL := 6) (by decide) rfl rfl (Nat.le_of_ble_eq_true rfl) ?_
  intro p e s m args below meth c Q hx hb hml hown hin hts hK hP hD hS hA hT hE hret ls hl
  have hown : s.vm.findClass RX1 = some m.cls := hown
  have hl : lv_has ls 6 [(0, .ref h0), (1, .int (nI N))] := hl
  have hinX1 : ∀ w ∈ wsX10, w ∈ wsX1_init := by decide +kernel
  have hz := siz_le hN
  have hnd := nds_le hN
  have hlv := lvs_in hN
  refine lv_aload_n hx hb dX1_init_0 rfl (lv_at hl 0 rfl) ?_
  refine W.objInit hx hb hown (hts (.methodLink RX1 3 objectInit) (by decide +kernel)) (hts (.instanceMethod objectInit) (by decide +kernel)) (hts (.code objectInit ⟨#[0xb1]⟩ 1 none) (by decide +kernel)) rfl (by rw [hml]; exact hl.1) rfl dX1_init_1 (Nat.le_of_ble_eq_true rfl) (Nat.le_of_ble_eq_true rfl) ?_
  refine W.eq (g2 := F0 m 4 ls []) rfl ?_
  refine lv_aload_n hx hb dX1_init_4 rfl (lv_at hl 0 rfl) ?_
  refine lv_iload_n hx hb dX1_init_5 rfl (lv_at hl 1 rfl) ?_
  refine va_putF (D := G) (ci := 1) (v := .int (nI N)) (ty := .int) (C := RX1) (T := TX1) (N := 6) hx hb hts hinX1 tyX1 tyX1_ok nmX1 hown hK hP hD hS 0 rfl rfl 0 (by decide) (hts (.fieldLink RX1 9 "SealedPages$Layout" "pageCount" "I") (by decide +kernel)) (fun _ h => h) rfl hin rfl (by decide +kernel) rfl rfl (Nat.le_of_ble_eq_true rfl) dX1_init_6 (fun H locs hP hD hS => ?_)
  have hP : va_P G vwCl ([(h0, .inr (1, [.int (nI N), .int 0, .int 0, .int 0, .null, .null]))]) _ := hP
  have hD : va_D _ ([(h0, .inr (1, [.int (nI N), .int 0, .int 0, .int 0, .null, .null]))]) := hD
  refine lv_aload_n hx hb dX1_init_9 rfl (lv_at hl 0 rfl) ?_
  refine lv_bipush (v := 7) hx hb dX1_init_10 (by decide) ?_
  refine k_newa (N' := 7) hx hb (hts (.arrayClass .int) (by decide +kernel)) hK hP hD hS hA (by omega) (Nat.le_of_ble_eq_true rfl) (by show 0 + 7 ≤ 14; omega) dX1_init_12 (fun q12 H hP hD hS => ?_)
  have hP : va_P G vwCl ([(h0, .inr (1, [.int (nI N), .int 0, .int 0, .int 0, .null, .null])), (q12, .inl (cA, 7, .inl (fun _ => 0)))]) _ := hP
  have hD : va_D _ ([(h0, .inr (1, [.int (nI N), .int 0, .int 0, .int 0, .null, .null])), (q12, .inl (cA, 7, .inl (fun _ => 0)))]) := hD
  refine W.widen (k := 1) (n := 7) (by omega) (by omega) ?_
  refine va_putF (D := G) (ci := 1) (v := .ref q12) (ty := .array .int) (C := RX1) (T := TX1) (N := 6) hx hb hts hinX1 tyX1 tyX1_ok nmX1 hown hK hP hD hS 0 rfl rfl 4 (by decide) (hts (.fieldLink RX1 15 "SealedPages$Layout" "widths" "[I") (by decide +kernel)) (fun _ h => h) rfl hin rfl (by decide +kernel) rfl rfl (Nat.le_of_ble_eq_true rfl) dX1_init_14 (fun H locs hP hD hS => ?_)
  have hP : va_P G vwCl ([(h0, .inr (1, [.int (nI N), .int 0, .int 0, .int 0, .ref q12, .null])), (q12, .inl (cA, 7, .inl (fun _ => 0)))]) _ := hP
  have hD : va_D _ ([(h0, .inr (1, [.int (nI N), .int 0, .int 0, .int 0, .ref q12, .null])), (q12, .inl (cA, 7, .inl (fun _ => 0)))]) := hD
  refine lv_aload_n hx hb dX1_init_17 rfl (lv_at hl 0 rfl) ?_
  refine lv_bipush (v := 7) hx hb dX1_init_18 (by decide) ?_
  refine k_newa (N' := 7) hx hb (hts (.arrayClass .int) (by decide +kernel)) hK hP hD hS hA (by omega) (Nat.le_of_ble_eq_true rfl) (by show 7 + 7 ≤ 14; omega) dX1_init_20 (fun q20 H hP hD hS => ?_)
  have hP : va_P G vwCl ([(h0, .inr (1, [.int (nI N), .int 0, .int 0, .int 0, .ref q12, .null])), (q12, .inl (cA, 7, .inl (fun _ => 0))), (q20, .inl (cA, 7, .inl (fun _ => 0)))]) _ := hP
  have hD : va_D _ ([(h0, .inr (1, [.int (nI N), .int 0, .int 0, .int 0, .ref q12, .null])), (q12, .inl (cA, 7, .inl (fun _ => 0))), (q20, .inl (cA, 7, .inl (fun _ => 0)))]) := hD
  refine W.widen (k := 2) (n := 14) (by omega) (by omega) ?_
  refine va_putF (D := G) (ci := 1) (v := .ref q20) (ty := .array .int) (C := RX1) (T := TX1) (N := 6) hx hb hts hinX1 tyX1 tyX1_ok nmX1 hown hK hP hD hS 0 rfl rfl 5 (by decide) (hts (.fieldLink RX1 19 "SealedPages$Layout" "nodesAhead" "[I") (by decide +kernel)) (fun _ h => h) rfl hin rfl (by decide +kernel) rfl rfl (Nat.le_of_ble_eq_true rfl) dX1_init_22 (fun H locs hP hD hS => ?_)
  have hP : va_P G vwCl ([(h0, .inr (1, [.int (nI N), .int 0, .int 0, .int 0, .ref q12, .ref q20])), (q12, .inl (cA, 7, .inl (fun _ => 0))), (q20, .inl (cA, 7, .inl (fun _ => 0)))]) _ := hP
  have hD : va_D _ ([(h0, .inr (1, [.int (nI N), .int 0, .int 0, .int 0, .ref q12, .ref q20])), (q12, .inl (cA, 7, .inl (fun _ => 0))), (q20, .inl (cA, 7, .inl (fun _ => 0)))]) := hD
  refine lv_iload_n hx hb dX1_init_25 rfl (lv_at hl 1 rfl) ?_
  refine lv_istore_n (lv' := [(2, .int (nI N)), (0, .ref h0), (1, .int (nI N))]) hx hb dX1_init_26 rfl hl (by decide) rfl (fun ls hl => ?_)
  refine lv_iconst (v := 0) hx hb dX1_init_27 (by decide) ?_
  refine lv_istore_n (lv' := [(3, .int 0), (2, .int (nI N)), (0, .ref h0), (1, .int (nI N))]) hx hb dX1_init_28 rfl hl (by decide) rfl (fun ls hl => ?_)
  refine lv_iconst (v := 0) hx hb dX1_init_29 (by decide) ?_
  refine lv_istore (lv' := [(4, .int 0), (3, .int 0), (2, .int (nI N)), (0, .ref h0), (1, .int (nI N))]) hx hb dX1_init_30 hl (by decide) rfl (fun ls hl => ?_)
  refine lv_iconst (v := 0) hx hb dX1_init_32 (by decide) ?_
  refine lv_istore (lv' := [(5, .int 0), (4, .int 0), (3, .int 0), (2, .int (nI N)), (0, .ref h0), (1, .int (nI N))]) hx hb dX1_init_33 hl (by decide) rfl (fun ls hl => ?_)
  have hl : lv_has ls 6 [(5, .int (bI (decide (0 = lvs N)))), (4, .int 0), (3, .int 0), (2, .int (nI N)), (0, .ref h0), (1, .int (nI N))] := by rw [show bI (decide (0 = lvs N)) = 0 from by rw [decide_eq_false (by omega)]; rfl]; exact hl
  have loop_35 : ∀ (n_35 : Nat) (zj : Nat), (lvs N - zj) < n_35 → (zj ≤ lvs N) → ∀ (H : Heap) (locs : List Loc) (ls : Array Slot), va_P G vwCl ([(h0, .inr (1, [.int (nI N), .int 0, .int 0, .int 0, .ref q12, .ref q20])), (q12, .inl (cA, 7, .inl (widK N zj))), (q20, .inl (cA, 7, .inl (ahK N zj)))]) H → va_D (oA h0 s.heap.size) ([(h0, .inr (1, [.int (nI N), .int 0, .int 0, .int 0, .ref q12, .ref q20])), (q12, .inl (cA, 7, .inl (widK N zj))), (q20, .inl (cA, 7, .inl (ahK N zj)))]) → va_S (oA h0 s.heap.size) s.heap H locs → lv_has ls 6 [(0, .ref h0), (1, .int (nI N)), (2, .int (nI (nod N zj))), (3, .int (nI (ahd N zj))), (4, .int (nI zj)), (5, .int (bI (decide (zj = lvs N))))] → W p l e { frames := 1, cells := 2, slots := 14, locals := 20 } s m args below meth c H locs 2 14 Q (F0 m 35 ls []) := by
    intro n_35
    induction n_35 with
    | zero => intro zj hm_35; exact absurd hm_35 (Nat.not_lt_zero _)
    | succ n_35 ih_35 =>
      intro zj hm_35 hj H locs ls hP hD hS hl
      have hnj := nod_le N hN.1 zj
      refine lv_iload hx hb dX1_init_35 (lv_at hl 4 rfl) ?_
      refine lv_bipush (v := 7) hx hb dX1_init_37 (by decide) ?_
      refine lv_icmp_ge (tgt := 91) hx hb dX1_init_39 (by decide) (fun c_1 => ?_) (fun c_1 => ?_)
      · skip
        have c_1 : 7 ≤ zj := (nI_leI (a := 7) (b := zj) (by omega) (by omega)).mp c_1
        have hje : zj = lvs N := by omega
        subst hje
        have hl : lv_has ls 6 [(0, .ref h0), (1, .int (nI N)), (2, .int (nI (nod N (lvs N)))), (3, .int (nI (ahd N (lvs N)))), (4, .int (nI (lvs N))), (5, .int (bI (decide ((lvs N) = lvs N))))] := hl
        refine lv_aload_n hx hb dX1_init_91 rfl (lv_at hl 0 rfl) ?_
        refine lv_iload hx hb dX1_init_92 (lv_at hl 4 rfl) ?_
        refine va_putF (D := G) (ci := 1) (v := .int (nI (lvs N))) (ty := .int) (C := RX1) (T := TX1) (N := 6) hx hb hts hinX1 tyX1 tyX1_ok nmX1 hown hK hP hD hS 0 rfl rfl 1 (by decide) (hts (.fieldLink RX1 22 "SealedPages$Layout" "levelCount" "I") (by decide +kernel)) (fun _ h => h) rfl hin rfl (by decide +kernel) rfl rfl (Nat.le_of_ble_eq_true rfl) dX1_init_94 (fun H locs hP hD hS => ?_)
        have hP : va_P G vwCl ([(h0, .inr (1, [.int (nI N), .int (nI (lvs N)), .int 0, .int 0, .ref q12, .ref q20])), (q12, .inl (cA, 7, .inl (widK N (lvs N)))), (q20, .inl (cA, 7, .inl (ahK N (lvs N))))]) _ := hP
        have hD : va_D _ ([(h0, .inr (1, [.int (nI N), .int (nI (lvs N)), .int 0, .int 0, .ref q12, .ref q20])), (q12, .inl (cA, 7, .inl (widK N (lvs N)))), (q20, .inl (cA, 7, .inl (ahK N (lvs N))))]) := hD
        refine lv_aload_n hx hb dX1_init_97 rfl (lv_at hl 0 rfl) ?_
        refine lv_iload_n hx hb dX1_init_98 rfl (lv_at hl 3 rfl) ?_
        refine va_putF (D := G) (ci := 1) (v := .int (nI (ahd N (lvs N)))) (ty := .int) (C := RX1) (T := TX1) (N := 6) hx hb hts hinX1 tyX1 tyX1_ok nmX1 hown hK hP hD hS 0 rfl rfl 2 (by decide) (hts (.fieldLink RX1 25 "SealedPages$Layout" "nodeCount" "I") (by decide +kernel)) (fun _ h => h) rfl hin rfl (by decide +kernel) rfl rfl (Nat.le_of_ble_eq_true rfl) dX1_init_99 (fun H locs hP hD hS => ?_)
        have hP : va_P G vwCl ([(h0, .inr (1, [.int (nI N), .int (nI (lvs N)), .int (nI (ahd N (lvs N))), .int 0, .ref q12, .ref q20])), (q12, .inl (cA, 7, .inl (widK N (lvs N)))), (q20, .inl (cA, 7, .inl (ahK N (lvs N))))]) _ := hP
        have hD : va_D _ ([(h0, .inr (1, [.int (nI N), .int (nI (lvs N)), .int (nI (ahd N (lvs N))), .int 0, .ref q12, .ref q20])), (q12, .inl (cA, 7, .inl (widK N (lvs N)))), (q20, .inl (cA, 7, .inl (ahK N (lvs N))))]) := hD
        refine lv_aload_n hx hb dX1_init_102 rfl (lv_at hl 0 rfl) ?_
        refine lv_bipush (v := 8) hx hb dX1_init_103 (by decide) ?_
        refine lv_bipush (v := 64) hx hb dX1_init_105 (by decide) ?_
        refine lv_iload_n hx hb dX1_init_107 rfl (lv_at hl 1 rfl) ?_
        refine lv_imul hx hb dX1_init_108 ?_
        refine x_eqi (y := nI (64 * N)) (pk_mul 64 N) ?_
        refine lv_iadd hx hb dX1_init_109 ?_
        refine x_eqi (y := nI (8 + (64 * N))) (nI_add 8 (64 * N)) ?_
        refine lv_bipush (v := 32) hx hb dX1_init_110 (by decide) ?_
        refine lv_iload_n hx hb dX1_init_112 rfl (lv_at hl 3 rfl) ?_
        refine lv_imul hx hb dX1_init_113 ?_
        refine x_eqi (y := nI (32 * (ahd N (lvs N)))) (pk_mul 32 (ahd N (lvs N))) ?_
        refine lv_iadd hx hb dX1_init_114 ?_
        refine x_eqi (y := nI ((8 + (64 * N)) + (32 * (ahd N (lvs N))))) (nI_add (8 + (64 * N)) (32 * (ahd N (lvs N)))) ?_
        refine va_putF (D := G) (ci := 1) (v := .int (nI ((8 + (64 * N)) + (32 * (ahd N (lvs N)))))) (ty := .int) (C := RX1) (T := TX1) (N := 6) hx hb hts hinX1 tyX1 tyX1_ok nmX1 hown hK hP hD hS 0 rfl rfl 3 (by decide) (hts (.fieldLink RX1 28 "SealedPages$Layout" "byteCount" "I") (by decide +kernel)) (fun _ h => h) rfl hin rfl (by decide +kernel) rfl rfl (Nat.le_of_ble_eq_true rfl) dX1_init_115 (fun H locs hP hD hS => ?_)
        have hP : va_P G vwCl ([(h0, .inr (1, [.int (nI N), .int (nI (lvs N)), .int (nI (ahd N (lvs N))), .int (nI ((8 + (64 * N)) + (32 * (ahd N (lvs N))))), .ref q12, .ref q20])), (q12, .inl (cA, 7, .inl (widK N (lvs N)))), (q20, .inl (cA, 7, .inl (ahK N (lvs N))))]) _ := hP
        have hD : va_D _ ([(h0, .inr (1, [.int (nI N), .int (nI (lvs N)), .int (nI (ahd N (lvs N))), .int (nI ((8 + (64 * N)) + (32 * (ahd N (lvs N))))), .ref q12, .ref q20])), (q12, .inl (cA, 7, .inl (widK N (lvs N)))), (q20, .inl (cA, 7, .inl (ahK N (lvs N))))]) := hD
        have hP := hP.sub (ws' := [(h0, .inr (1, [.int (nI N), .int (nI (lvs N)), .int (nI (nds N)), .int (nI (siz N)), .ref q12, .ref q20])), (q12, .inl (cA, 7, .inl (wid N))), (q20, .inl (cA, 7, .inl (ahA N)))]) [0, 1, 2] rfl
        have hD := hD.sub (ws' := [(h0, .inr (1, [.int (nI N), .int (nI (lvs N)), .int (nI (nds N)), .int (nI (siz N)), .ref q12, .ref q20])), (q12, .inl (cA, 7, .inl (wid N))), (q20, .inl (cA, 7, .inl (ahA N)))]) [0, 1, 2] (by decide) rfl
        refine W.widen (k := 2) (n := 14) (Nat.le_of_ble_eq_true rfl) (Nat.le_of_ble_eq_true rfl) ?_
        exact hret (q12, q20) _ _ _ _ dX1_init_118 hP hD hS trivial
      · skip
        have c_1 : ¬ 7 ≤ zj := fun z => c_1 ((nI_leI (a := 7) (b := zj) (by omega) (by omega)).mpr z)
        refine lv_iload hx hb dX1_init_42 (lv_at hl 5 rfl) ?_
        refine lv_if_ne (tgt := 91) hx hb dX1_init_44 (by decide) (fun c_2 => ?_) (fun c_2 => ?_)
        · skip
          have hje : zj = lvs N := of_decide_eq_true (bI_1 c_2)
          subst hje
          have hl : lv_has ls 6 [(0, .ref h0), (1, .int (nI N)), (2, .int (nI (nod N (lvs N)))), (3, .int (nI (ahd N (lvs N)))), (4, .int (nI (lvs N))), (5, .int (bI (decide ((lvs N) = lvs N))))] := hl
          refine lv_aload_n hx hb dX1_init_91 rfl (lv_at hl 0 rfl) ?_
          refine lv_iload hx hb dX1_init_92 (lv_at hl 4 rfl) ?_
          refine va_putF (D := G) (ci := 1) (v := .int (nI (lvs N))) (ty := .int) (C := RX1) (T := TX1) (N := 6) hx hb hts hinX1 tyX1 tyX1_ok nmX1 hown hK hP hD hS 0 rfl rfl 1 (by decide) (hts (.fieldLink RX1 22 "SealedPages$Layout" "levelCount" "I") (by decide +kernel)) (fun _ h => h) rfl hin rfl (by decide +kernel) rfl rfl (Nat.le_of_ble_eq_true rfl) dX1_init_94 (fun H locs hP hD hS => ?_)
          have hP : va_P G vwCl ([(h0, .inr (1, [.int (nI N), .int (nI (lvs N)), .int 0, .int 0, .ref q12, .ref q20])), (q12, .inl (cA, 7, .inl (widK N (lvs N)))), (q20, .inl (cA, 7, .inl (ahK N (lvs N))))]) _ := hP
          have hD : va_D _ ([(h0, .inr (1, [.int (nI N), .int (nI (lvs N)), .int 0, .int 0, .ref q12, .ref q20])), (q12, .inl (cA, 7, .inl (widK N (lvs N)))), (q20, .inl (cA, 7, .inl (ahK N (lvs N))))]) := hD
          refine lv_aload_n hx hb dX1_init_97 rfl (lv_at hl 0 rfl) ?_
          refine lv_iload_n hx hb dX1_init_98 rfl (lv_at hl 3 rfl) ?_
          refine va_putF (D := G) (ci := 1) (v := .int (nI (ahd N (lvs N)))) (ty := .int) (C := RX1) (T := TX1) (N := 6) hx hb hts hinX1 tyX1 tyX1_ok nmX1 hown hK hP hD hS 0 rfl rfl 2 (by decide) (hts (.fieldLink RX1 25 "SealedPages$Layout" "nodeCount" "I") (by decide +kernel)) (fun _ h => h) rfl hin rfl (by decide +kernel) rfl rfl (Nat.le_of_ble_eq_true rfl) dX1_init_99 (fun H locs hP hD hS => ?_)
          have hP : va_P G vwCl ([(h0, .inr (1, [.int (nI N), .int (nI (lvs N)), .int (nI (ahd N (lvs N))), .int 0, .ref q12, .ref q20])), (q12, .inl (cA, 7, .inl (widK N (lvs N)))), (q20, .inl (cA, 7, .inl (ahK N (lvs N))))]) _ := hP
          have hD : va_D _ ([(h0, .inr (1, [.int (nI N), .int (nI (lvs N)), .int (nI (ahd N (lvs N))), .int 0, .ref q12, .ref q20])), (q12, .inl (cA, 7, .inl (widK N (lvs N)))), (q20, .inl (cA, 7, .inl (ahK N (lvs N))))]) := hD
          refine lv_aload_n hx hb dX1_init_102 rfl (lv_at hl 0 rfl) ?_
          refine lv_bipush (v := 8) hx hb dX1_init_103 (by decide) ?_
          refine lv_bipush (v := 64) hx hb dX1_init_105 (by decide) ?_
          refine lv_iload_n hx hb dX1_init_107 rfl (lv_at hl 1 rfl) ?_
          refine lv_imul hx hb dX1_init_108 ?_
          refine x_eqi (y := nI (64 * N)) (pk_mul 64 N) ?_
          refine lv_iadd hx hb dX1_init_109 ?_
          refine x_eqi (y := nI (8 + (64 * N))) (nI_add 8 (64 * N)) ?_
          refine lv_bipush (v := 32) hx hb dX1_init_110 (by decide) ?_
          refine lv_iload_n hx hb dX1_init_112 rfl (lv_at hl 3 rfl) ?_
          refine lv_imul hx hb dX1_init_113 ?_
          refine x_eqi (y := nI (32 * (ahd N (lvs N)))) (pk_mul 32 (ahd N (lvs N))) ?_
          refine lv_iadd hx hb dX1_init_114 ?_
          refine x_eqi (y := nI ((8 + (64 * N)) + (32 * (ahd N (lvs N))))) (nI_add (8 + (64 * N)) (32 * (ahd N (lvs N)))) ?_
          refine va_putF (D := G) (ci := 1) (v := .int (nI ((8 + (64 * N)) + (32 * (ahd N (lvs N)))))) (ty := .int) (C := RX1) (T := TX1) (N := 6) hx hb hts hinX1 tyX1 tyX1_ok nmX1 hown hK hP hD hS 0 rfl rfl 3 (by decide) (hts (.fieldLink RX1 28 "SealedPages$Layout" "byteCount" "I") (by decide +kernel)) (fun _ h => h) rfl hin rfl (by decide +kernel) rfl rfl (Nat.le_of_ble_eq_true rfl) dX1_init_115 (fun H locs hP hD hS => ?_)
          have hP : va_P G vwCl ([(h0, .inr (1, [.int (nI N), .int (nI (lvs N)), .int (nI (ahd N (lvs N))), .int (nI ((8 + (64 * N)) + (32 * (ahd N (lvs N))))), .ref q12, .ref q20])), (q12, .inl (cA, 7, .inl (widK N (lvs N)))), (q20, .inl (cA, 7, .inl (ahK N (lvs N))))]) _ := hP
          have hD : va_D _ ([(h0, .inr (1, [.int (nI N), .int (nI (lvs N)), .int (nI (ahd N (lvs N))), .int (nI ((8 + (64 * N)) + (32 * (ahd N (lvs N))))), .ref q12, .ref q20])), (q12, .inl (cA, 7, .inl (widK N (lvs N)))), (q20, .inl (cA, 7, .inl (ahK N (lvs N))))]) := hD
          have hP := hP.sub (ws' := [(h0, .inr (1, [.int (nI N), .int (nI (lvs N)), .int (nI (nds N)), .int (nI (siz N)), .ref q12, .ref q20])), (q12, .inl (cA, 7, .inl (wid N))), (q20, .inl (cA, 7, .inl (ahA N)))]) [0, 1, 2] rfl
          have hD := hD.sub (ws' := [(h0, .inr (1, [.int (nI N), .int (nI (lvs N)), .int (nI (nds N)), .int (nI (siz N)), .ref q12, .ref q20])), (q12, .inl (cA, 7, .inl (wid N))), (q20, .inl (cA, 7, .inl (ahA N)))]) [0, 1, 2] (by decide) rfl
          refine W.widen (k := 2) (n := 14) (Nat.le_of_ble_eq_true rfl) (Nat.le_of_ble_eq_true rfl) ?_
          exact hret (q12, q20) _ _ _ _ dX1_init_118 hP hD hS trivial
        · skip
          have hjn : ¬ zj = lvs N := of_decide_eq_false (bI_0 c_2)
          have hnn := nod_in hN (show zj < lvs N by omega)
          refine lv_aload_n hx hb dX1_init_47 rfl (lv_at hl 0 rfl) ?_
          refine va_get (D := G) (ci := 1) (v := .ref q12) (C := RX1) (T := TX1) (N := 6) hx hb hts hinX1 hown hK hP 0 rfl rfl 4 (by decide) (hts (.fieldLink RX1 15 "SealedPages$Layout" "widths" "[I") (by decide +kernel)) (fun _ h => h) rfl dX1_init_48 ?_
          refine lv_iload hx hb dX1_init_51 (lv_at hl 4 rfl) ?_
          refine lv_iload_n hx hb dX1_init_53 rfl (lv_at hl 2 rfl) ?_
          refine x_ast (i := zj) hx hb hK hP hD hS 1 0 rfl rfl (by omega) (by decide) dX1_init_54 (fun H locs hP hD hS => ?_)
          have hP : va_P G vwCl ([(h0, .inr (1, [.int (nI N), .int 0, .int 0, .int 0, .ref q12, .ref q20])), (q12, .inl (cA, 7, .inl (upd (widK N zj) zj (nI (nod N zj))))), (q20, .inl (cA, 7, .inl (ahK N zj)))]) _ := hP
          have hD : va_D _ ([(h0, .inr (1, [.int (nI N), .int 0, .int 0, .int 0, .ref q12, .ref q20])), (q12, .inl (cA, 7, .inl (upd (widK N zj) zj (nI (nod N zj))))), (q20, .inl (cA, 7, .inl (ahK N zj)))]) := hD
          rw [widK_s] at hP hD
          refine lv_aload_n hx hb dX1_init_55 rfl (lv_at hl 0 rfl) ?_
          refine va_get (D := G) (ci := 1) (v := .ref q20) (C := RX1) (T := TX1) (N := 6) hx hb hts hinX1 hown hK hP 0 rfl rfl 5 (by decide) (hts (.fieldLink RX1 19 "SealedPages$Layout" "nodesAhead" "[I") (by decide +kernel)) (fun _ h => h) rfl dX1_init_56 ?_
          refine lv_iload hx hb dX1_init_59 (lv_at hl 4 rfl) ?_
          refine lv_iload_n hx hb dX1_init_61 rfl (lv_at hl 3 rfl) ?_
          refine x_ast (i := zj) hx hb hK hP hD hS 2 0 rfl rfl (by omega) (by decide) dX1_init_62 (fun H locs hP hD hS => ?_)
          have hP : va_P G vwCl ([(h0, .inr (1, [.int (nI N), .int 0, .int 0, .int 0, .ref q12, .ref q20])), (q12, .inl (cA, 7, .inl (widK N (zj + 1)))), (q20, .inl (cA, 7, .inl (upd (ahK N zj) zj (nI (ahd N zj)))))]) _ := hP
          have hD : va_D _ ([(h0, .inr (1, [.int (nI N), .int 0, .int 0, .int 0, .ref q12, .ref q20])), (q12, .inl (cA, 7, .inl (widK N (zj + 1)))), (q20, .inl (cA, 7, .inl (upd (ahK N zj) zj (nI (ahd N zj)))))]) := hD
          rw [ahK_s] at hP hD
          refine lv_iload_n hx hb dX1_init_63 rfl (lv_at hl 3 rfl) ?_
          refine lv_iload_n hx hb dX1_init_64 rfl (lv_at hl 2 rfl) ?_
          refine lv_iadd hx hb dX1_init_65 ?_
          refine x_eqi (y := nI ((ahd N zj) + (nod N zj))) (nI_add (ahd N zj) (nod N zj)) ?_
          refine lv_istore_n (lv' := [(3, .int (nI ((ahd N zj) + (nod N zj)))), (0, .ref h0), (1, .int (nI N)), (2, .int (nI (nod N zj))), (4, .int (nI zj)), (5, .int (bI (decide (zj = lvs N))))]) hx hb dX1_init_66 rfl hl (by decide) rfl (fun ls hl => ?_)
          refine lv_iload_n hx hb dX1_init_67 rfl (lv_at hl 3 rfl) ?_
          refine lv_iconst (v := 1) hx hb dX1_init_68 (by decide) ?_
          refine lv_icmp_ne (tgt := 76) hx hb dX1_init_69 (by decide) (fun c_3 => ?_) (fun c_3 => ?_)
          · skip
            have c_3 : ¬ (nod N zj) = 1 := fun z => c_3 ((nI_eq (a := (nod N zj)) (b := 1) (by omega) (by omega)).mpr z)
            have hfl : (0 : Int32) = bI (decide (zj + 1 = lvs N)) := by rw [decide_eq_false (by have := lvs_no hN (show zj + 1 ≤ lvs N by omega) (by omega); omega)]; rfl
            refine lv_iconst (v := 0) hx hb dX1_init_76 (by decide) ?_
            refine x_eqi (y := bI (decide (zj + 1 = lvs N))) hfl ?_
            refine lv_istore (lv' := [(5, .int (bI (decide (zj + 1 = lvs N)))), (3, .int (nI ((ahd N zj) + (nod N zj)))), (0, .ref h0), (1, .int (nI N)), (2, .int (nI (nod N zj))), (4, .int (nI zj))]) hx hb dX1_init_77 hl (by decide) rfl (fun ls hl => ?_)
            refine lv_iload_n hx hb dX1_init_79 rfl (lv_at hl 4 rfl) ?_
            refine lv_iconst (v := 1) hx hb dX1_init_80 (by decide) ?_
            refine lv_iadd hx hb dX1_init_81 ?_
            refine x_eqi (y := nI ((nod N zj) + 1)) (nI_add (nod N zj) 1) ?_
            refine lv_iconst (v := 2) hx hb dX1_init_82 (by decide) ?_
            refine lv_idiv hx hb dX1_init_83 (by decide) ?_
            refine x_eqi (y := nI (((nod N zj) + 1) / 2)) (pk_div (a := (nod N zj) + 1) (d := 2) (by omega) (by omega) (by omega)) ?_
            refine lv_istore_n (lv' := [(2, .int (nI (((nod N zj) + 1) / 2))), (5, .int (bI (decide (zj + 1 = lvs N)))), (3, .int (nI ((ahd N zj) + (nod N zj)))), (0, .ref h0), (1, .int (nI N)), (4, .int (nI zj))]) hx hb dX1_init_84 rfl hl (by decide) rfl (fun ls hl => ?_)
            refine lv_iinc (v := nI (zj + 1)) (lv' := [(4, .int (nI (zj + 1))), (2, .int (nI (((nod N zj) + 1) / 2))), (5, .int (bI (decide (zj + 1 = lvs N)))), (3, .int (nI ((ahd N zj) + (nod N zj)))), (0, .ref h0), (1, .int (nI N))]) hx hb dX1_init_85 hl (k := 5) rfl (nI_1 _) (by decide) rfl (fun ls hl => ?_)
            refine lv_goto (tgt := 35) hx hb dX1_init_88 (by decide) ?_
            exact ih_35 (zj + 1) (by omega) (by omega) _ _ _ hP hD hS (lv_sub hl [4, 5, 1, 3, 0, 2] rfl)
          · skip
            have c_3 : (nod N zj) = 1 := (nI_eq (a := (nod N zj)) (b := 1) (by omega) (by omega)).mp c_3
            have hfl : (1 : Int32) = bI (decide (zj + 1 = lvs N)) := by rw [decide_eq_true (lvs_is hN (by omega) (by omega))]; rfl
            refine lv_iconst (v := 1) hx hb dX1_init_72 (by decide) ?_
            refine lv_goto (tgt := 77) hx hb dX1_init_73 (by decide) ?_
            refine x_eqi (y := bI (decide (zj + 1 = lvs N))) hfl ?_
            refine lv_istore (lv' := [(5, .int (bI (decide (zj + 1 = lvs N)))), (3, .int (nI ((ahd N zj) + (nod N zj)))), (0, .ref h0), (1, .int (nI N)), (2, .int (nI (nod N zj))), (4, .int (nI zj))]) hx hb dX1_init_77 hl (by decide) rfl (fun ls hl => ?_)
            refine lv_iload_n hx hb dX1_init_79 rfl (lv_at hl 4 rfl) ?_
            refine lv_iconst (v := 1) hx hb dX1_init_80 (by decide) ?_
            refine lv_iadd hx hb dX1_init_81 ?_
            refine x_eqi (y := nI ((nod N zj) + 1)) (nI_add (nod N zj) 1) ?_
            refine lv_iconst (v := 2) hx hb dX1_init_82 (by decide) ?_
            refine lv_idiv hx hb dX1_init_83 (by decide) ?_
            refine x_eqi (y := nI (((nod N zj) + 1) / 2)) (pk_div (a := (nod N zj) + 1) (d := 2) (by omega) (by omega) (by omega)) ?_
            refine lv_istore_n (lv' := [(2, .int (nI (((nod N zj) + 1) / 2))), (5, .int (bI (decide (zj + 1 = lvs N)))), (3, .int (nI ((ahd N zj) + (nod N zj)))), (0, .ref h0), (1, .int (nI N)), (4, .int (nI zj))]) hx hb dX1_init_84 rfl hl (by decide) rfl (fun ls hl => ?_)
            refine lv_iinc (v := nI (zj + 1)) (lv' := [(4, .int (nI (zj + 1))), (2, .int (nI (((nod N zj) + 1) / 2))), (5, .int (bI (decide (zj + 1 = lvs N)))), (3, .int (nI ((ahd N zj) + (nod N zj)))), (0, .ref h0), (1, .int (nI N))]) hx hb dX1_init_85 hl (k := 5) rfl (nI_1 _) (by decide) rfl (fun ls hl => ?_)
            refine lv_goto (tgt := 35) hx hb dX1_init_88 (by decide) ?_
            exact ih_35 (zj + 1) (by omega) (by omega) _ _ _ hP hD hS (lv_sub hl [4, 5, 1, 3, 0, 2] rfl)
  have hP : va_P G vwCl ([(h0, .inr (1, [.int (nI N), .int 0, .int 0, .int 0, .ref q12, .ref q20])), (q12, .inl (cA, 7, .inl (widK N 0))), (q20, .inl (cA, 7, .inl (ahK N 0)))]) H := by rw [widK_0, ahK_0]; exact hP
  have hD : va_D (oA h0 s.heap.size) ([(h0, .inr (1, [.int (nI N), .int 0, .int 0, .int 0, .ref q12, .ref q20])), (q12, .inl (cA, 7, .inl (widK N 0))), (q20, .inl (cA, 7, .inl (ahK N 0)))]) := by rw [widK_0, ahK_0]; exact hD
  exact loop_35 _ 0 (Nat.lt_succ_self _) (by omega) _ _ _ hP hD hS (lv_sub hl [4, 5, 3, 2, 1, 0] rfl)

set_option maxHeartbeats 4000000 in
set_option maxRecDepth 100000 in
theorem c_X2_init (l : Launch) (G : va_G) (cA : ClassId) (tF tC : Nat) (h0 sz : Nat) (x : Int32) : CC l yX2_init wsX2_init 6 12 16750 147 G cA tF tC h0 2 [.null, .null, .null, .null, .null, .null, .null, .null, .int 0, .int 0, .int 0, .int 0] eN sz [.int x] (fun (u : (Nat → Nat) × (Nat → Int32) × (Nat → Int32) × Int32) => xW u.1 cA (clN x) (sAll (clN x) (fun _ => 0)) (sRoot (clN x) (sAll (clN x) (fun _ => 0)) (fun _ => 0)) (fun _ => 0) (fun _ => 0) (fun _ => 0) (fun _ => 0) u.2.1 u.2.2.1 u.2.2.2 0 0 0 0) (fun u => u.1 0 = h0) := by
  refine k_entry (cc := cX2_init) (maxL := 2) (by decide) rfl rfl (Nat.le_of_ble_eq_true rfl) ?_
  intro p e s m args below meth c Q hx hb hml hown hin hts hK hP hD hS hA hT hE hret ls hl
  have hown : s.vm.findClass RX2 = some m.cls := hown
  have hl : lv_has ls 2 [(0, .ref h0), (1, .int x)] := hl
  have hinX0 : ∀ w ∈ wsX00, w ∈ wsX2_init := by decide +kernel
  have hinX1 : ∀ w ∈ wsX10, w ∈ wsX2_init := by decide +kernel
  have hinX2 : ∀ w ∈ wsX20, w ∈ wsX2_init := by decide +kernel
  obtain ⟨N, eN1⟩ : ∃ N, N = clN x := ⟨_, rfl⟩
  have hN : 1 ≤ N ∧ N ≤ 64 := by rw [eN1]; exact clN_in x
  have hz := siz_le hN
  have hnd := nds_le hN
  have hlv := lvs_in hN
  refine lv_aload_n hx hb dX2_init_0 rfl (lv_at hl 0 rfl) ?_
  refine W.objInit hx hb hown (hts (.methodLink RX2 1 objectInit) (by decide +kernel)) (hts (.instanceMethod objectInit) (by decide +kernel)) (hts (.code objectInit ⟨#[0xb1]⟩ 1 none) (by decide +kernel)) rfl (by rw [hml]; exact hl.1) rfl dX2_init_1 (Nat.le_of_ble_eq_true rfl) (Nat.le_of_ble_eq_true rfl) ?_
  refine W.eq (g2 := F0 m 4 ls []) rfl ?_
  refine lv_aload_n hx hb dX2_init_4 rfl (lv_at hl 0 rfl) ?_
  refine va_new (ci := 1) (fs := [.int 0, .int 0, .int 0, .int 0, .null, .null]) (C := RX1) (T := TX1) (N := 6) hx hb hts hinX1 tyX1 tyX1_ok hown (hts (.classLink RX2 7 RX1) (by decide +kernel)) (hts (.instantiable RX1 6) (by decide +kernel)) (hts (.initialized RX1) (by decide +kernel)) hK hP hD hS hA rfl (fun zj hj => by rcases (show zj = 0 ∨ zj = 1 ∨ zj = 2 ∨ zj = 3 ∨ zj = 4 ∨ zj = 5 by omega) with rfl | rfl | rfl | rfl | rfl | rfl <;> rfl) (Nat.le_of_ble_eq_true rfl) (Nat.le_of_ble_eq_true rfl) dX2_init_5 (fun q5 H hP hD hS => ?_)
  have hP : va_P G vwCl ([(h0, .inr (2, [.null, .null, .null, .null, .null, .null, .null, .null, .int 0, .int 0, .int 0, .int 0])), (q5, .inr (1, [.int 0, .int 0, .int 0, .int 0, .null, .null]))]) _ := hP
  have hD : va_D _ ([(h0, .inr (2, [.null, .null, .null, .null, .null, .null, .null, .null, .int 0, .int 0, .int 0, .int 0])), (q5, .inr (1, [.int 0, .int 0, .int 0, .int 0, .null, .null]))]) := hD
  refine W.widen (k := 1) (n := 6) (by omega) (by omega) ?_
  refine lv_dup hx hb dX2_init_8 rfl ?_
  refine lv_iconst (v := 1) hx hb dX2_init_9 (by decide) ?_
  refine lv_bipush (v := 64) hx hb dX2_init_10 (by decide) ?_
  refine lv_iload_n hx hb dX2_init_12 rfl (lv_at hl 1 rfl) ?_
  refine va_mmin hx hb (by rw [hml]; exact hl.1.symm) hown (hts (.methodLink RX2 11 Lib.Math.min.name) (by decide +kernel)) (hts (.static Lib.Math.min.name) (by decide +kernel)) (hts (.initialized "java/lang/Math") (by decide +kernel)) (hts (.code Lib.Math.min.name Lib.Math.min.code 2 (some .int)) (by decide +kernel)) (Nat.le_of_ble_eq_true rfl) (Nat.le_of_ble_eq_true rfl) (Nat.le_of_ble_eq_true rfl) (Nat.le_of_ble_eq_true rfl) dX2_init_13 ?_
  refine va_mmax hx hb (by rw [hml]; exact hl.1.symm) hown (hts (.methodLink RX2 17 Lib.Math.max.name) (by decide +kernel)) (hts (.static Lib.Math.max.name) (by decide +kernel)) (hts (.initialized "java/lang/Math") (by decide +kernel)) (hts (.code Lib.Math.max.name Lib.Math.max.code 2 (some .int)) (by decide +kernel)) (Nat.le_of_ble_eq_true rfl) (Nat.le_of_ble_eq_true rfl) (Nat.le_of_ble_eq_true rfl) (Nat.le_of_ble_eq_true rfl) dX2_init_16 ?_
  refine x_eqi (y := nI N) (by rw [eN1]; exact clN_x x) ?_
  refine k_init (wr := [(h0, .inr (2, [.null, .null, .null, .null, .null, .null, .null, .null, .int 0, .int 0, .int 0, .int 0]))]) ⟨hx, hb, hml, hown, hts⟩ (c_X1_init l G cA tF tC q5 _ N hN) (cwI 1 hts gX2_init_X1_init rfl rfl rfl (hts (.initialized RX1) (by decide +kernel)) (hts (.methodLink RX2 20 yX1_init) (by decide +kernel)) (hts (.instanceMethod yX1_init) (by decide +kernel)) rfl (by decide +kernel) ⟨Nat.le_of_ble_eq_true rfl, Nat.le_of_ble_eq_true rfl⟩) (fun _ _ _ _ _ => trivial) (fun _ _ => trivial) hK hP hD hS hA hT rfl hl.1 rfl (Nat.le_of_ble_eq_true rfl) dX2_init_19 ⟨Nat.le_of_ble_eq_true rfl, Nat.le_of_ble_eq_true rfl⟩ (fun u H locs hp hP hD hS => ?_)
  obtain ⟨a9, a10⟩ := u
  have hP : va_P G vwCl ([(h0, .inr (2, [.null, .null, .null, .null, .null, .null, .null, .null, .int 0, .int 0, .int 0, .int 0])), (q5, .inr (1, [.int (nI N), .int (nI (lvs N)), .int (nI (nds N)), .int (nI (siz N)), .ref a9, .ref a10])), (a9, .inl (cA, 7, .inl (wid N))), (a10, .inl (cA, 7, .inl (ahA N)))]) _ := hP
  have hD : va_D _ ([(h0, .inr (2, [.null, .null, .null, .null, .null, .null, .null, .null, .int 0, .int 0, .int 0, .int 0])), (q5, .inr (1, [.int (nI N), .int (nI (lvs N)), .int (nI (nds N)), .int (nI (siz N)), .ref a9, .ref a10])), (a9, .inl (cA, 7, .inl (wid N))), (a10, .inl (cA, 7, .inl (ahA N)))]) := hD
  refine W.widen (k := 3) (n := 20) (by omega) (by omega) ?_
  refine va_putF (D := G) (ci := 2) (v := .ref q5) (ty := .object "SealedPages$Layout") (C := RX2) (T := TX2) (N := 12) hx hb hts hinX2 tyX2 tyX2_ok nmX2 hown hK hP hD hS 0 rfl rfl 0 (by decide) (hts (.fieldLink RX2 23 "SealedPages" "layout" "LSealedPages$Layout;") (by decide +kernel)) (fun _ h => h) rfl hin rfl (by decide +kernel) rfl rfl (Nat.le_of_ble_eq_true rfl) dX2_init_22 (fun H locs hP hD hS => ?_)
  have hP : va_P G vwCl ([(h0, .inr (2, [.ref q5, .null, .null, .null, .null, .null, .null, .null, .int 0, .int 0, .int 0, .int 0])), (q5, .inr (1, [.int (nI N), .int (nI (lvs N)), .int (nI (nds N)), .int (nI (siz N)), .ref a9, .ref a10])), (a9, .inl (cA, 7, .inl (wid N))), (a10, .inl (cA, 7, .inl (ahA N)))]) _ := hP
  have hD : va_D _ ([(h0, .inr (2, [.ref q5, .null, .null, .null, .null, .null, .null, .null, .int 0, .int 0, .int 0, .int 0])), (q5, .inr (1, [.int (nI N), .int (nI (lvs N)), .int (nI (nds N)), .int (nI (siz N)), .ref a9, .ref a10])), (a9, .inl (cA, 7, .inl (wid N))), (a10, .inl (cA, 7, .inl (ahA N)))]) := hD
  refine lv_aload_n hx hb dX2_init_25 rfl (lv_at hl 0 rfl) ?_
  refine va_new (ci := 0) (fs := [.null, .null, .int 0]) (C := RX0) (T := TX0) (N := 3) hx hb hts hinX0 tyX0 tyX0_ok hown (hts (.classLink RX2 27 RX0) (by decide +kernel)) (hts (.instantiable RX0 3) (by decide +kernel)) (hts (.initialized RX0) (by decide +kernel)) hK hP hD hS hA rfl (fun zj hj => by rcases (show zj = 0 ∨ zj = 1 ∨ zj = 2 by omega) with rfl | rfl | rfl <;> rfl) (Nat.le_of_ble_eq_true rfl) (Nat.le_of_ble_eq_true rfl) dX2_init_26 (fun q26 H hP hD hS => ?_)
  have hP : va_P G vwCl ([(h0, .inr (2, [.ref q5, .null, .null, .null, .null, .null, .null, .null, .int 0, .int 0, .int 0, .int 0])), (q5, .inr (1, [.int (nI N), .int (nI (lvs N)), .int (nI (nds N)), .int (nI (siz N)), .ref a9, .ref a10])), (a9, .inl (cA, 7, .inl (wid N))), (a10, .inl (cA, 7, .inl (ahA N))), (q26, .inr (0, [.null, .null, .int 0]))]) _ := hP
  have hD : va_D _ ([(h0, .inr (2, [.ref q5, .null, .null, .null, .null, .null, .null, .null, .int 0, .int 0, .int 0, .int 0])), (q5, .inr (1, [.int (nI N), .int (nI (lvs N)), .int (nI (nds N)), .int (nI (siz N)), .ref a9, .ref a10])), (a9, .inl (cA, 7, .inl (wid N))), (a10, .inl (cA, 7, .inl (ahA N))), (q26, .inr (0, [.null, .null, .int 0]))]) := hD
  refine W.widen (k := 4) (n := 23) (by omega) (by omega) ?_
  refine lv_dup hx hb dX2_init_29 rfl ?_
  refine k_initN (host := "SealedPages") (wr := [(h0, .inr (2, [.ref q5, .null, .null, .null, .null, .null, .null, .null, .int 0, .int 0, .int 0, .int 0])), (q5, .inr (1, [.int (nI N), .int (nI (lvs N)), .int (nI (nds N)), .int (nI (siz N)), .ref a9, .ref a10])), (a9, .inl (cA, 7, .inl (wid N))), (a10, .inl (cA, 7, .inl (ahA N)))]) ⟨hx, hb, hml, hown, hts⟩ (c_X0_init l G cA tF tC q26 _ ) ⟨va_cnB 0 hts gX2_init_X0_init_n29 rfl rfl rfl (show va_Nw (.methodLinkNest RX2 29 yX0_init "SealedPages") s from hE) (hts (.initialized RX0) (by decide +kernel)) (by decide +kernel) ⟨Nat.le_of_ble_eq_true rfl, Nat.le_of_ble_eq_true rfl⟩, rfl, hts (.instanceMethod yX0_init) (by decide +kernel)⟩ (fun _ _ _ _ _ => trivial) (fun _ _ => trivial) hK hP hD hS hA hT rfl hl.1 rfl (Nat.le_of_ble_eq_true rfl) dX2_init_30 ⟨Nat.le_of_ble_eq_true rfl, Nat.le_of_ble_eq_true rfl⟩ (fun u H locs hp hP hD hS => ?_)
  obtain ⟨a11, a12⟩ := u
  have hP : va_P G vwCl ([(h0, .inr (2, [.ref q5, .null, .null, .null, .null, .null, .null, .null, .int 0, .int 0, .int 0, .int 0])), (q5, .inr (1, [.int (nI N), .int (nI (lvs N)), .int (nI (nds N)), .int (nI (siz N)), .ref a9, .ref a10])), (a9, .inl (cA, 7, .inl (wid N))), (a10, .inl (cA, 7, .inl (ahA N))), (q26, .inr (0, [.ref a11, .ref a12, .int 0])), (a11, .inl (cA, 8, .inl (fun _ => 0))), (a12, .inl (cA, 64, .inl (fun _ => 0)))]) _ := hP
  have hD : va_D _ ([(h0, .inr (2, [.ref q5, .null, .null, .null, .null, .null, .null, .null, .int 0, .int 0, .int 0, .int 0])), (q5, .inr (1, [.int (nI N), .int (nI (lvs N)), .int (nI (nds N)), .int (nI (siz N)), .ref a9, .ref a10])), (a9, .inl (cA, 7, .inl (wid N))), (a10, .inl (cA, 7, .inl (ahA N))), (q26, .inr (0, [.ref a11, .ref a12, .int 0])), (a11, .inl (cA, 8, .inl (fun _ => 0))), (a12, .inl (cA, 64, .inl (fun _ => 0)))]) := hD
  refine W.widen (k := 6) (n := 95) (by omega) (by omega) ?_
  refine va_putF (D := G) (ci := 2) (v := .ref q26) (ty := .object "SealedPages$Hasher") (C := RX2) (T := TX2) (N := 12) hx hb hts hinX2 tyX2 tyX2_ok nmX2 hown hK hP hD hS 0 rfl rfl 1 (by decide) (hts (.fieldLink RX2 30 "SealedPages" "hasher" "LSealedPages$Hasher;") (by decide +kernel)) (fun _ h => h) rfl hin rfl (by decide +kernel) rfl rfl (Nat.le_of_ble_eq_true rfl) dX2_init_33 (fun H locs hP hD hS => ?_)
  have hP : va_P G vwCl ([(h0, .inr (2, [.ref q5, .ref q26, .null, .null, .null, .null, .null, .null, .int 0, .int 0, .int 0, .int 0])), (q5, .inr (1, [.int (nI N), .int (nI (lvs N)), .int (nI (nds N)), .int (nI (siz N)), .ref a9, .ref a10])), (a9, .inl (cA, 7, .inl (wid N))), (a10, .inl (cA, 7, .inl (ahA N))), (q26, .inr (0, [.ref a11, .ref a12, .int 0])), (a11, .inl (cA, 8, .inl (fun _ => 0))), (a12, .inl (cA, 64, .inl (fun _ => 0)))]) _ := hP
  have hD : va_D _ ([(h0, .inr (2, [.ref q5, .ref q26, .null, .null, .null, .null, .null, .null, .int 0, .int 0, .int 0, .int 0])), (q5, .inr (1, [.int (nI N), .int (nI (lvs N)), .int (nI (nds N)), .int (nI (siz N)), .ref a9, .ref a10])), (a9, .inl (cA, 7, .inl (wid N))), (a10, .inl (cA, 7, .inl (ahA N))), (q26, .inr (0, [.ref a11, .ref a12, .int 0])), (a11, .inl (cA, 8, .inl (fun _ => 0))), (a12, .inl (cA, 64, .inl (fun _ => 0)))]) := hD
  refine lv_aload_n hx hb dX2_init_36 rfl (lv_at hl 0 rfl) ?_
  refine lv_aload_n hx hb dX2_init_37 rfl (lv_at hl 0 rfl) ?_
  refine va_get (D := G) (ci := 2) (v := .ref q5) (C := RX2) (T := TX2) (N := 12) hx hb hts hinX2 hown hK hP 0 rfl rfl 0 (by decide) (hts (.fieldLink RX2 23 "SealedPages" "layout" "LSealedPages$Layout;") (by decide +kernel)) (fun _ h => h) rfl dX2_init_38 ?_
  refine va_get (D := G) (ci := 1) (v := .int (nI (siz N))) (C := RX1) (T := TX1) (N := 6) hx hb hts hinX1 hown hK hP 1 rfl rfl 3 (by decide) (hts (.fieldLink RX2 34 "SealedPages$Layout" "byteCount" "I") (by decide +kernel)) (fun _ h => h) rfl dX2_init_41 ?_
  refine k_newa (N' := siz N) hx hb (hts (.arrayClass .int) (by decide +kernel)) hK hP hD hS hA (by omega) (Nat.le_of_ble_eq_true rfl) (by show 95 + siz N ≤ 16750; omega) dX2_init_44 (fun q44 H hP hD hS => ?_)
  have hP : va_P G vwCl ([(h0, .inr (2, [.ref q5, .ref q26, .null, .null, .null, .null, .null, .null, .int 0, .int 0, .int 0, .int 0])), (q5, .inr (1, [.int (nI N), .int (nI (lvs N)), .int (nI (nds N)), .int (nI (siz N)), .ref a9, .ref a10])), (a9, .inl (cA, 7, .inl (wid N))), (a10, .inl (cA, 7, .inl (ahA N))), (q26, .inr (0, [.ref a11, .ref a12, .int 0])), (a11, .inl (cA, 8, .inl (fun _ => 0))), (a12, .inl (cA, 64, .inl (fun _ => 0))), (q44, .inl (cA, siz N, .inl (fun _ => 0)))]) _ := hP
  have hD : va_D _ ([(h0, .inr (2, [.ref q5, .ref q26, .null, .null, .null, .null, .null, .null, .int 0, .int 0, .int 0, .int 0])), (q5, .inr (1, [.int (nI N), .int (nI (lvs N)), .int (nI (nds N)), .int (nI (siz N)), .ref a9, .ref a10])), (a9, .inl (cA, 7, .inl (wid N))), (a10, .inl (cA, 7, .inl (ahA N))), (q26, .inr (0, [.ref a11, .ref a12, .int 0])), (a11, .inl (cA, 8, .inl (fun _ => 0))), (a12, .inl (cA, 64, .inl (fun _ => 0))), (q44, .inl (cA, siz N, .inl (fun _ => 0)))]) := hD
  refine W.widen (k := 7) (n := 8295) (by omega) (by omega) ?_
  refine va_putF (D := G) (ci := 2) (v := .ref q44) (ty := .array .int) (C := RX2) (T := TX2) (N := 12) hx hb hts hinX2 tyX2 tyX2_ok nmX2 hown hK hP hD hS 0 rfl rfl 2 (by decide) (hts (.fieldLink RX2 38 "SealedPages" "diskBytes" "[I") (by decide +kernel)) (fun _ h => h) rfl hin rfl (by decide +kernel) rfl rfl (Nat.le_of_ble_eq_true rfl) dX2_init_46 (fun H locs hP hD hS => ?_)
  have hP : va_P G vwCl ([(h0, .inr (2, [.ref q5, .ref q26, .ref q44, .null, .null, .null, .null, .null, .int 0, .int 0, .int 0, .int 0])), (q5, .inr (1, [.int (nI N), .int (nI (lvs N)), .int (nI (nds N)), .int (nI (siz N)), .ref a9, .ref a10])), (a9, .inl (cA, 7, .inl (wid N))), (a10, .inl (cA, 7, .inl (ahA N))), (q26, .inr (0, [.ref a11, .ref a12, .int 0])), (a11, .inl (cA, 8, .inl (fun _ => 0))), (a12, .inl (cA, 64, .inl (fun _ => 0))), (q44, .inl (cA, siz N, .inl (fun _ => 0)))]) _ := hP
  have hD : va_D _ ([(h0, .inr (2, [.ref q5, .ref q26, .ref q44, .null, .null, .null, .null, .null, .int 0, .int 0, .int 0, .int 0])), (q5, .inr (1, [.int (nI N), .int (nI (lvs N)), .int (nI (nds N)), .int (nI (siz N)), .ref a9, .ref a10])), (a9, .inl (cA, 7, .inl (wid N))), (a10, .inl (cA, 7, .inl (ahA N))), (q26, .inr (0, [.ref a11, .ref a12, .int 0])), (a11, .inl (cA, 8, .inl (fun _ => 0))), (a12, .inl (cA, 64, .inl (fun _ => 0))), (q44, .inl (cA, siz N, .inl (fun _ => 0)))]) := hD
  refine lv_aload_n hx hb dX2_init_49 rfl (lv_at hl 0 rfl) ?_
  refine lv_bipush (v := 32) hx hb dX2_init_50 (by decide) ?_
  refine k_newa (N' := 32) hx hb (hts (.arrayClass .int) (by decide +kernel)) hK hP hD hS hA (by omega) (Nat.le_of_ble_eq_true rfl) (by show 8295 + 32 ≤ 16750; omega) dX2_init_52 (fun q52 H hP hD hS => ?_)
  have hP : va_P G vwCl ([(h0, .inr (2, [.ref q5, .ref q26, .ref q44, .null, .null, .null, .null, .null, .int 0, .int 0, .int 0, .int 0])), (q5, .inr (1, [.int (nI N), .int (nI (lvs N)), .int (nI (nds N)), .int (nI (siz N)), .ref a9, .ref a10])), (a9, .inl (cA, 7, .inl (wid N))), (a10, .inl (cA, 7, .inl (ahA N))), (q26, .inr (0, [.ref a11, .ref a12, .int 0])), (a11, .inl (cA, 8, .inl (fun _ => 0))), (a12, .inl (cA, 64, .inl (fun _ => 0))), (q44, .inl (cA, siz N, .inl (fun _ => 0))), (q52, .inl (cA, 32, .inl (fun _ => 0)))]) _ := hP
  have hD : va_D _ ([(h0, .inr (2, [.ref q5, .ref q26, .ref q44, .null, .null, .null, .null, .null, .int 0, .int 0, .int 0, .int 0])), (q5, .inr (1, [.int (nI N), .int (nI (lvs N)), .int (nI (nds N)), .int (nI (siz N)), .ref a9, .ref a10])), (a9, .inl (cA, 7, .inl (wid N))), (a10, .inl (cA, 7, .inl (ahA N))), (q26, .inr (0, [.ref a11, .ref a12, .int 0])), (a11, .inl (cA, 8, .inl (fun _ => 0))), (a12, .inl (cA, 64, .inl (fun _ => 0))), (q44, .inl (cA, siz N, .inl (fun _ => 0))), (q52, .inl (cA, 32, .inl (fun _ => 0)))]) := hD
  refine W.widen (k := 8) (n := 8327) (by omega) (by omega) ?_
  refine va_putF (D := G) (ci := 2) (v := .ref q52) (ty := .array .int) (C := RX2) (T := TX2) (N := 12) hx hb hts hinX2 tyX2 tyX2_ok nmX2 hown hK hP hD hS 0 rfl rfl 3 (by decide) (hts (.fieldLink RX2 42 "SealedPages" "rootBytes" "[I") (by decide +kernel)) (fun _ h => h) rfl hin rfl (by decide +kernel) rfl rfl (Nat.le_of_ble_eq_true rfl) dX2_init_54 (fun H locs hP hD hS => ?_)
  have hP : va_P G vwCl ([(h0, .inr (2, [.ref q5, .ref q26, .ref q44, .ref q52, .null, .null, .null, .null, .int 0, .int 0, .int 0, .int 0])), (q5, .inr (1, [.int (nI N), .int (nI (lvs N)), .int (nI (nds N)), .int (nI (siz N)), .ref a9, .ref a10])), (a9, .inl (cA, 7, .inl (wid N))), (a10, .inl (cA, 7, .inl (ahA N))), (q26, .inr (0, [.ref a11, .ref a12, .int 0])), (a11, .inl (cA, 8, .inl (fun _ => 0))), (a12, .inl (cA, 64, .inl (fun _ => 0))), (q44, .inl (cA, siz N, .inl (fun _ => 0))), (q52, .inl (cA, 32, .inl (fun _ => 0)))]) _ := hP
  have hD : va_D _ ([(h0, .inr (2, [.ref q5, .ref q26, .ref q44, .ref q52, .null, .null, .null, .null, .int 0, .int 0, .int 0, .int 0])), (q5, .inr (1, [.int (nI N), .int (nI (lvs N)), .int (nI (nds N)), .int (nI (siz N)), .ref a9, .ref a10])), (a9, .inl (cA, 7, .inl (wid N))), (a10, .inl (cA, 7, .inl (ahA N))), (q26, .inr (0, [.ref a11, .ref a12, .int 0])), (a11, .inl (cA, 8, .inl (fun _ => 0))), (a12, .inl (cA, 64, .inl (fun _ => 0))), (q44, .inl (cA, siz N, .inl (fun _ => 0))), (q52, .inl (cA, 32, .inl (fun _ => 0)))]) := hD
  refine lv_aload_n hx hb dX2_init_57 rfl (lv_at hl 0 rfl) ?_
  refine lv_bipush (v := 64) hx hb dX2_init_58 (by decide) ?_
  refine k_newa (N' := 64) hx hb (hts (.arrayClass .int) (by decide +kernel)) hK hP hD hS hA (by omega) (Nat.le_of_ble_eq_true rfl) (by show 8327 + 64 ≤ 16750; omega) dX2_init_60 (fun q60 H hP hD hS => ?_)
  have hP : va_P G vwCl ([(h0, .inr (2, [.ref q5, .ref q26, .ref q44, .ref q52, .null, .null, .null, .null, .int 0, .int 0, .int 0, .int 0])), (q5, .inr (1, [.int (nI N), .int (nI (lvs N)), .int (nI (nds N)), .int (nI (siz N)), .ref a9, .ref a10])), (a9, .inl (cA, 7, .inl (wid N))), (a10, .inl (cA, 7, .inl (ahA N))), (q26, .inr (0, [.ref a11, .ref a12, .int 0])), (a11, .inl (cA, 8, .inl (fun _ => 0))), (a12, .inl (cA, 64, .inl (fun _ => 0))), (q44, .inl (cA, siz N, .inl (fun _ => 0))), (q52, .inl (cA, 32, .inl (fun _ => 0))), (q60, .inl (cA, 64, .inl (fun _ => 0)))]) _ := hP
  have hD : va_D _ ([(h0, .inr (2, [.ref q5, .ref q26, .ref q44, .ref q52, .null, .null, .null, .null, .int 0, .int 0, .int 0, .int 0])), (q5, .inr (1, [.int (nI N), .int (nI (lvs N)), .int (nI (nds N)), .int (nI (siz N)), .ref a9, .ref a10])), (a9, .inl (cA, 7, .inl (wid N))), (a10, .inl (cA, 7, .inl (ahA N))), (q26, .inr (0, [.ref a11, .ref a12, .int 0])), (a11, .inl (cA, 8, .inl (fun _ => 0))), (a12, .inl (cA, 64, .inl (fun _ => 0))), (q44, .inl (cA, siz N, .inl (fun _ => 0))), (q52, .inl (cA, 32, .inl (fun _ => 0))), (q60, .inl (cA, 64, .inl (fun _ => 0)))]) := hD
  refine W.widen (k := 9) (n := 8391) (by omega) (by omega) ?_
  refine va_putF (D := G) (ci := 2) (v := .ref q60) (ty := .array .int) (C := RX2) (T := TX2) (N := 12) hx hb hts hinX2 tyX2 tyX2_ok nmX2 hown hK hP hD hS 0 rfl rfl 4 (by decide) (hts (.fieldLink RX2 45 "SealedPages" "draftBytes" "[I") (by decide +kernel)) (fun _ h => h) rfl hin rfl (by decide +kernel) rfl rfl (Nat.le_of_ble_eq_true rfl) dX2_init_62 (fun H locs hP hD hS => ?_)
  have hP : va_P G vwCl ([(h0, .inr (2, [.ref q5, .ref q26, .ref q44, .ref q52, .ref q60, .null, .null, .null, .int 0, .int 0, .int 0, .int 0])), (q5, .inr (1, [.int (nI N), .int (nI (lvs N)), .int (nI (nds N)), .int (nI (siz N)), .ref a9, .ref a10])), (a9, .inl (cA, 7, .inl (wid N))), (a10, .inl (cA, 7, .inl (ahA N))), (q26, .inr (0, [.ref a11, .ref a12, .int 0])), (a11, .inl (cA, 8, .inl (fun _ => 0))), (a12, .inl (cA, 64, .inl (fun _ => 0))), (q44, .inl (cA, siz N, .inl (fun _ => 0))), (q52, .inl (cA, 32, .inl (fun _ => 0))), (q60, .inl (cA, 64, .inl (fun _ => 0)))]) _ := hP
  have hD : va_D _ ([(h0, .inr (2, [.ref q5, .ref q26, .ref q44, .ref q52, .ref q60, .null, .null, .null, .int 0, .int 0, .int 0, .int 0])), (q5, .inr (1, [.int (nI N), .int (nI (lvs N)), .int (nI (nds N)), .int (nI (siz N)), .ref a9, .ref a10])), (a9, .inl (cA, 7, .inl (wid N))), (a10, .inl (cA, 7, .inl (ahA N))), (q26, .inr (0, [.ref a11, .ref a12, .int 0])), (a11, .inl (cA, 8, .inl (fun _ => 0))), (a12, .inl (cA, 64, .inl (fun _ => 0))), (q44, .inl (cA, siz N, .inl (fun _ => 0))), (q52, .inl (cA, 32, .inl (fun _ => 0))), (q60, .inl (cA, 64, .inl (fun _ => 0)))]) := hD
  refine lv_aload_n hx hb dX2_init_65 rfl (lv_at hl 0 rfl) ?_
  refine lv_aload_n hx hb dX2_init_66 rfl (lv_at hl 0 rfl) ?_
  refine va_get (D := G) (ci := 2) (v := .ref q5) (C := RX2) (T := TX2) (N := 12) hx hb hts hinX2 hown hK hP 0 rfl rfl 0 (by decide) (hts (.fieldLink RX2 23 "SealedPages" "layout" "LSealedPages$Layout;") (by decide +kernel)) (fun _ h => h) rfl dX2_init_67 ?_
  refine va_get (D := G) (ci := 1) (v := .int (nI (siz N))) (C := RX1) (T := TX1) (N := 6) hx hb hts hinX1 hown hK hP 1 rfl rfl 3 (by decide) (hts (.fieldLink RX2 34 "SealedPages$Layout" "byteCount" "I") (by decide +kernel)) (fun _ h => h) rfl dX2_init_70 ?_
  refine k_newa (N' := siz N) hx hb (hts (.arrayClass .int) (by decide +kernel)) hK hP hD hS hA (by omega) (Nat.le_of_ble_eq_true rfl) (by show 8391 + siz N ≤ 16750; omega) dX2_init_73 (fun q73 H hP hD hS => ?_)
  have hP : va_P G vwCl ([(h0, .inr (2, [.ref q5, .ref q26, .ref q44, .ref q52, .ref q60, .null, .null, .null, .int 0, .int 0, .int 0, .int 0])), (q5, .inr (1, [.int (nI N), .int (nI (lvs N)), .int (nI (nds N)), .int (nI (siz N)), .ref a9, .ref a10])), (a9, .inl (cA, 7, .inl (wid N))), (a10, .inl (cA, 7, .inl (ahA N))), (q26, .inr (0, [.ref a11, .ref a12, .int 0])), (a11, .inl (cA, 8, .inl (fun _ => 0))), (a12, .inl (cA, 64, .inl (fun _ => 0))), (q44, .inl (cA, siz N, .inl (fun _ => 0))), (q52, .inl (cA, 32, .inl (fun _ => 0))), (q60, .inl (cA, 64, .inl (fun _ => 0))), (q73, .inl (cA, siz N, .inl (fun _ => 0)))]) _ := hP
  have hD : va_D _ ([(h0, .inr (2, [.ref q5, .ref q26, .ref q44, .ref q52, .ref q60, .null, .null, .null, .int 0, .int 0, .int 0, .int 0])), (q5, .inr (1, [.int (nI N), .int (nI (lvs N)), .int (nI (nds N)), .int (nI (siz N)), .ref a9, .ref a10])), (a9, .inl (cA, 7, .inl (wid N))), (a10, .inl (cA, 7, .inl (ahA N))), (q26, .inr (0, [.ref a11, .ref a12, .int 0])), (a11, .inl (cA, 8, .inl (fun _ => 0))), (a12, .inl (cA, 64, .inl (fun _ => 0))), (q44, .inl (cA, siz N, .inl (fun _ => 0))), (q52, .inl (cA, 32, .inl (fun _ => 0))), (q60, .inl (cA, 64, .inl (fun _ => 0))), (q73, .inl (cA, siz N, .inl (fun _ => 0)))]) := hD
  refine W.widen (k := 10) (n := 16591) (by omega) (by omega) ?_
  refine va_putF (D := G) (ci := 2) (v := .ref q73) (ty := .array .int) (C := RX2) (T := TX2) (N := 12) hx hb hts hinX2 tyX2 tyX2_ok nmX2 hown hK hP hD hS 0 rfl rfl 5 (by decide) (hts (.fieldLink RX2 48 "SealedPages" "keptDisk" "[I") (by decide +kernel)) (fun _ h => h) rfl hin rfl (by decide +kernel) rfl rfl (Nat.le_of_ble_eq_true rfl) dX2_init_75 (fun H locs hP hD hS => ?_)
  have hP : va_P G vwCl ([(h0, .inr (2, [.ref q5, .ref q26, .ref q44, .ref q52, .ref q60, .ref q73, .null, .null, .int 0, .int 0, .int 0, .int 0])), (q5, .inr (1, [.int (nI N), .int (nI (lvs N)), .int (nI (nds N)), .int (nI (siz N)), .ref a9, .ref a10])), (a9, .inl (cA, 7, .inl (wid N))), (a10, .inl (cA, 7, .inl (ahA N))), (q26, .inr (0, [.ref a11, .ref a12, .int 0])), (a11, .inl (cA, 8, .inl (fun _ => 0))), (a12, .inl (cA, 64, .inl (fun _ => 0))), (q44, .inl (cA, siz N, .inl (fun _ => 0))), (q52, .inl (cA, 32, .inl (fun _ => 0))), (q60, .inl (cA, 64, .inl (fun _ => 0))), (q73, .inl (cA, siz N, .inl (fun _ => 0)))]) _ := hP
  have hD : va_D _ ([(h0, .inr (2, [.ref q5, .ref q26, .ref q44, .ref q52, .ref q60, .ref q73, .null, .null, .int 0, .int 0, .int 0, .int 0])), (q5, .inr (1, [.int (nI N), .int (nI (lvs N)), .int (nI (nds N)), .int (nI (siz N)), .ref a9, .ref a10])), (a9, .inl (cA, 7, .inl (wid N))), (a10, .inl (cA, 7, .inl (ahA N))), (q26, .inr (0, [.ref a11, .ref a12, .int 0])), (a11, .inl (cA, 8, .inl (fun _ => 0))), (a12, .inl (cA, 64, .inl (fun _ => 0))), (q44, .inl (cA, siz N, .inl (fun _ => 0))), (q52, .inl (cA, 32, .inl (fun _ => 0))), (q60, .inl (cA, 64, .inl (fun _ => 0))), (q73, .inl (cA, siz N, .inl (fun _ => 0)))]) := hD
  refine lv_aload_n hx hb dX2_init_78 rfl (lv_at hl 0 rfl) ?_
  refine lv_bipush (v := 32) hx hb dX2_init_79 (by decide) ?_
  refine k_newa (N' := 32) hx hb (hts (.arrayClass .int) (by decide +kernel)) hK hP hD hS hA (by omega) (Nat.le_of_ble_eq_true rfl) (by show 16591 + 32 ≤ 16750; omega) dX2_init_81 (fun q81 H hP hD hS => ?_)
  have hP : va_P G vwCl ([(h0, .inr (2, [.ref q5, .ref q26, .ref q44, .ref q52, .ref q60, .ref q73, .null, .null, .int 0, .int 0, .int 0, .int 0])), (q5, .inr (1, [.int (nI N), .int (nI (lvs N)), .int (nI (nds N)), .int (nI (siz N)), .ref a9, .ref a10])), (a9, .inl (cA, 7, .inl (wid N))), (a10, .inl (cA, 7, .inl (ahA N))), (q26, .inr (0, [.ref a11, .ref a12, .int 0])), (a11, .inl (cA, 8, .inl (fun _ => 0))), (a12, .inl (cA, 64, .inl (fun _ => 0))), (q44, .inl (cA, siz N, .inl (fun _ => 0))), (q52, .inl (cA, 32, .inl (fun _ => 0))), (q60, .inl (cA, 64, .inl (fun _ => 0))), (q73, .inl (cA, siz N, .inl (fun _ => 0))), (q81, .inl (cA, 32, .inl (fun _ => 0)))]) _ := hP
  have hD : va_D _ ([(h0, .inr (2, [.ref q5, .ref q26, .ref q44, .ref q52, .ref q60, .ref q73, .null, .null, .int 0, .int 0, .int 0, .int 0])), (q5, .inr (1, [.int (nI N), .int (nI (lvs N)), .int (nI (nds N)), .int (nI (siz N)), .ref a9, .ref a10])), (a9, .inl (cA, 7, .inl (wid N))), (a10, .inl (cA, 7, .inl (ahA N))), (q26, .inr (0, [.ref a11, .ref a12, .int 0])), (a11, .inl (cA, 8, .inl (fun _ => 0))), (a12, .inl (cA, 64, .inl (fun _ => 0))), (q44, .inl (cA, siz N, .inl (fun _ => 0))), (q52, .inl (cA, 32, .inl (fun _ => 0))), (q60, .inl (cA, 64, .inl (fun _ => 0))), (q73, .inl (cA, siz N, .inl (fun _ => 0))), (q81, .inl (cA, 32, .inl (fun _ => 0)))]) := hD
  refine W.widen (k := 11) (n := 16623) (by omega) (by omega) ?_
  refine va_putF (D := G) (ci := 2) (v := .ref q81) (ty := .array .int) (C := RX2) (T := TX2) (N := 12) hx hb hts hinX2 tyX2 tyX2_ok nmX2 hown hK hP hD hS 0 rfl rfl 6 (by decide) (hts (.fieldLink RX2 51 "SealedPages" "keptRoot" "[I") (by decide +kernel)) (fun _ h => h) rfl hin rfl (by decide +kernel) rfl rfl (Nat.le_of_ble_eq_true rfl) dX2_init_83 (fun H locs hP hD hS => ?_)
  have hP : va_P G vwCl ([(h0, .inr (2, [.ref q5, .ref q26, .ref q44, .ref q52, .ref q60, .ref q73, .ref q81, .null, .int 0, .int 0, .int 0, .int 0])), (q5, .inr (1, [.int (nI N), .int (nI (lvs N)), .int (nI (nds N)), .int (nI (siz N)), .ref a9, .ref a10])), (a9, .inl (cA, 7, .inl (wid N))), (a10, .inl (cA, 7, .inl (ahA N))), (q26, .inr (0, [.ref a11, .ref a12, .int 0])), (a11, .inl (cA, 8, .inl (fun _ => 0))), (a12, .inl (cA, 64, .inl (fun _ => 0))), (q44, .inl (cA, siz N, .inl (fun _ => 0))), (q52, .inl (cA, 32, .inl (fun _ => 0))), (q60, .inl (cA, 64, .inl (fun _ => 0))), (q73, .inl (cA, siz N, .inl (fun _ => 0))), (q81, .inl (cA, 32, .inl (fun _ => 0)))]) _ := hP
  have hD : va_D _ ([(h0, .inr (2, [.ref q5, .ref q26, .ref q44, .ref q52, .ref q60, .ref q73, .ref q81, .null, .int 0, .int 0, .int 0, .int 0])), (q5, .inr (1, [.int (nI N), .int (nI (lvs N)), .int (nI (nds N)), .int (nI (siz N)), .ref a9, .ref a10])), (a9, .inl (cA, 7, .inl (wid N))), (a10, .inl (cA, 7, .inl (ahA N))), (q26, .inr (0, [.ref a11, .ref a12, .int 0])), (a11, .inl (cA, 8, .inl (fun _ => 0))), (a12, .inl (cA, 64, .inl (fun _ => 0))), (q44, .inl (cA, siz N, .inl (fun _ => 0))), (q52, .inl (cA, 32, .inl (fun _ => 0))), (q60, .inl (cA, 64, .inl (fun _ => 0))), (q73, .inl (cA, siz N, .inl (fun _ => 0))), (q81, .inl (cA, 32, .inl (fun _ => 0)))]) := hD
  refine lv_aload_n hx hb dX2_init_86 rfl (lv_at hl 0 rfl) ?_
  refine lv_aload_n hx hb dX2_init_87 rfl (lv_at hl 0 rfl) ?_
  refine va_get (D := G) (ci := 2) (v := .ref q5) (C := RX2) (T := TX2) (N := 12) hx hb hts hinX2 hown hK hP 0 rfl rfl 0 (by decide) (hts (.fieldLink RX2 23 "SealedPages" "layout" "LSealedPages$Layout;") (by decide +kernel)) (fun _ h => h) rfl dX2_init_88 ?_
  refine va_get (D := G) (ci := 1) (v := .int (nI (nds N))) (C := RX1) (T := TX1) (N := 6) hx hb hts hinX1 hown hK hP 1 rfl rfl 2 (by decide) (hts (.fieldLink RX2 54 "SealedPages$Layout" "nodeCount" "I") (by decide +kernel)) (fun _ h => h) rfl dX2_init_91 ?_
  refine k_newa (N' := nds N) hx hb (hts (.arrayClass .int) (by decide +kernel)) hK hP hD hS hA (by omega) (Nat.le_of_ble_eq_true rfl) (by show 16623 + nds N ≤ 16750; omega) dX2_init_94 (fun q94 H hP hD hS => ?_)
  have hP : va_P G vwCl ([(h0, .inr (2, [.ref q5, .ref q26, .ref q44, .ref q52, .ref q60, .ref q73, .ref q81, .null, .int 0, .int 0, .int 0, .int 0])), (q5, .inr (1, [.int (nI N), .int (nI (lvs N)), .int (nI (nds N)), .int (nI (siz N)), .ref a9, .ref a10])), (a9, .inl (cA, 7, .inl (wid N))), (a10, .inl (cA, 7, .inl (ahA N))), (q26, .inr (0, [.ref a11, .ref a12, .int 0])), (a11, .inl (cA, 8, .inl (fun _ => 0))), (a12, .inl (cA, 64, .inl (fun _ => 0))), (q44, .inl (cA, siz N, .inl (fun _ => 0))), (q52, .inl (cA, 32, .inl (fun _ => 0))), (q60, .inl (cA, 64, .inl (fun _ => 0))), (q73, .inl (cA, siz N, .inl (fun _ => 0))), (q81, .inl (cA, 32, .inl (fun _ => 0))), (q94, .inl (cA, nds N, .inl (fun _ => 0)))]) _ := hP
  have hD : va_D _ ([(h0, .inr (2, [.ref q5, .ref q26, .ref q44, .ref q52, .ref q60, .ref q73, .ref q81, .null, .int 0, .int 0, .int 0, .int 0])), (q5, .inr (1, [.int (nI N), .int (nI (lvs N)), .int (nI (nds N)), .int (nI (siz N)), .ref a9, .ref a10])), (a9, .inl (cA, 7, .inl (wid N))), (a10, .inl (cA, 7, .inl (ahA N))), (q26, .inr (0, [.ref a11, .ref a12, .int 0])), (a11, .inl (cA, 8, .inl (fun _ => 0))), (a12, .inl (cA, 64, .inl (fun _ => 0))), (q44, .inl (cA, siz N, .inl (fun _ => 0))), (q52, .inl (cA, 32, .inl (fun _ => 0))), (q60, .inl (cA, 64, .inl (fun _ => 0))), (q73, .inl (cA, siz N, .inl (fun _ => 0))), (q81, .inl (cA, 32, .inl (fun _ => 0))), (q94, .inl (cA, nds N, .inl (fun _ => 0)))]) := hD
  refine W.widen (k := 12) (n := 16750) (by omega) (by omega) ?_
  refine va_putF (D := G) (ci := 2) (v := .ref q94) (ty := .array .int) (C := RX2) (T := TX2) (N := 12) hx hb hts hinX2 tyX2 tyX2_ok nmX2 hown hK hP hD hS 0 rfl rfl 7 (by decide) (hts (.fieldLink RX2 57 "SealedPages" "faultsDownTo" "[I") (by decide +kernel)) (fun _ h => h) rfl hin rfl (by decide +kernel) rfl rfl (Nat.le_of_ble_eq_true rfl) dX2_init_96 (fun H locs hP hD hS => ?_)
  have hP : va_P G vwCl ([(h0, .inr (2, [.ref q5, .ref q26, .ref q44, .ref q52, .ref q60, .ref q73, .ref q81, .ref q94, .int 0, .int 0, .int 0, .int 0])), (q5, .inr (1, [.int (nI N), .int (nI (lvs N)), .int (nI (nds N)), .int (nI (siz N)), .ref a9, .ref a10])), (a9, .inl (cA, 7, .inl (wid N))), (a10, .inl (cA, 7, .inl (ahA N))), (q26, .inr (0, [.ref a11, .ref a12, .int 0])), (a11, .inl (cA, 8, .inl (fun _ => 0))), (a12, .inl (cA, 64, .inl (fun _ => 0))), (q44, .inl (cA, siz N, .inl (fun _ => 0))), (q52, .inl (cA, 32, .inl (fun _ => 0))), (q60, .inl (cA, 64, .inl (fun _ => 0))), (q73, .inl (cA, siz N, .inl (fun _ => 0))), (q81, .inl (cA, 32, .inl (fun _ => 0))), (q94, .inl (cA, nds N, .inl (fun _ => 0)))]) _ := hP
  have hD : va_D _ ([(h0, .inr (2, [.ref q5, .ref q26, .ref q44, .ref q52, .ref q60, .ref q73, .ref q81, .ref q94, .int 0, .int 0, .int 0, .int 0])), (q5, .inr (1, [.int (nI N), .int (nI (lvs N)), .int (nI (nds N)), .int (nI (siz N)), .ref a9, .ref a10])), (a9, .inl (cA, 7, .inl (wid N))), (a10, .inl (cA, 7, .inl (ahA N))), (q26, .inr (0, [.ref a11, .ref a12, .int 0])), (a11, .inl (cA, 8, .inl (fun _ => 0))), (a12, .inl (cA, 64, .inl (fun _ => 0))), (q44, .inl (cA, siz N, .inl (fun _ => 0))), (q52, .inl (cA, 32, .inl (fun _ => 0))), (q60, .inl (cA, 64, .inl (fun _ => 0))), (q73, .inl (cA, siz N, .inl (fun _ => 0))), (q81, .inl (cA, 32, .inl (fun _ => 0))), (q94, .inl (cA, nds N, .inl (fun _ => 0)))]) := hD
  obtain ⟨g, e0, e1, e2, e3, e4, e5, e6, e7, e8, e9, e10, e11, e12⟩ : ∃ g : Nat → Nat, g 0 = h0 ∧ g 1 = q5 ∧ g 2 = q26 ∧ g 3 = q44 ∧ g 4 = q52 ∧ g 5 = q60 ∧ g 6 = q73 ∧ g 7 = q81 ∧ g 8 = q94 ∧ g 9 = a9 ∧ g 10 = a10 ∧ g 11 = a11 ∧ g 12 = a12 := ⟨fun q => [h0, q5, q26, q44, q52, q60, q73, q81, q94, a9, a10, a11, a12].getD q 0, rfl, rfl, rfl, rfl, rfl, rfl, rfl, rfl, rfl, rfl, rfl, rfl, rfl⟩
  subst e0
  subst e1
  subst e2
  subst e3
  subst e4
  subst e5
  subst e6
  subst e7
  subst e8
  subst e9
  subst e10
  subst e11
  subst e12
  have hP := hP.sub (ws' := xW g cA N (fun _ => 0) (fun _ => 0) (fun _ => 0) (fun _ => 0) (fun _ => 0) (fun _ => 0) (fun _ => 0) (fun _ => 0) 0 0 0 0 0) [0, 1, 4, 7, 8, 9, 10, 11, 12, 2, 3, 5, 6] rfl
  have hD := hD.sub (ws' := xW g cA N (fun _ => 0) (fun _ => 0) (fun _ => 0) (fun _ => 0) (fun _ => 0) (fun _ => 0) (fun _ => 0) (fun _ => 0) 0 0 0 0 0) [0, 1, 4, 7, 8, 9, 10, 11, 12, 2, 3, 5, 6] (by decide) rfl
  have hwo := wA_oA (n := 13) rfl hD
  have how : ∀ q, oA (g 0) s.heap.size q → wA g 13 s.heap.size q := fun q z => z.elim (fun z => Or.inl ⟨0, by decide, z⟩) Or.inr
  have hD := hD.weaken (fun _ _ _ z => how _ z)
  have hS := va_S_mono how hS
  have hT := hT.narrow hwo
  have hl : lv_has ls 2 [(0, .ref (g 0)), (1, .int x)] := hl
  refine lv_aload_n hx hb dX2_init_99 rfl (lv_at hl 0 rfl) ?_
  refine x_vv ⟨hx, hb, hml, hown, hts⟩ (c_X2_sealAll l G cA tF tC g _ N hN (fun _ => 0) (fun _ => 0) (fun _ => 0) (fun _ => 0) (fun _ => 0) (fun _ => 0) (fun _ => 0) (fun _ => 0) 0 0 0 0 0 ) (cwV 0 hts gX2_init_X2_sealAll rfl rfl rfl (by decide +kernel) ⟨Nat.le_of_ble_eq_true rfl, Nat.le_of_ble_eq_true rfl⟩) hK hP hD hS hT rfl 0 2 rfl rfl rfl hl.1 rfl (Nat.le_of_ble_eq_true rfl) dX2_init_100 ⟨Nat.le_refl _, Nat.le_refl _⟩ (fun u H locs hp1 hP hD hS => ?_)
  obtain ⟨SU1, WO1, ln1⟩ := u
  have hP : va_P G vwCl (xW g cA N (sAll N (fun _ => 0)) (sRoot N (sAll N (fun _ => 0)) (fun _ => 0)) (fun _ => 0) (fun _ => 0) (fun _ => 0) (fun _ => 0) SU1 WO1 ln1 0 0 0 0) _ := hP
  have hD : va_D _ (xW g cA N (sAll N (fun _ => 0)) (sRoot N (sAll N (fun _ => 0)) (fun _ => 0)) (fun _ => 0) (fun _ => 0) (fun _ => 0) (fun _ => 0) SU1 WO1 ln1 0 0 0 0) := hD
  have hS := va_S_mono hwo hS
  have hD := hD.weaken (fun _ _ _ z => hwo _ z)
  subst eN1
  exact hret (g, SU1, WO1, ln1) _ _ _ _ dX2_init_103 hP hD hS rfl

set_option maxHeartbeats 4000000 in
set_option maxRecDepth 100000 in
theorem c_X3_init (l : Launch) (G : va_G) (cA : ClassId) (tF tC : Nat) (h0 sz : Nat) (x : Int32) : CC l yX3_init wsX3_init 7 13 25168 171 G cA tF tC h0 3 [.null, .null, .int 0, .int 0, .null, .null, .null, .null, .null, .int 0, .int 0, .int 0, .int 0, .null, .int 0, .null, .null, .null, .null, .null] eT sz [.int x] (fun (u : (Nat → Nat) × (Nat → Int32) × (Nat → Int32) × (Nat → Int32) × (Nat → Int32) × (Nat → Int32) × Int32) => mW u.1 cA (clN x) (nI (siz (clN x))) (sAll (clN x) (fun _ => 0)) (sRoot (clN x) (sAll (clN x) (fun _ => 0)) (fun _ => 0)) (fun _ => 0) (fun _ => 0) (fun _ => 0) u.2.1 u.2.2.1 u.2.2.2.1 u.2.2.2.2.1 u.2.2.2.2.2.1 (fun _ => 0) u.2.2.2.2.2.2 0 0 0 0) (fun u => u.1 0 = h0) := by
  refine k_entry (cc := cX3_init) (maxL := 2) (by decide) rfl rfl (Nat.le_of_ble_eq_true rfl) ?_
  intro p e s m args below meth c Q hx hb hml hown hin hts hK hP hD hS hA hT hE hret ls hl
  have hown : s.vm.findClass RX3 = some m.cls := hown
  have hl : lv_has ls 2 [(0, .ref h0), (1, .int x)] := hl
  have hinX3 : ∀ w ∈ wsX30, w ∈ wsX3_init := by decide +kernel
  obtain ⟨N, eN1⟩ : ∃ N, N = clN x := ⟨_, rfl⟩
  have hN : 1 ≤ N ∧ N ≤ 64 := by rw [eN1]; exact clN_in x
  have hz := siz_le hN
  have hnd := nds_le hN
  have hlv := lvs_in hN
  refine lv_aload_n hx hb dX3_init_0 rfl (lv_at hl 0 rfl) ?_
  refine W.objInit hx hb hown (hts (.methodLink RX3 1 objectInit) (by decide +kernel)) (hts (.instanceMethod objectInit) (by decide +kernel)) (hts (.code objectInit ⟨#[0xb1]⟩ 1 none) (by decide +kernel)) rfl (by rw [hml]; exact hl.1) rfl dX3_init_1 (Nat.le_of_ble_eq_true rfl) (Nat.le_of_ble_eq_true rfl) ?_
  refine W.eq (g2 := F0 m 4 ls []) rfl ?_
  refine lv_aload_n hx hb dX3_init_4 rfl (lv_at hl 0 rfl) ?_
  refine lv_bipush (v := 64) hx hb dX3_init_5 (by decide) ?_
  refine k_newa (N' := 64) hx hb (hts (.arrayClass .int) (by decide +kernel)) hK hP hD hS hA (by omega) (Nat.le_of_ble_eq_true rfl) (by show 0 + 64 ≤ 25168; omega) dX3_init_7 (fun q7 H hP hD hS => ?_)
  have hP : va_P G vwCl ([(h0, .inr (3, [.null, .null, .int 0, .int 0, .null, .null, .null, .null, .null, .int 0, .int 0, .int 0, .int 0, .null, .int 0, .null, .null, .null, .null, .null])), (q7, .inl (cA, 64, .inl (fun _ => 0)))]) _ := hP
  have hD : va_D _ ([(h0, .inr (3, [.null, .null, .int 0, .int 0, .null, .null, .null, .null, .null, .int 0, .int 0, .int 0, .int 0, .null, .int 0, .null, .null, .null, .null, .null])), (q7, .inl (cA, 64, .inl (fun _ => 0)))]) := hD
  refine W.widen (k := 1) (n := 64) (by omega) (by omega) ?_
  refine lv_dup hx hb dX3_init_9 rfl ?_
  refine lv_iconst (v := 0) hx hb dX3_init_10 (by decide) ?_
  refine lv_ldc (v := 1116352408) hx hb hown (hts (.constant RX3 7 (1116352408)) (by decide +kernel)) dX3_init_11 ?_
  refine x_ast (i := 0) hx hb hK hP hD hS 1 0 rfl rfl (by omega) (by decide) dX3_init_13 (fun H locs hP hD hS => ?_)
  have hP : va_P G vwCl ([(h0, .inr (3, [.null, .null, .int 0, .int 0, .null, .null, .null, .null, .null, .int 0, .int 0, .int 0, .int 0, .null, .int 0, .null, .null, .null, .null, .null])), (q7, .inl (cA, 64, .inl (upd (fun _ => 0) 0 1116352408)))]) _ := hP
  have hD : va_D _ ([(h0, .inr (3, [.null, .null, .int 0, .int 0, .null, .null, .null, .null, .null, .int 0, .int 0, .int 0, .int 0, .null, .int 0, .null, .null, .null, .null, .null])), (q7, .inl (cA, 64, .inl (upd (fun _ => 0) 0 1116352408)))]) := hD
  rw [fK_f (f := kC) (v := 1116352408) (by decide)] at hP hD
  have hP : va_P G vwCl ([(h0, .inr (3, [.null, .null, .int 0, .int 0, .null, .null, .null, .null, .null, .int 0, .int 0, .int 0, .int 0, .null, .int 0, .null, .null, .null, .null, .null])), (q7, .inl (cA, 64, .inl (fK kC 1)))]) _ := hP
  have hD : va_D _ ([(h0, .inr (3, [.null, .null, .int 0, .int 0, .null, .null, .null, .null, .null, .int 0, .int 0, .int 0, .int 0, .null, .int 0, .null, .null, .null, .null, .null])), (q7, .inl (cA, 64, .inl (fK kC 1)))]) := hD
  refine lv_dup hx hb dX3_init_14 rfl ?_
  refine lv_iconst (v := 1) hx hb dX3_init_15 (by decide) ?_
  refine lv_ldc (v := 1899447441) hx hb hown (hts (.constant RX3 8 (1899447441)) (by decide +kernel)) dX3_init_16 ?_
  refine x_ast (i := 1) hx hb hK hP hD hS 1 0 rfl rfl (by omega) (by decide) dX3_init_18 (fun H locs hP hD hS => ?_)
  have hP : va_P G vwCl ([(h0, .inr (3, [.null, .null, .int 0, .int 0, .null, .null, .null, .null, .null, .int 0, .int 0, .int 0, .int 0, .null, .int 0, .null, .null, .null, .null, .null])), (q7, .inl (cA, 64, .inl (upd (fK kC 1) 1 1899447441)))]) _ := hP
  have hD : va_D _ ([(h0, .inr (3, [.null, .null, .int 0, .int 0, .null, .null, .null, .null, .null, .int 0, .int 0, .int 0, .int 0, .null, .int 0, .null, .null, .null, .null, .null])), (q7, .inl (cA, 64, .inl (upd (fK kC 1) 1 1899447441)))]) := hD
  rw [fK_s (f := kC) (k := 1) (v := 1899447441) (by decide)] at hP hD
  have hP : va_P G vwCl ([(h0, .inr (3, [.null, .null, .int 0, .int 0, .null, .null, .null, .null, .null, .int 0, .int 0, .int 0, .int 0, .null, .int 0, .null, .null, .null, .null, .null])), (q7, .inl (cA, 64, .inl (fK kC 2)))]) _ := hP
  have hD : va_D _ ([(h0, .inr (3, [.null, .null, .int 0, .int 0, .null, .null, .null, .null, .null, .int 0, .int 0, .int 0, .int 0, .null, .int 0, .null, .null, .null, .null, .null])), (q7, .inl (cA, 64, .inl (fK kC 2)))]) := hD
  refine lv_dup hx hb dX3_init_19 rfl ?_
  refine lv_iconst (v := 2) hx hb dX3_init_20 (by decide) ?_
  refine lv_ldc (v := (-1245643825)) hx hb hown (hts (.constant RX3 9 (-1245643825)) (by decide +kernel)) dX3_init_21 ?_
  refine x_ast (i := 2) hx hb hK hP hD hS 1 0 rfl rfl (by omega) (by decide) dX3_init_23 (fun H locs hP hD hS => ?_)
  have hP : va_P G vwCl ([(h0, .inr (3, [.null, .null, .int 0, .int 0, .null, .null, .null, .null, .null, .int 0, .int 0, .int 0, .int 0, .null, .int 0, .null, .null, .null, .null, .null])), (q7, .inl (cA, 64, .inl (upd (fK kC 2) 2 (-1245643825))))]) _ := hP
  have hD : va_D _ ([(h0, .inr (3, [.null, .null, .int 0, .int 0, .null, .null, .null, .null, .null, .int 0, .int 0, .int 0, .int 0, .null, .int 0, .null, .null, .null, .null, .null])), (q7, .inl (cA, 64, .inl (upd (fK kC 2) 2 (-1245643825))))]) := hD
  rw [fK_s (f := kC) (k := 2) (v := (-1245643825)) (by decide)] at hP hD
  have hP : va_P G vwCl ([(h0, .inr (3, [.null, .null, .int 0, .int 0, .null, .null, .null, .null, .null, .int 0, .int 0, .int 0, .int 0, .null, .int 0, .null, .null, .null, .null, .null])), (q7, .inl (cA, 64, .inl (fK kC 3)))]) _ := hP
  have hD : va_D _ ([(h0, .inr (3, [.null, .null, .int 0, .int 0, .null, .null, .null, .null, .null, .int 0, .int 0, .int 0, .int 0, .null, .int 0, .null, .null, .null, .null, .null])), (q7, .inl (cA, 64, .inl (fK kC 3)))]) := hD
  refine lv_dup hx hb dX3_init_24 rfl ?_
  refine lv_iconst (v := 3) hx hb dX3_init_25 (by decide) ?_
  refine lv_ldc (v := (-373957723)) hx hb hown (hts (.constant RX3 10 (-373957723)) (by decide +kernel)) dX3_init_26 ?_
  refine x_ast (i := 3) hx hb hK hP hD hS 1 0 rfl rfl (by omega) (by decide) dX3_init_28 (fun H locs hP hD hS => ?_)
  have hP : va_P G vwCl ([(h0, .inr (3, [.null, .null, .int 0, .int 0, .null, .null, .null, .null, .null, .int 0, .int 0, .int 0, .int 0, .null, .int 0, .null, .null, .null, .null, .null])), (q7, .inl (cA, 64, .inl (upd (fK kC 3) 3 (-373957723))))]) _ := hP
  have hD : va_D _ ([(h0, .inr (3, [.null, .null, .int 0, .int 0, .null, .null, .null, .null, .null, .int 0, .int 0, .int 0, .int 0, .null, .int 0, .null, .null, .null, .null, .null])), (q7, .inl (cA, 64, .inl (upd (fK kC 3) 3 (-373957723))))]) := hD
  rw [fK_s (f := kC) (k := 3) (v := (-373957723)) (by decide)] at hP hD
  have hP : va_P G vwCl ([(h0, .inr (3, [.null, .null, .int 0, .int 0, .null, .null, .null, .null, .null, .int 0, .int 0, .int 0, .int 0, .null, .int 0, .null, .null, .null, .null, .null])), (q7, .inl (cA, 64, .inl (fK kC 4)))]) _ := hP
  have hD : va_D _ ([(h0, .inr (3, [.null, .null, .int 0, .int 0, .null, .null, .null, .null, .null, .int 0, .int 0, .int 0, .int 0, .null, .int 0, .null, .null, .null, .null, .null])), (q7, .inl (cA, 64, .inl (fK kC 4)))]) := hD
  refine lv_dup hx hb dX3_init_29 rfl ?_
  refine lv_iconst (v := 4) hx hb dX3_init_30 (by decide) ?_
  refine lv_ldc (v := 961987163) hx hb hown (hts (.constant RX3 11 (961987163)) (by decide +kernel)) dX3_init_31 ?_
  refine x_ast (i := 4) hx hb hK hP hD hS 1 0 rfl rfl (by omega) (by decide) dX3_init_33 (fun H locs hP hD hS => ?_)
  have hP : va_P G vwCl ([(h0, .inr (3, [.null, .null, .int 0, .int 0, .null, .null, .null, .null, .null, .int 0, .int 0, .int 0, .int 0, .null, .int 0, .null, .null, .null, .null, .null])), (q7, .inl (cA, 64, .inl (upd (fK kC 4) 4 961987163)))]) _ := hP
  have hD : va_D _ ([(h0, .inr (3, [.null, .null, .int 0, .int 0, .null, .null, .null, .null, .null, .int 0, .int 0, .int 0, .int 0, .null, .int 0, .null, .null, .null, .null, .null])), (q7, .inl (cA, 64, .inl (upd (fK kC 4) 4 961987163)))]) := hD
  rw [fK_s (f := kC) (k := 4) (v := 961987163) (by decide)] at hP hD
  have hP : va_P G vwCl ([(h0, .inr (3, [.null, .null, .int 0, .int 0, .null, .null, .null, .null, .null, .int 0, .int 0, .int 0, .int 0, .null, .int 0, .null, .null, .null, .null, .null])), (q7, .inl (cA, 64, .inl (fK kC 5)))]) _ := hP
  have hD : va_D _ ([(h0, .inr (3, [.null, .null, .int 0, .int 0, .null, .null, .null, .null, .null, .int 0, .int 0, .int 0, .int 0, .null, .int 0, .null, .null, .null, .null, .null])), (q7, .inl (cA, 64, .inl (fK kC 5)))]) := hD
  refine lv_dup hx hb dX3_init_34 rfl ?_
  refine lv_iconst (v := 5) hx hb dX3_init_35 (by decide) ?_
  refine lv_ldc (v := 1508970993) hx hb hown (hts (.constant RX3 12 (1508970993)) (by decide +kernel)) dX3_init_36 ?_
  refine x_ast (i := 5) hx hb hK hP hD hS 1 0 rfl rfl (by omega) (by decide) dX3_init_38 (fun H locs hP hD hS => ?_)
  have hP : va_P G vwCl ([(h0, .inr (3, [.null, .null, .int 0, .int 0, .null, .null, .null, .null, .null, .int 0, .int 0, .int 0, .int 0, .null, .int 0, .null, .null, .null, .null, .null])), (q7, .inl (cA, 64, .inl (upd (fK kC 5) 5 1508970993)))]) _ := hP
  have hD : va_D _ ([(h0, .inr (3, [.null, .null, .int 0, .int 0, .null, .null, .null, .null, .null, .int 0, .int 0, .int 0, .int 0, .null, .int 0, .null, .null, .null, .null, .null])), (q7, .inl (cA, 64, .inl (upd (fK kC 5) 5 1508970993)))]) := hD
  rw [fK_s (f := kC) (k := 5) (v := 1508970993) (by decide)] at hP hD
  have hP : va_P G vwCl ([(h0, .inr (3, [.null, .null, .int 0, .int 0, .null, .null, .null, .null, .null, .int 0, .int 0, .int 0, .int 0, .null, .int 0, .null, .null, .null, .null, .null])), (q7, .inl (cA, 64, .inl (fK kC 6)))]) _ := hP
  have hD : va_D _ ([(h0, .inr (3, [.null, .null, .int 0, .int 0, .null, .null, .null, .null, .null, .int 0, .int 0, .int 0, .int 0, .null, .int 0, .null, .null, .null, .null, .null])), (q7, .inl (cA, 64, .inl (fK kC 6)))]) := hD
  refine lv_dup hx hb dX3_init_39 rfl ?_
  refine lv_bipush (v := 6) hx hb dX3_init_40 (by decide) ?_
  refine lv_ldc (v := (-1841331548)) hx hb hown (hts (.constant RX3 13 (-1841331548)) (by decide +kernel)) dX3_init_42 ?_
  refine x_ast (i := 6) hx hb hK hP hD hS 1 0 rfl rfl (by omega) (by decide) dX3_init_44 (fun H locs hP hD hS => ?_)
  have hP : va_P G vwCl ([(h0, .inr (3, [.null, .null, .int 0, .int 0, .null, .null, .null, .null, .null, .int 0, .int 0, .int 0, .int 0, .null, .int 0, .null, .null, .null, .null, .null])), (q7, .inl (cA, 64, .inl (upd (fK kC 6) 6 (-1841331548))))]) _ := hP
  have hD : va_D _ ([(h0, .inr (3, [.null, .null, .int 0, .int 0, .null, .null, .null, .null, .null, .int 0, .int 0, .int 0, .int 0, .null, .int 0, .null, .null, .null, .null, .null])), (q7, .inl (cA, 64, .inl (upd (fK kC 6) 6 (-1841331548))))]) := hD
  rw [fK_s (f := kC) (k := 6) (v := (-1841331548)) (by decide)] at hP hD
  have hP : va_P G vwCl ([(h0, .inr (3, [.null, .null, .int 0, .int 0, .null, .null, .null, .null, .null, .int 0, .int 0, .int 0, .int 0, .null, .int 0, .null, .null, .null, .null, .null])), (q7, .inl (cA, 64, .inl (fK kC 7)))]) _ := hP
  have hD : va_D _ ([(h0, .inr (3, [.null, .null, .int 0, .int 0, .null, .null, .null, .null, .null, .int 0, .int 0, .int 0, .int 0, .null, .int 0, .null, .null, .null, .null, .null])), (q7, .inl (cA, 64, .inl (fK kC 7)))]) := hD
  refine lv_dup hx hb dX3_init_45 rfl ?_
  refine lv_bipush (v := 7) hx hb dX3_init_46 (by decide) ?_
  refine lv_ldc (v := (-1424204075)) hx hb hown (hts (.constant RX3 14 (-1424204075)) (by decide +kernel)) dX3_init_48 ?_
  refine x_ast (i := 7) hx hb hK hP hD hS 1 0 rfl rfl (by omega) (by decide) dX3_init_50 (fun H locs hP hD hS => ?_)
  have hP : va_P G vwCl ([(h0, .inr (3, [.null, .null, .int 0, .int 0, .null, .null, .null, .null, .null, .int 0, .int 0, .int 0, .int 0, .null, .int 0, .null, .null, .null, .null, .null])), (q7, .inl (cA, 64, .inl (upd (fK kC 7) 7 (-1424204075))))]) _ := hP
  have hD : va_D _ ([(h0, .inr (3, [.null, .null, .int 0, .int 0, .null, .null, .null, .null, .null, .int 0, .int 0, .int 0, .int 0, .null, .int 0, .null, .null, .null, .null, .null])), (q7, .inl (cA, 64, .inl (upd (fK kC 7) 7 (-1424204075))))]) := hD
  rw [fK_s (f := kC) (k := 7) (v := (-1424204075)) (by decide)] at hP hD
  have hP : va_P G vwCl ([(h0, .inr (3, [.null, .null, .int 0, .int 0, .null, .null, .null, .null, .null, .int 0, .int 0, .int 0, .int 0, .null, .int 0, .null, .null, .null, .null, .null])), (q7, .inl (cA, 64, .inl (fK kC 8)))]) _ := hP
  have hD : va_D _ ([(h0, .inr (3, [.null, .null, .int 0, .int 0, .null, .null, .null, .null, .null, .int 0, .int 0, .int 0, .int 0, .null, .int 0, .null, .null, .null, .null, .null])), (q7, .inl (cA, 64, .inl (fK kC 8)))]) := hD
  refine lv_dup hx hb dX3_init_51 rfl ?_
  refine lv_bipush (v := 8) hx hb dX3_init_52 (by decide) ?_
  refine lv_ldc (v := (-670586216)) hx hb hown (hts (.constant RX3 15 (-670586216)) (by decide +kernel)) dX3_init_54 ?_
  refine x_ast (i := 8) hx hb hK hP hD hS 1 0 rfl rfl (by omega) (by decide) dX3_init_56 (fun H locs hP hD hS => ?_)
  have hP : va_P G vwCl ([(h0, .inr (3, [.null, .null, .int 0, .int 0, .null, .null, .null, .null, .null, .int 0, .int 0, .int 0, .int 0, .null, .int 0, .null, .null, .null, .null, .null])), (q7, .inl (cA, 64, .inl (upd (fK kC 8) 8 (-670586216))))]) _ := hP
  have hD : va_D _ ([(h0, .inr (3, [.null, .null, .int 0, .int 0, .null, .null, .null, .null, .null, .int 0, .int 0, .int 0, .int 0, .null, .int 0, .null, .null, .null, .null, .null])), (q7, .inl (cA, 64, .inl (upd (fK kC 8) 8 (-670586216))))]) := hD
  rw [fK_s (f := kC) (k := 8) (v := (-670586216)) (by decide)] at hP hD
  have hP : va_P G vwCl ([(h0, .inr (3, [.null, .null, .int 0, .int 0, .null, .null, .null, .null, .null, .int 0, .int 0, .int 0, .int 0, .null, .int 0, .null, .null, .null, .null, .null])), (q7, .inl (cA, 64, .inl (fK kC 9)))]) _ := hP
  have hD : va_D _ ([(h0, .inr (3, [.null, .null, .int 0, .int 0, .null, .null, .null, .null, .null, .int 0, .int 0, .int 0, .int 0, .null, .int 0, .null, .null, .null, .null, .null])), (q7, .inl (cA, 64, .inl (fK kC 9)))]) := hD
  refine lv_dup hx hb dX3_init_57 rfl ?_
  refine lv_bipush (v := 9) hx hb dX3_init_58 (by decide) ?_
  refine lv_ldc (v := 310598401) hx hb hown (hts (.constant RX3 16 (310598401)) (by decide +kernel)) dX3_init_60 ?_
  refine x_ast (i := 9) hx hb hK hP hD hS 1 0 rfl rfl (by omega) (by decide) dX3_init_62 (fun H locs hP hD hS => ?_)
  have hP : va_P G vwCl ([(h0, .inr (3, [.null, .null, .int 0, .int 0, .null, .null, .null, .null, .null, .int 0, .int 0, .int 0, .int 0, .null, .int 0, .null, .null, .null, .null, .null])), (q7, .inl (cA, 64, .inl (upd (fK kC 9) 9 310598401)))]) _ := hP
  have hD : va_D _ ([(h0, .inr (3, [.null, .null, .int 0, .int 0, .null, .null, .null, .null, .null, .int 0, .int 0, .int 0, .int 0, .null, .int 0, .null, .null, .null, .null, .null])), (q7, .inl (cA, 64, .inl (upd (fK kC 9) 9 310598401)))]) := hD
  rw [fK_s (f := kC) (k := 9) (v := 310598401) (by decide)] at hP hD
  have hP : va_P G vwCl ([(h0, .inr (3, [.null, .null, .int 0, .int 0, .null, .null, .null, .null, .null, .int 0, .int 0, .int 0, .int 0, .null, .int 0, .null, .null, .null, .null, .null])), (q7, .inl (cA, 64, .inl (fK kC 10)))]) _ := hP
  have hD : va_D _ ([(h0, .inr (3, [.null, .null, .int 0, .int 0, .null, .null, .null, .null, .null, .int 0, .int 0, .int 0, .int 0, .null, .int 0, .null, .null, .null, .null, .null])), (q7, .inl (cA, 64, .inl (fK kC 10)))]) := hD
  refine lv_dup hx hb dX3_init_63 rfl ?_
  refine lv_bipush (v := 10) hx hb dX3_init_64 (by decide) ?_
  refine lv_ldc (v := 607225278) hx hb hown (hts (.constant RX3 17 (607225278)) (by decide +kernel)) dX3_init_66 ?_
  refine x_ast (i := 10) hx hb hK hP hD hS 1 0 rfl rfl (by omega) (by decide) dX3_init_68 (fun H locs hP hD hS => ?_)
  have hP : va_P G vwCl ([(h0, .inr (3, [.null, .null, .int 0, .int 0, .null, .null, .null, .null, .null, .int 0, .int 0, .int 0, .int 0, .null, .int 0, .null, .null, .null, .null, .null])), (q7, .inl (cA, 64, .inl (upd (fK kC 10) 10 607225278)))]) _ := hP
  have hD : va_D _ ([(h0, .inr (3, [.null, .null, .int 0, .int 0, .null, .null, .null, .null, .null, .int 0, .int 0, .int 0, .int 0, .null, .int 0, .null, .null, .null, .null, .null])), (q7, .inl (cA, 64, .inl (upd (fK kC 10) 10 607225278)))]) := hD
  rw [fK_s (f := kC) (k := 10) (v := 607225278) (by decide)] at hP hD
  have hP : va_P G vwCl ([(h0, .inr (3, [.null, .null, .int 0, .int 0, .null, .null, .null, .null, .null, .int 0, .int 0, .int 0, .int 0, .null, .int 0, .null, .null, .null, .null, .null])), (q7, .inl (cA, 64, .inl (fK kC 11)))]) _ := hP
  have hD : va_D _ ([(h0, .inr (3, [.null, .null, .int 0, .int 0, .null, .null, .null, .null, .null, .int 0, .int 0, .int 0, .int 0, .null, .int 0, .null, .null, .null, .null, .null])), (q7, .inl (cA, 64, .inl (fK kC 11)))]) := hD
  refine lv_dup hx hb dX3_init_69 rfl ?_
  refine lv_bipush (v := 11) hx hb dX3_init_70 (by decide) ?_
  refine lv_ldc (v := 1426881987) hx hb hown (hts (.constant RX3 18 (1426881987)) (by decide +kernel)) dX3_init_72 ?_
  refine x_ast (i := 11) hx hb hK hP hD hS 1 0 rfl rfl (by omega) (by decide) dX3_init_74 (fun H locs hP hD hS => ?_)
  have hP : va_P G vwCl ([(h0, .inr (3, [.null, .null, .int 0, .int 0, .null, .null, .null, .null, .null, .int 0, .int 0, .int 0, .int 0, .null, .int 0, .null, .null, .null, .null, .null])), (q7, .inl (cA, 64, .inl (upd (fK kC 11) 11 1426881987)))]) _ := hP
  have hD : va_D _ ([(h0, .inr (3, [.null, .null, .int 0, .int 0, .null, .null, .null, .null, .null, .int 0, .int 0, .int 0, .int 0, .null, .int 0, .null, .null, .null, .null, .null])), (q7, .inl (cA, 64, .inl (upd (fK kC 11) 11 1426881987)))]) := hD
  rw [fK_s (f := kC) (k := 11) (v := 1426881987) (by decide)] at hP hD
  have hP : va_P G vwCl ([(h0, .inr (3, [.null, .null, .int 0, .int 0, .null, .null, .null, .null, .null, .int 0, .int 0, .int 0, .int 0, .null, .int 0, .null, .null, .null, .null, .null])), (q7, .inl (cA, 64, .inl (fK kC 12)))]) _ := hP
  have hD : va_D _ ([(h0, .inr (3, [.null, .null, .int 0, .int 0, .null, .null, .null, .null, .null, .int 0, .int 0, .int 0, .int 0, .null, .int 0, .null, .null, .null, .null, .null])), (q7, .inl (cA, 64, .inl (fK kC 12)))]) := hD
  refine lv_dup hx hb dX3_init_75 rfl ?_
  refine lv_bipush (v := 12) hx hb dX3_init_76 (by decide) ?_
  refine lv_ldc (v := 1925078388) hx hb hown (hts (.constant RX3 19 (1925078388)) (by decide +kernel)) dX3_init_78 ?_
  refine x_ast (i := 12) hx hb hK hP hD hS 1 0 rfl rfl (by omega) (by decide) dX3_init_80 (fun H locs hP hD hS => ?_)
  have hP : va_P G vwCl ([(h0, .inr (3, [.null, .null, .int 0, .int 0, .null, .null, .null, .null, .null, .int 0, .int 0, .int 0, .int 0, .null, .int 0, .null, .null, .null, .null, .null])), (q7, .inl (cA, 64, .inl (upd (fK kC 12) 12 1925078388)))]) _ := hP
  have hD : va_D _ ([(h0, .inr (3, [.null, .null, .int 0, .int 0, .null, .null, .null, .null, .null, .int 0, .int 0, .int 0, .int 0, .null, .int 0, .null, .null, .null, .null, .null])), (q7, .inl (cA, 64, .inl (upd (fK kC 12) 12 1925078388)))]) := hD
  rw [fK_s (f := kC) (k := 12) (v := 1925078388) (by decide)] at hP hD
  have hP : va_P G vwCl ([(h0, .inr (3, [.null, .null, .int 0, .int 0, .null, .null, .null, .null, .null, .int 0, .int 0, .int 0, .int 0, .null, .int 0, .null, .null, .null, .null, .null])), (q7, .inl (cA, 64, .inl (fK kC 13)))]) _ := hP
  have hD : va_D _ ([(h0, .inr (3, [.null, .null, .int 0, .int 0, .null, .null, .null, .null, .null, .int 0, .int 0, .int 0, .int 0, .null, .int 0, .null, .null, .null, .null, .null])), (q7, .inl (cA, 64, .inl (fK kC 13)))]) := hD
  refine lv_dup hx hb dX3_init_81 rfl ?_
  refine lv_bipush (v := 13) hx hb dX3_init_82 (by decide) ?_
  refine lv_ldc (v := (-2132889090)) hx hb hown (hts (.constant RX3 20 (-2132889090)) (by decide +kernel)) dX3_init_84 ?_
  refine x_ast (i := 13) hx hb hK hP hD hS 1 0 rfl rfl (by omega) (by decide) dX3_init_86 (fun H locs hP hD hS => ?_)
  have hP : va_P G vwCl ([(h0, .inr (3, [.null, .null, .int 0, .int 0, .null, .null, .null, .null, .null, .int 0, .int 0, .int 0, .int 0, .null, .int 0, .null, .null, .null, .null, .null])), (q7, .inl (cA, 64, .inl (upd (fK kC 13) 13 (-2132889090))))]) _ := hP
  have hD : va_D _ ([(h0, .inr (3, [.null, .null, .int 0, .int 0, .null, .null, .null, .null, .null, .int 0, .int 0, .int 0, .int 0, .null, .int 0, .null, .null, .null, .null, .null])), (q7, .inl (cA, 64, .inl (upd (fK kC 13) 13 (-2132889090))))]) := hD
  rw [fK_s (f := kC) (k := 13) (v := (-2132889090)) (by decide)] at hP hD
  have hP : va_P G vwCl ([(h0, .inr (3, [.null, .null, .int 0, .int 0, .null, .null, .null, .null, .null, .int 0, .int 0, .int 0, .int 0, .null, .int 0, .null, .null, .null, .null, .null])), (q7, .inl (cA, 64, .inl (fK kC 14)))]) _ := hP
  have hD : va_D _ ([(h0, .inr (3, [.null, .null, .int 0, .int 0, .null, .null, .null, .null, .null, .int 0, .int 0, .int 0, .int 0, .null, .int 0, .null, .null, .null, .null, .null])), (q7, .inl (cA, 64, .inl (fK kC 14)))]) := hD
  refine lv_dup hx hb dX3_init_87 rfl ?_
  refine lv_bipush (v := 14) hx hb dX3_init_88 (by decide) ?_
  refine lv_ldc (v := (-1680079193)) hx hb hown (hts (.constant RX3 21 (-1680079193)) (by decide +kernel)) dX3_init_90 ?_
  refine x_ast (i := 14) hx hb hK hP hD hS 1 0 rfl rfl (by omega) (by decide) dX3_init_92 (fun H locs hP hD hS => ?_)
  have hP : va_P G vwCl ([(h0, .inr (3, [.null, .null, .int 0, .int 0, .null, .null, .null, .null, .null, .int 0, .int 0, .int 0, .int 0, .null, .int 0, .null, .null, .null, .null, .null])), (q7, .inl (cA, 64, .inl (upd (fK kC 14) 14 (-1680079193))))]) _ := hP
  have hD : va_D _ ([(h0, .inr (3, [.null, .null, .int 0, .int 0, .null, .null, .null, .null, .null, .int 0, .int 0, .int 0, .int 0, .null, .int 0, .null, .null, .null, .null, .null])), (q7, .inl (cA, 64, .inl (upd (fK kC 14) 14 (-1680079193))))]) := hD
  rw [fK_s (f := kC) (k := 14) (v := (-1680079193)) (by decide)] at hP hD
  have hP : va_P G vwCl ([(h0, .inr (3, [.null, .null, .int 0, .int 0, .null, .null, .null, .null, .null, .int 0, .int 0, .int 0, .int 0, .null, .int 0, .null, .null, .null, .null, .null])), (q7, .inl (cA, 64, .inl (fK kC 15)))]) _ := hP
  have hD : va_D _ ([(h0, .inr (3, [.null, .null, .int 0, .int 0, .null, .null, .null, .null, .null, .int 0, .int 0, .int 0, .int 0, .null, .int 0, .null, .null, .null, .null, .null])), (q7, .inl (cA, 64, .inl (fK kC 15)))]) := hD
  refine lv_dup hx hb dX3_init_93 rfl ?_
  refine lv_bipush (v := 15) hx hb dX3_init_94 (by decide) ?_
  refine lv_ldc (v := (-1046744716)) hx hb hown (hts (.constant RX3 22 (-1046744716)) (by decide +kernel)) dX3_init_96 ?_
  refine x_ast (i := 15) hx hb hK hP hD hS 1 0 rfl rfl (by omega) (by decide) dX3_init_98 (fun H locs hP hD hS => ?_)
  have hP : va_P G vwCl ([(h0, .inr (3, [.null, .null, .int 0, .int 0, .null, .null, .null, .null, .null, .int 0, .int 0, .int 0, .int 0, .null, .int 0, .null, .null, .null, .null, .null])), (q7, .inl (cA, 64, .inl (upd (fK kC 15) 15 (-1046744716))))]) _ := hP
  have hD : va_D _ ([(h0, .inr (3, [.null, .null, .int 0, .int 0, .null, .null, .null, .null, .null, .int 0, .int 0, .int 0, .int 0, .null, .int 0, .null, .null, .null, .null, .null])), (q7, .inl (cA, 64, .inl (upd (fK kC 15) 15 (-1046744716))))]) := hD
  rw [fK_s (f := kC) (k := 15) (v := (-1046744716)) (by decide)] at hP hD
  have hP : va_P G vwCl ([(h0, .inr (3, [.null, .null, .int 0, .int 0, .null, .null, .null, .null, .null, .int 0, .int 0, .int 0, .int 0, .null, .int 0, .null, .null, .null, .null, .null])), (q7, .inl (cA, 64, .inl (fK kC 16)))]) _ := hP
  have hD : va_D _ ([(h0, .inr (3, [.null, .null, .int 0, .int 0, .null, .null, .null, .null, .null, .int 0, .int 0, .int 0, .int 0, .null, .int 0, .null, .null, .null, .null, .null])), (q7, .inl (cA, 64, .inl (fK kC 16)))]) := hD
  refine lv_dup hx hb dX3_init_99 rfl ?_
  refine lv_bipush (v := 16) hx hb dX3_init_100 (by decide) ?_
  refine lv_ldc (v := (-459576895)) hx hb hown (hts (.constant RX3 23 (-459576895)) (by decide +kernel)) dX3_init_102 ?_
  refine x_ast (i := 16) hx hb hK hP hD hS 1 0 rfl rfl (by omega) (by decide) dX3_init_104 (fun H locs hP hD hS => ?_)
  have hP : va_P G vwCl ([(h0, .inr (3, [.null, .null, .int 0, .int 0, .null, .null, .null, .null, .null, .int 0, .int 0, .int 0, .int 0, .null, .int 0, .null, .null, .null, .null, .null])), (q7, .inl (cA, 64, .inl (upd (fK kC 16) 16 (-459576895))))]) _ := hP
  have hD : va_D _ ([(h0, .inr (3, [.null, .null, .int 0, .int 0, .null, .null, .null, .null, .null, .int 0, .int 0, .int 0, .int 0, .null, .int 0, .null, .null, .null, .null, .null])), (q7, .inl (cA, 64, .inl (upd (fK kC 16) 16 (-459576895))))]) := hD
  rw [fK_s (f := kC) (k := 16) (v := (-459576895)) (by decide)] at hP hD
  have hP : va_P G vwCl ([(h0, .inr (3, [.null, .null, .int 0, .int 0, .null, .null, .null, .null, .null, .int 0, .int 0, .int 0, .int 0, .null, .int 0, .null, .null, .null, .null, .null])), (q7, .inl (cA, 64, .inl (fK kC 17)))]) _ := hP
  have hD : va_D _ ([(h0, .inr (3, [.null, .null, .int 0, .int 0, .null, .null, .null, .null, .null, .int 0, .int 0, .int 0, .int 0, .null, .int 0, .null, .null, .null, .null, .null])), (q7, .inl (cA, 64, .inl (fK kC 17)))]) := hD
  refine lv_dup hx hb dX3_init_105 rfl ?_
  refine lv_bipush (v := 17) hx hb dX3_init_106 (by decide) ?_
  refine lv_ldc (v := (-272742522)) hx hb hown (hts (.constant RX3 24 (-272742522)) (by decide +kernel)) dX3_init_108 ?_
  refine x_ast (i := 17) hx hb hK hP hD hS 1 0 rfl rfl (by omega) (by decide) dX3_init_110 (fun H locs hP hD hS => ?_)
  have hP : va_P G vwCl ([(h0, .inr (3, [.null, .null, .int 0, .int 0, .null, .null, .null, .null, .null, .int 0, .int 0, .int 0, .int 0, .null, .int 0, .null, .null, .null, .null, .null])), (q7, .inl (cA, 64, .inl (upd (fK kC 17) 17 (-272742522))))]) _ := hP
  have hD : va_D _ ([(h0, .inr (3, [.null, .null, .int 0, .int 0, .null, .null, .null, .null, .null, .int 0, .int 0, .int 0, .int 0, .null, .int 0, .null, .null, .null, .null, .null])), (q7, .inl (cA, 64, .inl (upd (fK kC 17) 17 (-272742522))))]) := hD
  rw [fK_s (f := kC) (k := 17) (v := (-272742522)) (by decide)] at hP hD
  have hP : va_P G vwCl ([(h0, .inr (3, [.null, .null, .int 0, .int 0, .null, .null, .null, .null, .null, .int 0, .int 0, .int 0, .int 0, .null, .int 0, .null, .null, .null, .null, .null])), (q7, .inl (cA, 64, .inl (fK kC 18)))]) _ := hP
  have hD : va_D _ ([(h0, .inr (3, [.null, .null, .int 0, .int 0, .null, .null, .null, .null, .null, .int 0, .int 0, .int 0, .int 0, .null, .int 0, .null, .null, .null, .null, .null])), (q7, .inl (cA, 64, .inl (fK kC 18)))]) := hD
  refine lv_dup hx hb dX3_init_111 rfl ?_
  refine lv_bipush (v := 18) hx hb dX3_init_112 (by decide) ?_
  refine lv_ldc (v := 264347078) hx hb hown (hts (.constant RX3 25 (264347078)) (by decide +kernel)) dX3_init_114 ?_
  refine x_ast (i := 18) hx hb hK hP hD hS 1 0 rfl rfl (by omega) (by decide) dX3_init_116 (fun H locs hP hD hS => ?_)
  have hP : va_P G vwCl ([(h0, .inr (3, [.null, .null, .int 0, .int 0, .null, .null, .null, .null, .null, .int 0, .int 0, .int 0, .int 0, .null, .int 0, .null, .null, .null, .null, .null])), (q7, .inl (cA, 64, .inl (upd (fK kC 18) 18 264347078)))]) _ := hP
  have hD : va_D _ ([(h0, .inr (3, [.null, .null, .int 0, .int 0, .null, .null, .null, .null, .null, .int 0, .int 0, .int 0, .int 0, .null, .int 0, .null, .null, .null, .null, .null])), (q7, .inl (cA, 64, .inl (upd (fK kC 18) 18 264347078)))]) := hD
  rw [fK_s (f := kC) (k := 18) (v := 264347078) (by decide)] at hP hD
  have hP : va_P G vwCl ([(h0, .inr (3, [.null, .null, .int 0, .int 0, .null, .null, .null, .null, .null, .int 0, .int 0, .int 0, .int 0, .null, .int 0, .null, .null, .null, .null, .null])), (q7, .inl (cA, 64, .inl (fK kC 19)))]) _ := hP
  have hD : va_D _ ([(h0, .inr (3, [.null, .null, .int 0, .int 0, .null, .null, .null, .null, .null, .int 0, .int 0, .int 0, .int 0, .null, .int 0, .null, .null, .null, .null, .null])), (q7, .inl (cA, 64, .inl (fK kC 19)))]) := hD
  refine lv_dup hx hb dX3_init_117 rfl ?_
  refine lv_bipush (v := 19) hx hb dX3_init_118 (by decide) ?_
  refine lv_ldc (v := 604807628) hx hb hown (hts (.constant RX3 26 (604807628)) (by decide +kernel)) dX3_init_120 ?_
  refine x_ast (i := 19) hx hb hK hP hD hS 1 0 rfl rfl (by omega) (by decide) dX3_init_122 (fun H locs hP hD hS => ?_)
  have hP : va_P G vwCl ([(h0, .inr (3, [.null, .null, .int 0, .int 0, .null, .null, .null, .null, .null, .int 0, .int 0, .int 0, .int 0, .null, .int 0, .null, .null, .null, .null, .null])), (q7, .inl (cA, 64, .inl (upd (fK kC 19) 19 604807628)))]) _ := hP
  have hD : va_D _ ([(h0, .inr (3, [.null, .null, .int 0, .int 0, .null, .null, .null, .null, .null, .int 0, .int 0, .int 0, .int 0, .null, .int 0, .null, .null, .null, .null, .null])), (q7, .inl (cA, 64, .inl (upd (fK kC 19) 19 604807628)))]) := hD
  rw [fK_s (f := kC) (k := 19) (v := 604807628) (by decide)] at hP hD
  have hP : va_P G vwCl ([(h0, .inr (3, [.null, .null, .int 0, .int 0, .null, .null, .null, .null, .null, .int 0, .int 0, .int 0, .int 0, .null, .int 0, .null, .null, .null, .null, .null])), (q7, .inl (cA, 64, .inl (fK kC 20)))]) _ := hP
  have hD : va_D _ ([(h0, .inr (3, [.null, .null, .int 0, .int 0, .null, .null, .null, .null, .null, .int 0, .int 0, .int 0, .int 0, .null, .int 0, .null, .null, .null, .null, .null])), (q7, .inl (cA, 64, .inl (fK kC 20)))]) := hD
  refine lv_dup hx hb dX3_init_123 rfl ?_
  refine lv_bipush (v := 20) hx hb dX3_init_124 (by decide) ?_
  refine lv_ldc (v := 770255983) hx hb hown (hts (.constant RX3 27 (770255983)) (by decide +kernel)) dX3_init_126 ?_
  refine x_ast (i := 20) hx hb hK hP hD hS 1 0 rfl rfl (by omega) (by decide) dX3_init_128 (fun H locs hP hD hS => ?_)
  have hP : va_P G vwCl ([(h0, .inr (3, [.null, .null, .int 0, .int 0, .null, .null, .null, .null, .null, .int 0, .int 0, .int 0, .int 0, .null, .int 0, .null, .null, .null, .null, .null])), (q7, .inl (cA, 64, .inl (upd (fK kC 20) 20 770255983)))]) _ := hP
  have hD : va_D _ ([(h0, .inr (3, [.null, .null, .int 0, .int 0, .null, .null, .null, .null, .null, .int 0, .int 0, .int 0, .int 0, .null, .int 0, .null, .null, .null, .null, .null])), (q7, .inl (cA, 64, .inl (upd (fK kC 20) 20 770255983)))]) := hD
  rw [fK_s (f := kC) (k := 20) (v := 770255983) (by decide)] at hP hD
  have hP : va_P G vwCl ([(h0, .inr (3, [.null, .null, .int 0, .int 0, .null, .null, .null, .null, .null, .int 0, .int 0, .int 0, .int 0, .null, .int 0, .null, .null, .null, .null, .null])), (q7, .inl (cA, 64, .inl (fK kC 21)))]) _ := hP
  have hD : va_D _ ([(h0, .inr (3, [.null, .null, .int 0, .int 0, .null, .null, .null, .null, .null, .int 0, .int 0, .int 0, .int 0, .null, .int 0, .null, .null, .null, .null, .null])), (q7, .inl (cA, 64, .inl (fK kC 21)))]) := hD
  refine lv_dup hx hb dX3_init_129 rfl ?_
  refine lv_bipush (v := 21) hx hb dX3_init_130 (by decide) ?_
  refine lv_ldc (v := 1249150122) hx hb hown (hts (.constant RX3 28 (1249150122)) (by decide +kernel)) dX3_init_132 ?_
  refine x_ast (i := 21) hx hb hK hP hD hS 1 0 rfl rfl (by omega) (by decide) dX3_init_134 (fun H locs hP hD hS => ?_)
  have hP : va_P G vwCl ([(h0, .inr (3, [.null, .null, .int 0, .int 0, .null, .null, .null, .null, .null, .int 0, .int 0, .int 0, .int 0, .null, .int 0, .null, .null, .null, .null, .null])), (q7, .inl (cA, 64, .inl (upd (fK kC 21) 21 1249150122)))]) _ := hP
  have hD : va_D _ ([(h0, .inr (3, [.null, .null, .int 0, .int 0, .null, .null, .null, .null, .null, .int 0, .int 0, .int 0, .int 0, .null, .int 0, .null, .null, .null, .null, .null])), (q7, .inl (cA, 64, .inl (upd (fK kC 21) 21 1249150122)))]) := hD
  rw [fK_s (f := kC) (k := 21) (v := 1249150122) (by decide)] at hP hD
  have hP : va_P G vwCl ([(h0, .inr (3, [.null, .null, .int 0, .int 0, .null, .null, .null, .null, .null, .int 0, .int 0, .int 0, .int 0, .null, .int 0, .null, .null, .null, .null, .null])), (q7, .inl (cA, 64, .inl (fK kC 22)))]) _ := hP
  have hD : va_D _ ([(h0, .inr (3, [.null, .null, .int 0, .int 0, .null, .null, .null, .null, .null, .int 0, .int 0, .int 0, .int 0, .null, .int 0, .null, .null, .null, .null, .null])), (q7, .inl (cA, 64, .inl (fK kC 22)))]) := hD
  refine lv_dup hx hb dX3_init_135 rfl ?_
  refine lv_bipush (v := 22) hx hb dX3_init_136 (by decide) ?_
  refine lv_ldc (v := 1555081692) hx hb hown (hts (.constant RX3 29 (1555081692)) (by decide +kernel)) dX3_init_138 ?_
  refine x_ast (i := 22) hx hb hK hP hD hS 1 0 rfl rfl (by omega) (by decide) dX3_init_140 (fun H locs hP hD hS => ?_)
  have hP : va_P G vwCl ([(h0, .inr (3, [.null, .null, .int 0, .int 0, .null, .null, .null, .null, .null, .int 0, .int 0, .int 0, .int 0, .null, .int 0, .null, .null, .null, .null, .null])), (q7, .inl (cA, 64, .inl (upd (fK kC 22) 22 1555081692)))]) _ := hP
  have hD : va_D _ ([(h0, .inr (3, [.null, .null, .int 0, .int 0, .null, .null, .null, .null, .null, .int 0, .int 0, .int 0, .int 0, .null, .int 0, .null, .null, .null, .null, .null])), (q7, .inl (cA, 64, .inl (upd (fK kC 22) 22 1555081692)))]) := hD
  rw [fK_s (f := kC) (k := 22) (v := 1555081692) (by decide)] at hP hD
  have hP : va_P G vwCl ([(h0, .inr (3, [.null, .null, .int 0, .int 0, .null, .null, .null, .null, .null, .int 0, .int 0, .int 0, .int 0, .null, .int 0, .null, .null, .null, .null, .null])), (q7, .inl (cA, 64, .inl (fK kC 23)))]) _ := hP
  have hD : va_D _ ([(h0, .inr (3, [.null, .null, .int 0, .int 0, .null, .null, .null, .null, .null, .int 0, .int 0, .int 0, .int 0, .null, .int 0, .null, .null, .null, .null, .null])), (q7, .inl (cA, 64, .inl (fK kC 23)))]) := hD
  refine lv_dup hx hb dX3_init_141 rfl ?_
  refine lv_bipush (v := 23) hx hb dX3_init_142 (by decide) ?_
  refine lv_ldc (v := 1996064986) hx hb hown (hts (.constant RX3 30 (1996064986)) (by decide +kernel)) dX3_init_144 ?_
  refine x_ast (i := 23) hx hb hK hP hD hS 1 0 rfl rfl (by omega) (by decide) dX3_init_146 (fun H locs hP hD hS => ?_)
  have hP : va_P G vwCl ([(h0, .inr (3, [.null, .null, .int 0, .int 0, .null, .null, .null, .null, .null, .int 0, .int 0, .int 0, .int 0, .null, .int 0, .null, .null, .null, .null, .null])), (q7, .inl (cA, 64, .inl (upd (fK kC 23) 23 1996064986)))]) _ := hP
  have hD : va_D _ ([(h0, .inr (3, [.null, .null, .int 0, .int 0, .null, .null, .null, .null, .null, .int 0, .int 0, .int 0, .int 0, .null, .int 0, .null, .null, .null, .null, .null])), (q7, .inl (cA, 64, .inl (upd (fK kC 23) 23 1996064986)))]) := hD
  rw [fK_s (f := kC) (k := 23) (v := 1996064986) (by decide)] at hP hD
  have hP : va_P G vwCl ([(h0, .inr (3, [.null, .null, .int 0, .int 0, .null, .null, .null, .null, .null, .int 0, .int 0, .int 0, .int 0, .null, .int 0, .null, .null, .null, .null, .null])), (q7, .inl (cA, 64, .inl (fK kC 24)))]) _ := hP
  have hD : va_D _ ([(h0, .inr (3, [.null, .null, .int 0, .int 0, .null, .null, .null, .null, .null, .int 0, .int 0, .int 0, .int 0, .null, .int 0, .null, .null, .null, .null, .null])), (q7, .inl (cA, 64, .inl (fK kC 24)))]) := hD
  refine lv_dup hx hb dX3_init_147 rfl ?_
  refine lv_bipush (v := 24) hx hb dX3_init_148 (by decide) ?_
  refine lv_ldc (v := (-1740746414)) hx hb hown (hts (.constant RX3 31 (-1740746414)) (by decide +kernel)) dX3_init_150 ?_
  refine x_ast (i := 24) hx hb hK hP hD hS 1 0 rfl rfl (by omega) (by decide) dX3_init_152 (fun H locs hP hD hS => ?_)
  have hP : va_P G vwCl ([(h0, .inr (3, [.null, .null, .int 0, .int 0, .null, .null, .null, .null, .null, .int 0, .int 0, .int 0, .int 0, .null, .int 0, .null, .null, .null, .null, .null])), (q7, .inl (cA, 64, .inl (upd (fK kC 24) 24 (-1740746414))))]) _ := hP
  have hD : va_D _ ([(h0, .inr (3, [.null, .null, .int 0, .int 0, .null, .null, .null, .null, .null, .int 0, .int 0, .int 0, .int 0, .null, .int 0, .null, .null, .null, .null, .null])), (q7, .inl (cA, 64, .inl (upd (fK kC 24) 24 (-1740746414))))]) := hD
  rw [fK_s (f := kC) (k := 24) (v := (-1740746414)) (by decide)] at hP hD
  have hP : va_P G vwCl ([(h0, .inr (3, [.null, .null, .int 0, .int 0, .null, .null, .null, .null, .null, .int 0, .int 0, .int 0, .int 0, .null, .int 0, .null, .null, .null, .null, .null])), (q7, .inl (cA, 64, .inl (fK kC 25)))]) _ := hP
  have hD : va_D _ ([(h0, .inr (3, [.null, .null, .int 0, .int 0, .null, .null, .null, .null, .null, .int 0, .int 0, .int 0, .int 0, .null, .int 0, .null, .null, .null, .null, .null])), (q7, .inl (cA, 64, .inl (fK kC 25)))]) := hD
  refine lv_dup hx hb dX3_init_153 rfl ?_
  refine lv_bipush (v := 25) hx hb dX3_init_154 (by decide) ?_
  refine lv_ldc (v := (-1473132947)) hx hb hown (hts (.constant RX3 32 (-1473132947)) (by decide +kernel)) dX3_init_156 ?_
  refine x_ast (i := 25) hx hb hK hP hD hS 1 0 rfl rfl (by omega) (by decide) dX3_init_158 (fun H locs hP hD hS => ?_)
  have hP : va_P G vwCl ([(h0, .inr (3, [.null, .null, .int 0, .int 0, .null, .null, .null, .null, .null, .int 0, .int 0, .int 0, .int 0, .null, .int 0, .null, .null, .null, .null, .null])), (q7, .inl (cA, 64, .inl (upd (fK kC 25) 25 (-1473132947))))]) _ := hP
  have hD : va_D _ ([(h0, .inr (3, [.null, .null, .int 0, .int 0, .null, .null, .null, .null, .null, .int 0, .int 0, .int 0, .int 0, .null, .int 0, .null, .null, .null, .null, .null])), (q7, .inl (cA, 64, .inl (upd (fK kC 25) 25 (-1473132947))))]) := hD
  rw [fK_s (f := kC) (k := 25) (v := (-1473132947)) (by decide)] at hP hD
  have hP : va_P G vwCl ([(h0, .inr (3, [.null, .null, .int 0, .int 0, .null, .null, .null, .null, .null, .int 0, .int 0, .int 0, .int 0, .null, .int 0, .null, .null, .null, .null, .null])), (q7, .inl (cA, 64, .inl (fK kC 26)))]) _ := hP
  have hD : va_D _ ([(h0, .inr (3, [.null, .null, .int 0, .int 0, .null, .null, .null, .null, .null, .int 0, .int 0, .int 0, .int 0, .null, .int 0, .null, .null, .null, .null, .null])), (q7, .inl (cA, 64, .inl (fK kC 26)))]) := hD
  refine lv_dup hx hb dX3_init_159 rfl ?_
  refine lv_bipush (v := 26) hx hb dX3_init_160 (by decide) ?_
  refine lv_ldc (v := (-1341970488)) hx hb hown (hts (.constant RX3 33 (-1341970488)) (by decide +kernel)) dX3_init_162 ?_
  refine x_ast (i := 26) hx hb hK hP hD hS 1 0 rfl rfl (by omega) (by decide) dX3_init_164 (fun H locs hP hD hS => ?_)
  have hP : va_P G vwCl ([(h0, .inr (3, [.null, .null, .int 0, .int 0, .null, .null, .null, .null, .null, .int 0, .int 0, .int 0, .int 0, .null, .int 0, .null, .null, .null, .null, .null])), (q7, .inl (cA, 64, .inl (upd (fK kC 26) 26 (-1341970488))))]) _ := hP
  have hD : va_D _ ([(h0, .inr (3, [.null, .null, .int 0, .int 0, .null, .null, .null, .null, .null, .int 0, .int 0, .int 0, .int 0, .null, .int 0, .null, .null, .null, .null, .null])), (q7, .inl (cA, 64, .inl (upd (fK kC 26) 26 (-1341970488))))]) := hD
  rw [fK_s (f := kC) (k := 26) (v := (-1341970488)) (by decide)] at hP hD
  have hP : va_P G vwCl ([(h0, .inr (3, [.null, .null, .int 0, .int 0, .null, .null, .null, .null, .null, .int 0, .int 0, .int 0, .int 0, .null, .int 0, .null, .null, .null, .null, .null])), (q7, .inl (cA, 64, .inl (fK kC 27)))]) _ := hP
  have hD : va_D _ ([(h0, .inr (3, [.null, .null, .int 0, .int 0, .null, .null, .null, .null, .null, .int 0, .int 0, .int 0, .int 0, .null, .int 0, .null, .null, .null, .null, .null])), (q7, .inl (cA, 64, .inl (fK kC 27)))]) := hD
  refine lv_dup hx hb dX3_init_165 rfl ?_
  refine lv_bipush (v := 27) hx hb dX3_init_166 (by decide) ?_
  refine lv_ldc (v := (-1084653625)) hx hb hown (hts (.constant RX3 34 (-1084653625)) (by decide +kernel)) dX3_init_168 ?_
  refine x_ast (i := 27) hx hb hK hP hD hS 1 0 rfl rfl (by omega) (by decide) dX3_init_170 (fun H locs hP hD hS => ?_)
  have hP : va_P G vwCl ([(h0, .inr (3, [.null, .null, .int 0, .int 0, .null, .null, .null, .null, .null, .int 0, .int 0, .int 0, .int 0, .null, .int 0, .null, .null, .null, .null, .null])), (q7, .inl (cA, 64, .inl (upd (fK kC 27) 27 (-1084653625))))]) _ := hP
  have hD : va_D _ ([(h0, .inr (3, [.null, .null, .int 0, .int 0, .null, .null, .null, .null, .null, .int 0, .int 0, .int 0, .int 0, .null, .int 0, .null, .null, .null, .null, .null])), (q7, .inl (cA, 64, .inl (upd (fK kC 27) 27 (-1084653625))))]) := hD
  rw [fK_s (f := kC) (k := 27) (v := (-1084653625)) (by decide)] at hP hD
  have hP : va_P G vwCl ([(h0, .inr (3, [.null, .null, .int 0, .int 0, .null, .null, .null, .null, .null, .int 0, .int 0, .int 0, .int 0, .null, .int 0, .null, .null, .null, .null, .null])), (q7, .inl (cA, 64, .inl (fK kC 28)))]) _ := hP
  have hD : va_D _ ([(h0, .inr (3, [.null, .null, .int 0, .int 0, .null, .null, .null, .null, .null, .int 0, .int 0, .int 0, .int 0, .null, .int 0, .null, .null, .null, .null, .null])), (q7, .inl (cA, 64, .inl (fK kC 28)))]) := hD
  refine lv_dup hx hb dX3_init_171 rfl ?_
  refine lv_bipush (v := 28) hx hb dX3_init_172 (by decide) ?_
  refine lv_ldc (v := (-958395405)) hx hb hown (hts (.constant RX3 35 (-958395405)) (by decide +kernel)) dX3_init_174 ?_
  refine x_ast (i := 28) hx hb hK hP hD hS 1 0 rfl rfl (by omega) (by decide) dX3_init_176 (fun H locs hP hD hS => ?_)
  have hP : va_P G vwCl ([(h0, .inr (3, [.null, .null, .int 0, .int 0, .null, .null, .null, .null, .null, .int 0, .int 0, .int 0, .int 0, .null, .int 0, .null, .null, .null, .null, .null])), (q7, .inl (cA, 64, .inl (upd (fK kC 28) 28 (-958395405))))]) _ := hP
  have hD : va_D _ ([(h0, .inr (3, [.null, .null, .int 0, .int 0, .null, .null, .null, .null, .null, .int 0, .int 0, .int 0, .int 0, .null, .int 0, .null, .null, .null, .null, .null])), (q7, .inl (cA, 64, .inl (upd (fK kC 28) 28 (-958395405))))]) := hD
  rw [fK_s (f := kC) (k := 28) (v := (-958395405)) (by decide)] at hP hD
  have hP : va_P G vwCl ([(h0, .inr (3, [.null, .null, .int 0, .int 0, .null, .null, .null, .null, .null, .int 0, .int 0, .int 0, .int 0, .null, .int 0, .null, .null, .null, .null, .null])), (q7, .inl (cA, 64, .inl (fK kC 29)))]) _ := hP
  have hD : va_D _ ([(h0, .inr (3, [.null, .null, .int 0, .int 0, .null, .null, .null, .null, .null, .int 0, .int 0, .int 0, .int 0, .null, .int 0, .null, .null, .null, .null, .null])), (q7, .inl (cA, 64, .inl (fK kC 29)))]) := hD
  refine lv_dup hx hb dX3_init_177 rfl ?_
  refine lv_bipush (v := 29) hx hb dX3_init_178 (by decide) ?_
  refine lv_ldc (v := (-710438585)) hx hb hown (hts (.constant RX3 36 (-710438585)) (by decide +kernel)) dX3_init_180 ?_
  refine x_ast (i := 29) hx hb hK hP hD hS 1 0 rfl rfl (by omega) (by decide) dX3_init_182 (fun H locs hP hD hS => ?_)
  have hP : va_P G vwCl ([(h0, .inr (3, [.null, .null, .int 0, .int 0, .null, .null, .null, .null, .null, .int 0, .int 0, .int 0, .int 0, .null, .int 0, .null, .null, .null, .null, .null])), (q7, .inl (cA, 64, .inl (upd (fK kC 29) 29 (-710438585))))]) _ := hP
  have hD : va_D _ ([(h0, .inr (3, [.null, .null, .int 0, .int 0, .null, .null, .null, .null, .null, .int 0, .int 0, .int 0, .int 0, .null, .int 0, .null, .null, .null, .null, .null])), (q7, .inl (cA, 64, .inl (upd (fK kC 29) 29 (-710438585))))]) := hD
  rw [fK_s (f := kC) (k := 29) (v := (-710438585)) (by decide)] at hP hD
  have hP : va_P G vwCl ([(h0, .inr (3, [.null, .null, .int 0, .int 0, .null, .null, .null, .null, .null, .int 0, .int 0, .int 0, .int 0, .null, .int 0, .null, .null, .null, .null, .null])), (q7, .inl (cA, 64, .inl (fK kC 30)))]) _ := hP
  have hD : va_D _ ([(h0, .inr (3, [.null, .null, .int 0, .int 0, .null, .null, .null, .null, .null, .int 0, .int 0, .int 0, .int 0, .null, .int 0, .null, .null, .null, .null, .null])), (q7, .inl (cA, 64, .inl (fK kC 30)))]) := hD
  refine lv_dup hx hb dX3_init_183 rfl ?_
  refine lv_bipush (v := 30) hx hb dX3_init_184 (by decide) ?_
  refine lv_ldc (v := 113926993) hx hb hown (hts (.constant RX3 37 (113926993)) (by decide +kernel)) dX3_init_186 ?_
  refine x_ast (i := 30) hx hb hK hP hD hS 1 0 rfl rfl (by omega) (by decide) dX3_init_188 (fun H locs hP hD hS => ?_)
  have hP : va_P G vwCl ([(h0, .inr (3, [.null, .null, .int 0, .int 0, .null, .null, .null, .null, .null, .int 0, .int 0, .int 0, .int 0, .null, .int 0, .null, .null, .null, .null, .null])), (q7, .inl (cA, 64, .inl (upd (fK kC 30) 30 113926993)))]) _ := hP
  have hD : va_D _ ([(h0, .inr (3, [.null, .null, .int 0, .int 0, .null, .null, .null, .null, .null, .int 0, .int 0, .int 0, .int 0, .null, .int 0, .null, .null, .null, .null, .null])), (q7, .inl (cA, 64, .inl (upd (fK kC 30) 30 113926993)))]) := hD
  rw [fK_s (f := kC) (k := 30) (v := 113926993) (by decide)] at hP hD
  have hP : va_P G vwCl ([(h0, .inr (3, [.null, .null, .int 0, .int 0, .null, .null, .null, .null, .null, .int 0, .int 0, .int 0, .int 0, .null, .int 0, .null, .null, .null, .null, .null])), (q7, .inl (cA, 64, .inl (fK kC 31)))]) _ := hP
  have hD : va_D _ ([(h0, .inr (3, [.null, .null, .int 0, .int 0, .null, .null, .null, .null, .null, .int 0, .int 0, .int 0, .int 0, .null, .int 0, .null, .null, .null, .null, .null])), (q7, .inl (cA, 64, .inl (fK kC 31)))]) := hD
  refine lv_dup hx hb dX3_init_189 rfl ?_
  refine lv_bipush (v := 31) hx hb dX3_init_190 (by decide) ?_
  refine lv_ldc (v := 338241895) hx hb hown (hts (.constant RX3 38 (338241895)) (by decide +kernel)) dX3_init_192 ?_
  refine x_ast (i := 31) hx hb hK hP hD hS 1 0 rfl rfl (by omega) (by decide) dX3_init_194 (fun H locs hP hD hS => ?_)
  have hP : va_P G vwCl ([(h0, .inr (3, [.null, .null, .int 0, .int 0, .null, .null, .null, .null, .null, .int 0, .int 0, .int 0, .int 0, .null, .int 0, .null, .null, .null, .null, .null])), (q7, .inl (cA, 64, .inl (upd (fK kC 31) 31 338241895)))]) _ := hP
  have hD : va_D _ ([(h0, .inr (3, [.null, .null, .int 0, .int 0, .null, .null, .null, .null, .null, .int 0, .int 0, .int 0, .int 0, .null, .int 0, .null, .null, .null, .null, .null])), (q7, .inl (cA, 64, .inl (upd (fK kC 31) 31 338241895)))]) := hD
  rw [fK_s (f := kC) (k := 31) (v := 338241895) (by decide)] at hP hD
  have hP : va_P G vwCl ([(h0, .inr (3, [.null, .null, .int 0, .int 0, .null, .null, .null, .null, .null, .int 0, .int 0, .int 0, .int 0, .null, .int 0, .null, .null, .null, .null, .null])), (q7, .inl (cA, 64, .inl (fK kC 32)))]) _ := hP
  have hD : va_D _ ([(h0, .inr (3, [.null, .null, .int 0, .int 0, .null, .null, .null, .null, .null, .int 0, .int 0, .int 0, .int 0, .null, .int 0, .null, .null, .null, .null, .null])), (q7, .inl (cA, 64, .inl (fK kC 32)))]) := hD
  refine lv_dup hx hb dX3_init_195 rfl ?_
  refine lv_bipush (v := 32) hx hb dX3_init_196 (by decide) ?_
  refine lv_ldc (v := 666307205) hx hb hown (hts (.constant RX3 39 (666307205)) (by decide +kernel)) dX3_init_198 ?_
  refine x_ast (i := 32) hx hb hK hP hD hS 1 0 rfl rfl (by omega) (by decide) dX3_init_200 (fun H locs hP hD hS => ?_)
  have hP : va_P G vwCl ([(h0, .inr (3, [.null, .null, .int 0, .int 0, .null, .null, .null, .null, .null, .int 0, .int 0, .int 0, .int 0, .null, .int 0, .null, .null, .null, .null, .null])), (q7, .inl (cA, 64, .inl (upd (fK kC 32) 32 666307205)))]) _ := hP
  have hD : va_D _ ([(h0, .inr (3, [.null, .null, .int 0, .int 0, .null, .null, .null, .null, .null, .int 0, .int 0, .int 0, .int 0, .null, .int 0, .null, .null, .null, .null, .null])), (q7, .inl (cA, 64, .inl (upd (fK kC 32) 32 666307205)))]) := hD
  rw [fK_s (f := kC) (k := 32) (v := 666307205) (by decide)] at hP hD
  have hP : va_P G vwCl ([(h0, .inr (3, [.null, .null, .int 0, .int 0, .null, .null, .null, .null, .null, .int 0, .int 0, .int 0, .int 0, .null, .int 0, .null, .null, .null, .null, .null])), (q7, .inl (cA, 64, .inl (fK kC 33)))]) _ := hP
  have hD : va_D _ ([(h0, .inr (3, [.null, .null, .int 0, .int 0, .null, .null, .null, .null, .null, .int 0, .int 0, .int 0, .int 0, .null, .int 0, .null, .null, .null, .null, .null])), (q7, .inl (cA, 64, .inl (fK kC 33)))]) := hD
  refine lv_dup hx hb dX3_init_201 rfl ?_
  refine lv_bipush (v := 33) hx hb dX3_init_202 (by decide) ?_
  refine lv_ldc (v := 773529912) hx hb hown (hts (.constant RX3 40 (773529912)) (by decide +kernel)) dX3_init_204 ?_
  refine x_ast (i := 33) hx hb hK hP hD hS 1 0 rfl rfl (by omega) (by decide) dX3_init_206 (fun H locs hP hD hS => ?_)
  have hP : va_P G vwCl ([(h0, .inr (3, [.null, .null, .int 0, .int 0, .null, .null, .null, .null, .null, .int 0, .int 0, .int 0, .int 0, .null, .int 0, .null, .null, .null, .null, .null])), (q7, .inl (cA, 64, .inl (upd (fK kC 33) 33 773529912)))]) _ := hP
  have hD : va_D _ ([(h0, .inr (3, [.null, .null, .int 0, .int 0, .null, .null, .null, .null, .null, .int 0, .int 0, .int 0, .int 0, .null, .int 0, .null, .null, .null, .null, .null])), (q7, .inl (cA, 64, .inl (upd (fK kC 33) 33 773529912)))]) := hD
  rw [fK_s (f := kC) (k := 33) (v := 773529912) (by decide)] at hP hD
  have hP : va_P G vwCl ([(h0, .inr (3, [.null, .null, .int 0, .int 0, .null, .null, .null, .null, .null, .int 0, .int 0, .int 0, .int 0, .null, .int 0, .null, .null, .null, .null, .null])), (q7, .inl (cA, 64, .inl (fK kC 34)))]) _ := hP
  have hD : va_D _ ([(h0, .inr (3, [.null, .null, .int 0, .int 0, .null, .null, .null, .null, .null, .int 0, .int 0, .int 0, .int 0, .null, .int 0, .null, .null, .null, .null, .null])), (q7, .inl (cA, 64, .inl (fK kC 34)))]) := hD
  refine lv_dup hx hb dX3_init_207 rfl ?_
  refine lv_bipush (v := 34) hx hb dX3_init_208 (by decide) ?_
  refine lv_ldc (v := 1294757372) hx hb hown (hts (.constant RX3 41 (1294757372)) (by decide +kernel)) dX3_init_210 ?_
  refine x_ast (i := 34) hx hb hK hP hD hS 1 0 rfl rfl (by omega) (by decide) dX3_init_212 (fun H locs hP hD hS => ?_)
  have hP : va_P G vwCl ([(h0, .inr (3, [.null, .null, .int 0, .int 0, .null, .null, .null, .null, .null, .int 0, .int 0, .int 0, .int 0, .null, .int 0, .null, .null, .null, .null, .null])), (q7, .inl (cA, 64, .inl (upd (fK kC 34) 34 1294757372)))]) _ := hP
  have hD : va_D _ ([(h0, .inr (3, [.null, .null, .int 0, .int 0, .null, .null, .null, .null, .null, .int 0, .int 0, .int 0, .int 0, .null, .int 0, .null, .null, .null, .null, .null])), (q7, .inl (cA, 64, .inl (upd (fK kC 34) 34 1294757372)))]) := hD
  rw [fK_s (f := kC) (k := 34) (v := 1294757372) (by decide)] at hP hD
  have hP : va_P G vwCl ([(h0, .inr (3, [.null, .null, .int 0, .int 0, .null, .null, .null, .null, .null, .int 0, .int 0, .int 0, .int 0, .null, .int 0, .null, .null, .null, .null, .null])), (q7, .inl (cA, 64, .inl (fK kC 35)))]) _ := hP
  have hD : va_D _ ([(h0, .inr (3, [.null, .null, .int 0, .int 0, .null, .null, .null, .null, .null, .int 0, .int 0, .int 0, .int 0, .null, .int 0, .null, .null, .null, .null, .null])), (q7, .inl (cA, 64, .inl (fK kC 35)))]) := hD
  refine lv_dup hx hb dX3_init_213 rfl ?_
  refine lv_bipush (v := 35) hx hb dX3_init_214 (by decide) ?_
  refine lv_ldc (v := 1396182291) hx hb hown (hts (.constant RX3 42 (1396182291)) (by decide +kernel)) dX3_init_216 ?_
  refine x_ast (i := 35) hx hb hK hP hD hS 1 0 rfl rfl (by omega) (by decide) dX3_init_218 (fun H locs hP hD hS => ?_)
  have hP : va_P G vwCl ([(h0, .inr (3, [.null, .null, .int 0, .int 0, .null, .null, .null, .null, .null, .int 0, .int 0, .int 0, .int 0, .null, .int 0, .null, .null, .null, .null, .null])), (q7, .inl (cA, 64, .inl (upd (fK kC 35) 35 1396182291)))]) _ := hP
  have hD : va_D _ ([(h0, .inr (3, [.null, .null, .int 0, .int 0, .null, .null, .null, .null, .null, .int 0, .int 0, .int 0, .int 0, .null, .int 0, .null, .null, .null, .null, .null])), (q7, .inl (cA, 64, .inl (upd (fK kC 35) 35 1396182291)))]) := hD
  rw [fK_s (f := kC) (k := 35) (v := 1396182291) (by decide)] at hP hD
  have hP : va_P G vwCl ([(h0, .inr (3, [.null, .null, .int 0, .int 0, .null, .null, .null, .null, .null, .int 0, .int 0, .int 0, .int 0, .null, .int 0, .null, .null, .null, .null, .null])), (q7, .inl (cA, 64, .inl (fK kC 36)))]) _ := hP
  have hD : va_D _ ([(h0, .inr (3, [.null, .null, .int 0, .int 0, .null, .null, .null, .null, .null, .int 0, .int 0, .int 0, .int 0, .null, .int 0, .null, .null, .null, .null, .null])), (q7, .inl (cA, 64, .inl (fK kC 36)))]) := hD
  refine lv_dup hx hb dX3_init_219 rfl ?_
  refine lv_bipush (v := 36) hx hb dX3_init_220 (by decide) ?_
  refine lv_ldc (v := 1695183700) hx hb hown (hts (.constant RX3 43 (1695183700)) (by decide +kernel)) dX3_init_222 ?_
  refine x_ast (i := 36) hx hb hK hP hD hS 1 0 rfl rfl (by omega) (by decide) dX3_init_224 (fun H locs hP hD hS => ?_)
  have hP : va_P G vwCl ([(h0, .inr (3, [.null, .null, .int 0, .int 0, .null, .null, .null, .null, .null, .int 0, .int 0, .int 0, .int 0, .null, .int 0, .null, .null, .null, .null, .null])), (q7, .inl (cA, 64, .inl (upd (fK kC 36) 36 1695183700)))]) _ := hP
  have hD : va_D _ ([(h0, .inr (3, [.null, .null, .int 0, .int 0, .null, .null, .null, .null, .null, .int 0, .int 0, .int 0, .int 0, .null, .int 0, .null, .null, .null, .null, .null])), (q7, .inl (cA, 64, .inl (upd (fK kC 36) 36 1695183700)))]) := hD
  rw [fK_s (f := kC) (k := 36) (v := 1695183700) (by decide)] at hP hD
  have hP : va_P G vwCl ([(h0, .inr (3, [.null, .null, .int 0, .int 0, .null, .null, .null, .null, .null, .int 0, .int 0, .int 0, .int 0, .null, .int 0, .null, .null, .null, .null, .null])), (q7, .inl (cA, 64, .inl (fK kC 37)))]) _ := hP
  have hD : va_D _ ([(h0, .inr (3, [.null, .null, .int 0, .int 0, .null, .null, .null, .null, .null, .int 0, .int 0, .int 0, .int 0, .null, .int 0, .null, .null, .null, .null, .null])), (q7, .inl (cA, 64, .inl (fK kC 37)))]) := hD
  refine lv_dup hx hb dX3_init_225 rfl ?_
  refine lv_bipush (v := 37) hx hb dX3_init_226 (by decide) ?_
  refine lv_ldc (v := 1986661051) hx hb hown (hts (.constant RX3 44 (1986661051)) (by decide +kernel)) dX3_init_228 ?_
  refine x_ast (i := 37) hx hb hK hP hD hS 1 0 rfl rfl (by omega) (by decide) dX3_init_230 (fun H locs hP hD hS => ?_)
  have hP : va_P G vwCl ([(h0, .inr (3, [.null, .null, .int 0, .int 0, .null, .null, .null, .null, .null, .int 0, .int 0, .int 0, .int 0, .null, .int 0, .null, .null, .null, .null, .null])), (q7, .inl (cA, 64, .inl (upd (fK kC 37) 37 1986661051)))]) _ := hP
  have hD : va_D _ ([(h0, .inr (3, [.null, .null, .int 0, .int 0, .null, .null, .null, .null, .null, .int 0, .int 0, .int 0, .int 0, .null, .int 0, .null, .null, .null, .null, .null])), (q7, .inl (cA, 64, .inl (upd (fK kC 37) 37 1986661051)))]) := hD
  rw [fK_s (f := kC) (k := 37) (v := 1986661051) (by decide)] at hP hD
  have hP : va_P G vwCl ([(h0, .inr (3, [.null, .null, .int 0, .int 0, .null, .null, .null, .null, .null, .int 0, .int 0, .int 0, .int 0, .null, .int 0, .null, .null, .null, .null, .null])), (q7, .inl (cA, 64, .inl (fK kC 38)))]) _ := hP
  have hD : va_D _ ([(h0, .inr (3, [.null, .null, .int 0, .int 0, .null, .null, .null, .null, .null, .int 0, .int 0, .int 0, .int 0, .null, .int 0, .null, .null, .null, .null, .null])), (q7, .inl (cA, 64, .inl (fK kC 38)))]) := hD
  refine lv_dup hx hb dX3_init_231 rfl ?_
  refine lv_bipush (v := 38) hx hb dX3_init_232 (by decide) ?_
  refine lv_ldc (v := (-2117940946)) hx hb hown (hts (.constant RX3 45 (-2117940946)) (by decide +kernel)) dX3_init_234 ?_
  refine x_ast (i := 38) hx hb hK hP hD hS 1 0 rfl rfl (by omega) (by decide) dX3_init_236 (fun H locs hP hD hS => ?_)
  have hP : va_P G vwCl ([(h0, .inr (3, [.null, .null, .int 0, .int 0, .null, .null, .null, .null, .null, .int 0, .int 0, .int 0, .int 0, .null, .int 0, .null, .null, .null, .null, .null])), (q7, .inl (cA, 64, .inl (upd (fK kC 38) 38 (-2117940946))))]) _ := hP
  have hD : va_D _ ([(h0, .inr (3, [.null, .null, .int 0, .int 0, .null, .null, .null, .null, .null, .int 0, .int 0, .int 0, .int 0, .null, .int 0, .null, .null, .null, .null, .null])), (q7, .inl (cA, 64, .inl (upd (fK kC 38) 38 (-2117940946))))]) := hD
  rw [fK_s (f := kC) (k := 38) (v := (-2117940946)) (by decide)] at hP hD
  have hP : va_P G vwCl ([(h0, .inr (3, [.null, .null, .int 0, .int 0, .null, .null, .null, .null, .null, .int 0, .int 0, .int 0, .int 0, .null, .int 0, .null, .null, .null, .null, .null])), (q7, .inl (cA, 64, .inl (fK kC 39)))]) _ := hP
  have hD : va_D _ ([(h0, .inr (3, [.null, .null, .int 0, .int 0, .null, .null, .null, .null, .null, .int 0, .int 0, .int 0, .int 0, .null, .int 0, .null, .null, .null, .null, .null])), (q7, .inl (cA, 64, .inl (fK kC 39)))]) := hD
  refine lv_dup hx hb dX3_init_237 rfl ?_
  refine lv_bipush (v := 39) hx hb dX3_init_238 (by decide) ?_
  refine lv_ldc (v := (-1838011259)) hx hb hown (hts (.constant RX3 46 (-1838011259)) (by decide +kernel)) dX3_init_240 ?_
  refine x_ast (i := 39) hx hb hK hP hD hS 1 0 rfl rfl (by omega) (by decide) dX3_init_242 (fun H locs hP hD hS => ?_)
  have hP : va_P G vwCl ([(h0, .inr (3, [.null, .null, .int 0, .int 0, .null, .null, .null, .null, .null, .int 0, .int 0, .int 0, .int 0, .null, .int 0, .null, .null, .null, .null, .null])), (q7, .inl (cA, 64, .inl (upd (fK kC 39) 39 (-1838011259))))]) _ := hP
  have hD : va_D _ ([(h0, .inr (3, [.null, .null, .int 0, .int 0, .null, .null, .null, .null, .null, .int 0, .int 0, .int 0, .int 0, .null, .int 0, .null, .null, .null, .null, .null])), (q7, .inl (cA, 64, .inl (upd (fK kC 39) 39 (-1838011259))))]) := hD
  rw [fK_s (f := kC) (k := 39) (v := (-1838011259)) (by decide)] at hP hD
  have hP : va_P G vwCl ([(h0, .inr (3, [.null, .null, .int 0, .int 0, .null, .null, .null, .null, .null, .int 0, .int 0, .int 0, .int 0, .null, .int 0, .null, .null, .null, .null, .null])), (q7, .inl (cA, 64, .inl (fK kC 40)))]) _ := hP
  have hD : va_D _ ([(h0, .inr (3, [.null, .null, .int 0, .int 0, .null, .null, .null, .null, .null, .int 0, .int 0, .int 0, .int 0, .null, .int 0, .null, .null, .null, .null, .null])), (q7, .inl (cA, 64, .inl (fK kC 40)))]) := hD
  refine lv_dup hx hb dX3_init_243 rfl ?_
  refine lv_bipush (v := 40) hx hb dX3_init_244 (by decide) ?_
  refine lv_ldc (v := (-1564481375)) hx hb hown (hts (.constant RX3 47 (-1564481375)) (by decide +kernel)) dX3_init_246 ?_
  refine x_ast (i := 40) hx hb hK hP hD hS 1 0 rfl rfl (by omega) (by decide) dX3_init_248 (fun H locs hP hD hS => ?_)
  have hP : va_P G vwCl ([(h0, .inr (3, [.null, .null, .int 0, .int 0, .null, .null, .null, .null, .null, .int 0, .int 0, .int 0, .int 0, .null, .int 0, .null, .null, .null, .null, .null])), (q7, .inl (cA, 64, .inl (upd (fK kC 40) 40 (-1564481375))))]) _ := hP
  have hD : va_D _ ([(h0, .inr (3, [.null, .null, .int 0, .int 0, .null, .null, .null, .null, .null, .int 0, .int 0, .int 0, .int 0, .null, .int 0, .null, .null, .null, .null, .null])), (q7, .inl (cA, 64, .inl (upd (fK kC 40) 40 (-1564481375))))]) := hD
  rw [fK_s (f := kC) (k := 40) (v := (-1564481375)) (by decide)] at hP hD
  have hP : va_P G vwCl ([(h0, .inr (3, [.null, .null, .int 0, .int 0, .null, .null, .null, .null, .null, .int 0, .int 0, .int 0, .int 0, .null, .int 0, .null, .null, .null, .null, .null])), (q7, .inl (cA, 64, .inl (fK kC 41)))]) _ := hP
  have hD : va_D _ ([(h0, .inr (3, [.null, .null, .int 0, .int 0, .null, .null, .null, .null, .null, .int 0, .int 0, .int 0, .int 0, .null, .int 0, .null, .null, .null, .null, .null])), (q7, .inl (cA, 64, .inl (fK kC 41)))]) := hD
  refine lv_dup hx hb dX3_init_249 rfl ?_
  refine lv_bipush (v := 41) hx hb dX3_init_250 (by decide) ?_
  refine lv_ldc (v := (-1474664885)) hx hb hown (hts (.constant RX3 48 (-1474664885)) (by decide +kernel)) dX3_init_252 ?_
  refine x_ast (i := 41) hx hb hK hP hD hS 1 0 rfl rfl (by omega) (by decide) dX3_init_254 (fun H locs hP hD hS => ?_)
  have hP : va_P G vwCl ([(h0, .inr (3, [.null, .null, .int 0, .int 0, .null, .null, .null, .null, .null, .int 0, .int 0, .int 0, .int 0, .null, .int 0, .null, .null, .null, .null, .null])), (q7, .inl (cA, 64, .inl (upd (fK kC 41) 41 (-1474664885))))]) _ := hP
  have hD : va_D _ ([(h0, .inr (3, [.null, .null, .int 0, .int 0, .null, .null, .null, .null, .null, .int 0, .int 0, .int 0, .int 0, .null, .int 0, .null, .null, .null, .null, .null])), (q7, .inl (cA, 64, .inl (upd (fK kC 41) 41 (-1474664885))))]) := hD
  rw [fK_s (f := kC) (k := 41) (v := (-1474664885)) (by decide)] at hP hD
  have hP : va_P G vwCl ([(h0, .inr (3, [.null, .null, .int 0, .int 0, .null, .null, .null, .null, .null, .int 0, .int 0, .int 0, .int 0, .null, .int 0, .null, .null, .null, .null, .null])), (q7, .inl (cA, 64, .inl (fK kC 42)))]) _ := hP
  have hD : va_D _ ([(h0, .inr (3, [.null, .null, .int 0, .int 0, .null, .null, .null, .null, .null, .int 0, .int 0, .int 0, .int 0, .null, .int 0, .null, .null, .null, .null, .null])), (q7, .inl (cA, 64, .inl (fK kC 42)))]) := hD
  refine lv_dup hx hb dX3_init_255 rfl ?_
  refine lv_bipush (v := 42) hx hb dX3_init_256 (by decide) ?_
  refine lv_ldc (v := (-1035236496)) hx hb hown (hts (.constant RX3 49 (-1035236496)) (by decide +kernel)) dX3_init_258 ?_
  refine x_ast (i := 42) hx hb hK hP hD hS 1 0 rfl rfl (by omega) (by decide) dX3_init_260 (fun H locs hP hD hS => ?_)
  have hP : va_P G vwCl ([(h0, .inr (3, [.null, .null, .int 0, .int 0, .null, .null, .null, .null, .null, .int 0, .int 0, .int 0, .int 0, .null, .int 0, .null, .null, .null, .null, .null])), (q7, .inl (cA, 64, .inl (upd (fK kC 42) 42 (-1035236496))))]) _ := hP
  have hD : va_D _ ([(h0, .inr (3, [.null, .null, .int 0, .int 0, .null, .null, .null, .null, .null, .int 0, .int 0, .int 0, .int 0, .null, .int 0, .null, .null, .null, .null, .null])), (q7, .inl (cA, 64, .inl (upd (fK kC 42) 42 (-1035236496))))]) := hD
  rw [fK_s (f := kC) (k := 42) (v := (-1035236496)) (by decide)] at hP hD
  have hP : va_P G vwCl ([(h0, .inr (3, [.null, .null, .int 0, .int 0, .null, .null, .null, .null, .null, .int 0, .int 0, .int 0, .int 0, .null, .int 0, .null, .null, .null, .null, .null])), (q7, .inl (cA, 64, .inl (fK kC 43)))]) _ := hP
  have hD : va_D _ ([(h0, .inr (3, [.null, .null, .int 0, .int 0, .null, .null, .null, .null, .null, .int 0, .int 0, .int 0, .int 0, .null, .int 0, .null, .null, .null, .null, .null])), (q7, .inl (cA, 64, .inl (fK kC 43)))]) := hD
  refine lv_dup hx hb dX3_init_261 rfl ?_
  refine lv_bipush (v := 43) hx hb dX3_init_262 (by decide) ?_
  refine lv_ldc (v := (-949202525)) hx hb hown (hts (.constant RX3 50 (-949202525)) (by decide +kernel)) dX3_init_264 ?_
  refine x_ast (i := 43) hx hb hK hP hD hS 1 0 rfl rfl (by omega) (by decide) dX3_init_266 (fun H locs hP hD hS => ?_)
  have hP : va_P G vwCl ([(h0, .inr (3, [.null, .null, .int 0, .int 0, .null, .null, .null, .null, .null, .int 0, .int 0, .int 0, .int 0, .null, .int 0, .null, .null, .null, .null, .null])), (q7, .inl (cA, 64, .inl (upd (fK kC 43) 43 (-949202525))))]) _ := hP
  have hD : va_D _ ([(h0, .inr (3, [.null, .null, .int 0, .int 0, .null, .null, .null, .null, .null, .int 0, .int 0, .int 0, .int 0, .null, .int 0, .null, .null, .null, .null, .null])), (q7, .inl (cA, 64, .inl (upd (fK kC 43) 43 (-949202525))))]) := hD
  rw [fK_s (f := kC) (k := 43) (v := (-949202525)) (by decide)] at hP hD
  have hP : va_P G vwCl ([(h0, .inr (3, [.null, .null, .int 0, .int 0, .null, .null, .null, .null, .null, .int 0, .int 0, .int 0, .int 0, .null, .int 0, .null, .null, .null, .null, .null])), (q7, .inl (cA, 64, .inl (fK kC 44)))]) _ := hP
  have hD : va_D _ ([(h0, .inr (3, [.null, .null, .int 0, .int 0, .null, .null, .null, .null, .null, .int 0, .int 0, .int 0, .int 0, .null, .int 0, .null, .null, .null, .null, .null])), (q7, .inl (cA, 64, .inl (fK kC 44)))]) := hD
  refine lv_dup hx hb dX3_init_267 rfl ?_
  refine lv_bipush (v := 44) hx hb dX3_init_268 (by decide) ?_
  refine lv_ldc (v := (-778901479)) hx hb hown (hts (.constant RX3 51 (-778901479)) (by decide +kernel)) dX3_init_270 ?_
  refine x_ast (i := 44) hx hb hK hP hD hS 1 0 rfl rfl (by omega) (by decide) dX3_init_272 (fun H locs hP hD hS => ?_)
  have hP : va_P G vwCl ([(h0, .inr (3, [.null, .null, .int 0, .int 0, .null, .null, .null, .null, .null, .int 0, .int 0, .int 0, .int 0, .null, .int 0, .null, .null, .null, .null, .null])), (q7, .inl (cA, 64, .inl (upd (fK kC 44) 44 (-778901479))))]) _ := hP
  have hD : va_D _ ([(h0, .inr (3, [.null, .null, .int 0, .int 0, .null, .null, .null, .null, .null, .int 0, .int 0, .int 0, .int 0, .null, .int 0, .null, .null, .null, .null, .null])), (q7, .inl (cA, 64, .inl (upd (fK kC 44) 44 (-778901479))))]) := hD
  rw [fK_s (f := kC) (k := 44) (v := (-778901479)) (by decide)] at hP hD
  have hP : va_P G vwCl ([(h0, .inr (3, [.null, .null, .int 0, .int 0, .null, .null, .null, .null, .null, .int 0, .int 0, .int 0, .int 0, .null, .int 0, .null, .null, .null, .null, .null])), (q7, .inl (cA, 64, .inl (fK kC 45)))]) _ := hP
  have hD : va_D _ ([(h0, .inr (3, [.null, .null, .int 0, .int 0, .null, .null, .null, .null, .null, .int 0, .int 0, .int 0, .int 0, .null, .int 0, .null, .null, .null, .null, .null])), (q7, .inl (cA, 64, .inl (fK kC 45)))]) := hD
  refine lv_dup hx hb dX3_init_273 rfl ?_
  refine lv_bipush (v := 45) hx hb dX3_init_274 (by decide) ?_
  refine lv_ldc (v := (-694614492)) hx hb hown (hts (.constant RX3 52 (-694614492)) (by decide +kernel)) dX3_init_276 ?_
  refine x_ast (i := 45) hx hb hK hP hD hS 1 0 rfl rfl (by omega) (by decide) dX3_init_278 (fun H locs hP hD hS => ?_)
  have hP : va_P G vwCl ([(h0, .inr (3, [.null, .null, .int 0, .int 0, .null, .null, .null, .null, .null, .int 0, .int 0, .int 0, .int 0, .null, .int 0, .null, .null, .null, .null, .null])), (q7, .inl (cA, 64, .inl (upd (fK kC 45) 45 (-694614492))))]) _ := hP
  have hD : va_D _ ([(h0, .inr (3, [.null, .null, .int 0, .int 0, .null, .null, .null, .null, .null, .int 0, .int 0, .int 0, .int 0, .null, .int 0, .null, .null, .null, .null, .null])), (q7, .inl (cA, 64, .inl (upd (fK kC 45) 45 (-694614492))))]) := hD
  rw [fK_s (f := kC) (k := 45) (v := (-694614492)) (by decide)] at hP hD
  have hP : va_P G vwCl ([(h0, .inr (3, [.null, .null, .int 0, .int 0, .null, .null, .null, .null, .null, .int 0, .int 0, .int 0, .int 0, .null, .int 0, .null, .null, .null, .null, .null])), (q7, .inl (cA, 64, .inl (fK kC 46)))]) _ := hP
  have hD : va_D _ ([(h0, .inr (3, [.null, .null, .int 0, .int 0, .null, .null, .null, .null, .null, .int 0, .int 0, .int 0, .int 0, .null, .int 0, .null, .null, .null, .null, .null])), (q7, .inl (cA, 64, .inl (fK kC 46)))]) := hD
  refine lv_dup hx hb dX3_init_279 rfl ?_
  refine lv_bipush (v := 46) hx hb dX3_init_280 (by decide) ?_
  refine lv_ldc (v := (-200395387)) hx hb hown (hts (.constant RX3 53 (-200395387)) (by decide +kernel)) dX3_init_282 ?_
  refine x_ast (i := 46) hx hb hK hP hD hS 1 0 rfl rfl (by omega) (by decide) dX3_init_284 (fun H locs hP hD hS => ?_)
  have hP : va_P G vwCl ([(h0, .inr (3, [.null, .null, .int 0, .int 0, .null, .null, .null, .null, .null, .int 0, .int 0, .int 0, .int 0, .null, .int 0, .null, .null, .null, .null, .null])), (q7, .inl (cA, 64, .inl (upd (fK kC 46) 46 (-200395387))))]) _ := hP
  have hD : va_D _ ([(h0, .inr (3, [.null, .null, .int 0, .int 0, .null, .null, .null, .null, .null, .int 0, .int 0, .int 0, .int 0, .null, .int 0, .null, .null, .null, .null, .null])), (q7, .inl (cA, 64, .inl (upd (fK kC 46) 46 (-200395387))))]) := hD
  rw [fK_s (f := kC) (k := 46) (v := (-200395387)) (by decide)] at hP hD
  have hP : va_P G vwCl ([(h0, .inr (3, [.null, .null, .int 0, .int 0, .null, .null, .null, .null, .null, .int 0, .int 0, .int 0, .int 0, .null, .int 0, .null, .null, .null, .null, .null])), (q7, .inl (cA, 64, .inl (fK kC 47)))]) _ := hP
  have hD : va_D _ ([(h0, .inr (3, [.null, .null, .int 0, .int 0, .null, .null, .null, .null, .null, .int 0, .int 0, .int 0, .int 0, .null, .int 0, .null, .null, .null, .null, .null])), (q7, .inl (cA, 64, .inl (fK kC 47)))]) := hD
  refine lv_dup hx hb dX3_init_285 rfl ?_
  refine lv_bipush (v := 47) hx hb dX3_init_286 (by decide) ?_
  refine lv_ldc (v := 275423344) hx hb hown (hts (.constant RX3 54 (275423344)) (by decide +kernel)) dX3_init_288 ?_
  refine x_ast (i := 47) hx hb hK hP hD hS 1 0 rfl rfl (by omega) (by decide) dX3_init_290 (fun H locs hP hD hS => ?_)
  have hP : va_P G vwCl ([(h0, .inr (3, [.null, .null, .int 0, .int 0, .null, .null, .null, .null, .null, .int 0, .int 0, .int 0, .int 0, .null, .int 0, .null, .null, .null, .null, .null])), (q7, .inl (cA, 64, .inl (upd (fK kC 47) 47 275423344)))]) _ := hP
  have hD : va_D _ ([(h0, .inr (3, [.null, .null, .int 0, .int 0, .null, .null, .null, .null, .null, .int 0, .int 0, .int 0, .int 0, .null, .int 0, .null, .null, .null, .null, .null])), (q7, .inl (cA, 64, .inl (upd (fK kC 47) 47 275423344)))]) := hD
  rw [fK_s (f := kC) (k := 47) (v := 275423344) (by decide)] at hP hD
  have hP : va_P G vwCl ([(h0, .inr (3, [.null, .null, .int 0, .int 0, .null, .null, .null, .null, .null, .int 0, .int 0, .int 0, .int 0, .null, .int 0, .null, .null, .null, .null, .null])), (q7, .inl (cA, 64, .inl (fK kC 48)))]) _ := hP
  have hD : va_D _ ([(h0, .inr (3, [.null, .null, .int 0, .int 0, .null, .null, .null, .null, .null, .int 0, .int 0, .int 0, .int 0, .null, .int 0, .null, .null, .null, .null, .null])), (q7, .inl (cA, 64, .inl (fK kC 48)))]) := hD
  refine lv_dup hx hb dX3_init_291 rfl ?_
  refine lv_bipush (v := 48) hx hb dX3_init_292 (by decide) ?_
  refine lv_ldc (v := 430227734) hx hb hown (hts (.constant RX3 55 (430227734)) (by decide +kernel)) dX3_init_294 ?_
  refine x_ast (i := 48) hx hb hK hP hD hS 1 0 rfl rfl (by omega) (by decide) dX3_init_296 (fun H locs hP hD hS => ?_)
  have hP : va_P G vwCl ([(h0, .inr (3, [.null, .null, .int 0, .int 0, .null, .null, .null, .null, .null, .int 0, .int 0, .int 0, .int 0, .null, .int 0, .null, .null, .null, .null, .null])), (q7, .inl (cA, 64, .inl (upd (fK kC 48) 48 430227734)))]) _ := hP
  have hD : va_D _ ([(h0, .inr (3, [.null, .null, .int 0, .int 0, .null, .null, .null, .null, .null, .int 0, .int 0, .int 0, .int 0, .null, .int 0, .null, .null, .null, .null, .null])), (q7, .inl (cA, 64, .inl (upd (fK kC 48) 48 430227734)))]) := hD
  rw [fK_s (f := kC) (k := 48) (v := 430227734) (by decide)] at hP hD
  have hP : va_P G vwCl ([(h0, .inr (3, [.null, .null, .int 0, .int 0, .null, .null, .null, .null, .null, .int 0, .int 0, .int 0, .int 0, .null, .int 0, .null, .null, .null, .null, .null])), (q7, .inl (cA, 64, .inl (fK kC 49)))]) _ := hP
  have hD : va_D _ ([(h0, .inr (3, [.null, .null, .int 0, .int 0, .null, .null, .null, .null, .null, .int 0, .int 0, .int 0, .int 0, .null, .int 0, .null, .null, .null, .null, .null])), (q7, .inl (cA, 64, .inl (fK kC 49)))]) := hD
  refine lv_dup hx hb dX3_init_297 rfl ?_
  refine lv_bipush (v := 49) hx hb dX3_init_298 (by decide) ?_
  refine lv_ldc (v := 506948616) hx hb hown (hts (.constant RX3 56 (506948616)) (by decide +kernel)) dX3_init_300 ?_
  refine x_ast (i := 49) hx hb hK hP hD hS 1 0 rfl rfl (by omega) (by decide) dX3_init_302 (fun H locs hP hD hS => ?_)
  have hP : va_P G vwCl ([(h0, .inr (3, [.null, .null, .int 0, .int 0, .null, .null, .null, .null, .null, .int 0, .int 0, .int 0, .int 0, .null, .int 0, .null, .null, .null, .null, .null])), (q7, .inl (cA, 64, .inl (upd (fK kC 49) 49 506948616)))]) _ := hP
  have hD : va_D _ ([(h0, .inr (3, [.null, .null, .int 0, .int 0, .null, .null, .null, .null, .null, .int 0, .int 0, .int 0, .int 0, .null, .int 0, .null, .null, .null, .null, .null])), (q7, .inl (cA, 64, .inl (upd (fK kC 49) 49 506948616)))]) := hD
  rw [fK_s (f := kC) (k := 49) (v := 506948616) (by decide)] at hP hD
  have hP : va_P G vwCl ([(h0, .inr (3, [.null, .null, .int 0, .int 0, .null, .null, .null, .null, .null, .int 0, .int 0, .int 0, .int 0, .null, .int 0, .null, .null, .null, .null, .null])), (q7, .inl (cA, 64, .inl (fK kC 50)))]) _ := hP
  have hD : va_D _ ([(h0, .inr (3, [.null, .null, .int 0, .int 0, .null, .null, .null, .null, .null, .int 0, .int 0, .int 0, .int 0, .null, .int 0, .null, .null, .null, .null, .null])), (q7, .inl (cA, 64, .inl (fK kC 50)))]) := hD
  refine lv_dup hx hb dX3_init_303 rfl ?_
  refine lv_bipush (v := 50) hx hb dX3_init_304 (by decide) ?_
  refine lv_ldc (v := 659060556) hx hb hown (hts (.constant RX3 57 (659060556)) (by decide +kernel)) dX3_init_306 ?_
  refine x_ast (i := 50) hx hb hK hP hD hS 1 0 rfl rfl (by omega) (by decide) dX3_init_308 (fun H locs hP hD hS => ?_)
  have hP : va_P G vwCl ([(h0, .inr (3, [.null, .null, .int 0, .int 0, .null, .null, .null, .null, .null, .int 0, .int 0, .int 0, .int 0, .null, .int 0, .null, .null, .null, .null, .null])), (q7, .inl (cA, 64, .inl (upd (fK kC 50) 50 659060556)))]) _ := hP
  have hD : va_D _ ([(h0, .inr (3, [.null, .null, .int 0, .int 0, .null, .null, .null, .null, .null, .int 0, .int 0, .int 0, .int 0, .null, .int 0, .null, .null, .null, .null, .null])), (q7, .inl (cA, 64, .inl (upd (fK kC 50) 50 659060556)))]) := hD
  rw [fK_s (f := kC) (k := 50) (v := 659060556) (by decide)] at hP hD
  have hP : va_P G vwCl ([(h0, .inr (3, [.null, .null, .int 0, .int 0, .null, .null, .null, .null, .null, .int 0, .int 0, .int 0, .int 0, .null, .int 0, .null, .null, .null, .null, .null])), (q7, .inl (cA, 64, .inl (fK kC 51)))]) _ := hP
  have hD : va_D _ ([(h0, .inr (3, [.null, .null, .int 0, .int 0, .null, .null, .null, .null, .null, .int 0, .int 0, .int 0, .int 0, .null, .int 0, .null, .null, .null, .null, .null])), (q7, .inl (cA, 64, .inl (fK kC 51)))]) := hD
  refine lv_dup hx hb dX3_init_309 rfl ?_
  refine lv_bipush (v := 51) hx hb dX3_init_310 (by decide) ?_
  refine lv_ldc (v := 883997877) hx hb hown (hts (.constant RX3 58 (883997877)) (by decide +kernel)) dX3_init_312 ?_
  refine x_ast (i := 51) hx hb hK hP hD hS 1 0 rfl rfl (by omega) (by decide) dX3_init_314 (fun H locs hP hD hS => ?_)
  have hP : va_P G vwCl ([(h0, .inr (3, [.null, .null, .int 0, .int 0, .null, .null, .null, .null, .null, .int 0, .int 0, .int 0, .int 0, .null, .int 0, .null, .null, .null, .null, .null])), (q7, .inl (cA, 64, .inl (upd (fK kC 51) 51 883997877)))]) _ := hP
  have hD : va_D _ ([(h0, .inr (3, [.null, .null, .int 0, .int 0, .null, .null, .null, .null, .null, .int 0, .int 0, .int 0, .int 0, .null, .int 0, .null, .null, .null, .null, .null])), (q7, .inl (cA, 64, .inl (upd (fK kC 51) 51 883997877)))]) := hD
  rw [fK_s (f := kC) (k := 51) (v := 883997877) (by decide)] at hP hD
  have hP : va_P G vwCl ([(h0, .inr (3, [.null, .null, .int 0, .int 0, .null, .null, .null, .null, .null, .int 0, .int 0, .int 0, .int 0, .null, .int 0, .null, .null, .null, .null, .null])), (q7, .inl (cA, 64, .inl (fK kC 52)))]) _ := hP
  have hD : va_D _ ([(h0, .inr (3, [.null, .null, .int 0, .int 0, .null, .null, .null, .null, .null, .int 0, .int 0, .int 0, .int 0, .null, .int 0, .null, .null, .null, .null, .null])), (q7, .inl (cA, 64, .inl (fK kC 52)))]) := hD
  refine lv_dup hx hb dX3_init_315 rfl ?_
  refine lv_bipush (v := 52) hx hb dX3_init_316 (by decide) ?_
  refine lv_ldc (v := 958139571) hx hb hown (hts (.constant RX3 59 (958139571)) (by decide +kernel)) dX3_init_318 ?_
  refine x_ast (i := 52) hx hb hK hP hD hS 1 0 rfl rfl (by omega) (by decide) dX3_init_320 (fun H locs hP hD hS => ?_)
  have hP : va_P G vwCl ([(h0, .inr (3, [.null, .null, .int 0, .int 0, .null, .null, .null, .null, .null, .int 0, .int 0, .int 0, .int 0, .null, .int 0, .null, .null, .null, .null, .null])), (q7, .inl (cA, 64, .inl (upd (fK kC 52) 52 958139571)))]) _ := hP
  have hD : va_D _ ([(h0, .inr (3, [.null, .null, .int 0, .int 0, .null, .null, .null, .null, .null, .int 0, .int 0, .int 0, .int 0, .null, .int 0, .null, .null, .null, .null, .null])), (q7, .inl (cA, 64, .inl (upd (fK kC 52) 52 958139571)))]) := hD
  rw [fK_s (f := kC) (k := 52) (v := 958139571) (by decide)] at hP hD
  have hP : va_P G vwCl ([(h0, .inr (3, [.null, .null, .int 0, .int 0, .null, .null, .null, .null, .null, .int 0, .int 0, .int 0, .int 0, .null, .int 0, .null, .null, .null, .null, .null])), (q7, .inl (cA, 64, .inl (fK kC 53)))]) _ := hP
  have hD : va_D _ ([(h0, .inr (3, [.null, .null, .int 0, .int 0, .null, .null, .null, .null, .null, .int 0, .int 0, .int 0, .int 0, .null, .int 0, .null, .null, .null, .null, .null])), (q7, .inl (cA, 64, .inl (fK kC 53)))]) := hD
  refine lv_dup hx hb dX3_init_321 rfl ?_
  refine lv_bipush (v := 53) hx hb dX3_init_322 (by decide) ?_
  refine lv_ldc (v := 1322822218) hx hb hown (hts (.constant RX3 60 (1322822218)) (by decide +kernel)) dX3_init_324 ?_
  refine x_ast (i := 53) hx hb hK hP hD hS 1 0 rfl rfl (by omega) (by decide) dX3_init_326 (fun H locs hP hD hS => ?_)
  have hP : va_P G vwCl ([(h0, .inr (3, [.null, .null, .int 0, .int 0, .null, .null, .null, .null, .null, .int 0, .int 0, .int 0, .int 0, .null, .int 0, .null, .null, .null, .null, .null])), (q7, .inl (cA, 64, .inl (upd (fK kC 53) 53 1322822218)))]) _ := hP
  have hD : va_D _ ([(h0, .inr (3, [.null, .null, .int 0, .int 0, .null, .null, .null, .null, .null, .int 0, .int 0, .int 0, .int 0, .null, .int 0, .null, .null, .null, .null, .null])), (q7, .inl (cA, 64, .inl (upd (fK kC 53) 53 1322822218)))]) := hD
  rw [fK_s (f := kC) (k := 53) (v := 1322822218) (by decide)] at hP hD
  have hP : va_P G vwCl ([(h0, .inr (3, [.null, .null, .int 0, .int 0, .null, .null, .null, .null, .null, .int 0, .int 0, .int 0, .int 0, .null, .int 0, .null, .null, .null, .null, .null])), (q7, .inl (cA, 64, .inl (fK kC 54)))]) _ := hP
  have hD : va_D _ ([(h0, .inr (3, [.null, .null, .int 0, .int 0, .null, .null, .null, .null, .null, .int 0, .int 0, .int 0, .int 0, .null, .int 0, .null, .null, .null, .null, .null])), (q7, .inl (cA, 64, .inl (fK kC 54)))]) := hD
  refine lv_dup hx hb dX3_init_327 rfl ?_
  refine lv_bipush (v := 54) hx hb dX3_init_328 (by decide) ?_
  refine lv_ldc (v := 1537002063) hx hb hown (hts (.constant RX3 61 (1537002063)) (by decide +kernel)) dX3_init_330 ?_
  refine x_ast (i := 54) hx hb hK hP hD hS 1 0 rfl rfl (by omega) (by decide) dX3_init_332 (fun H locs hP hD hS => ?_)
  have hP : va_P G vwCl ([(h0, .inr (3, [.null, .null, .int 0, .int 0, .null, .null, .null, .null, .null, .int 0, .int 0, .int 0, .int 0, .null, .int 0, .null, .null, .null, .null, .null])), (q7, .inl (cA, 64, .inl (upd (fK kC 54) 54 1537002063)))]) _ := hP
  have hD : va_D _ ([(h0, .inr (3, [.null, .null, .int 0, .int 0, .null, .null, .null, .null, .null, .int 0, .int 0, .int 0, .int 0, .null, .int 0, .null, .null, .null, .null, .null])), (q7, .inl (cA, 64, .inl (upd (fK kC 54) 54 1537002063)))]) := hD
  rw [fK_s (f := kC) (k := 54) (v := 1537002063) (by decide)] at hP hD
  have hP : va_P G vwCl ([(h0, .inr (3, [.null, .null, .int 0, .int 0, .null, .null, .null, .null, .null, .int 0, .int 0, .int 0, .int 0, .null, .int 0, .null, .null, .null, .null, .null])), (q7, .inl (cA, 64, .inl (fK kC 55)))]) _ := hP
  have hD : va_D _ ([(h0, .inr (3, [.null, .null, .int 0, .int 0, .null, .null, .null, .null, .null, .int 0, .int 0, .int 0, .int 0, .null, .int 0, .null, .null, .null, .null, .null])), (q7, .inl (cA, 64, .inl (fK kC 55)))]) := hD
  refine lv_dup hx hb dX3_init_333 rfl ?_
  refine lv_bipush (v := 55) hx hb dX3_init_334 (by decide) ?_
  refine lv_ldc (v := 1747873779) hx hb hown (hts (.constant RX3 62 (1747873779)) (by decide +kernel)) dX3_init_336 ?_
  refine x_ast (i := 55) hx hb hK hP hD hS 1 0 rfl rfl (by omega) (by decide) dX3_init_338 (fun H locs hP hD hS => ?_)
  have hP : va_P G vwCl ([(h0, .inr (3, [.null, .null, .int 0, .int 0, .null, .null, .null, .null, .null, .int 0, .int 0, .int 0, .int 0, .null, .int 0, .null, .null, .null, .null, .null])), (q7, .inl (cA, 64, .inl (upd (fK kC 55) 55 1747873779)))]) _ := hP
  have hD : va_D _ ([(h0, .inr (3, [.null, .null, .int 0, .int 0, .null, .null, .null, .null, .null, .int 0, .int 0, .int 0, .int 0, .null, .int 0, .null, .null, .null, .null, .null])), (q7, .inl (cA, 64, .inl (upd (fK kC 55) 55 1747873779)))]) := hD
  rw [fK_s (f := kC) (k := 55) (v := 1747873779) (by decide)] at hP hD
  have hP : va_P G vwCl ([(h0, .inr (3, [.null, .null, .int 0, .int 0, .null, .null, .null, .null, .null, .int 0, .int 0, .int 0, .int 0, .null, .int 0, .null, .null, .null, .null, .null])), (q7, .inl (cA, 64, .inl (fK kC 56)))]) _ := hP
  have hD : va_D _ ([(h0, .inr (3, [.null, .null, .int 0, .int 0, .null, .null, .null, .null, .null, .int 0, .int 0, .int 0, .int 0, .null, .int 0, .null, .null, .null, .null, .null])), (q7, .inl (cA, 64, .inl (fK kC 56)))]) := hD
  refine lv_dup hx hb dX3_init_339 rfl ?_
  refine lv_bipush (v := 56) hx hb dX3_init_340 (by decide) ?_
  refine lv_ldc (v := 1955562222) hx hb hown (hts (.constant RX3 63 (1955562222)) (by decide +kernel)) dX3_init_342 ?_
  refine x_ast (i := 56) hx hb hK hP hD hS 1 0 rfl rfl (by omega) (by decide) dX3_init_344 (fun H locs hP hD hS => ?_)
  have hP : va_P G vwCl ([(h0, .inr (3, [.null, .null, .int 0, .int 0, .null, .null, .null, .null, .null, .int 0, .int 0, .int 0, .int 0, .null, .int 0, .null, .null, .null, .null, .null])), (q7, .inl (cA, 64, .inl (upd (fK kC 56) 56 1955562222)))]) _ := hP
  have hD : va_D _ ([(h0, .inr (3, [.null, .null, .int 0, .int 0, .null, .null, .null, .null, .null, .int 0, .int 0, .int 0, .int 0, .null, .int 0, .null, .null, .null, .null, .null])), (q7, .inl (cA, 64, .inl (upd (fK kC 56) 56 1955562222)))]) := hD
  rw [fK_s (f := kC) (k := 56) (v := 1955562222) (by decide)] at hP hD
  have hP : va_P G vwCl ([(h0, .inr (3, [.null, .null, .int 0, .int 0, .null, .null, .null, .null, .null, .int 0, .int 0, .int 0, .int 0, .null, .int 0, .null, .null, .null, .null, .null])), (q7, .inl (cA, 64, .inl (fK kC 57)))]) _ := hP
  have hD : va_D _ ([(h0, .inr (3, [.null, .null, .int 0, .int 0, .null, .null, .null, .null, .null, .int 0, .int 0, .int 0, .int 0, .null, .int 0, .null, .null, .null, .null, .null])), (q7, .inl (cA, 64, .inl (fK kC 57)))]) := hD
  refine lv_dup hx hb dX3_init_345 rfl ?_
  refine lv_bipush (v := 57) hx hb dX3_init_346 (by decide) ?_
  refine lv_ldc (v := 2024104815) hx hb hown (hts (.constant RX3 64 (2024104815)) (by decide +kernel)) dX3_init_348 ?_
  refine x_ast (i := 57) hx hb hK hP hD hS 1 0 rfl rfl (by omega) (by decide) dX3_init_350 (fun H locs hP hD hS => ?_)
  have hP : va_P G vwCl ([(h0, .inr (3, [.null, .null, .int 0, .int 0, .null, .null, .null, .null, .null, .int 0, .int 0, .int 0, .int 0, .null, .int 0, .null, .null, .null, .null, .null])), (q7, .inl (cA, 64, .inl (upd (fK kC 57) 57 2024104815)))]) _ := hP
  have hD : va_D _ ([(h0, .inr (3, [.null, .null, .int 0, .int 0, .null, .null, .null, .null, .null, .int 0, .int 0, .int 0, .int 0, .null, .int 0, .null, .null, .null, .null, .null])), (q7, .inl (cA, 64, .inl (upd (fK kC 57) 57 2024104815)))]) := hD
  rw [fK_s (f := kC) (k := 57) (v := 2024104815) (by decide)] at hP hD
  have hP : va_P G vwCl ([(h0, .inr (3, [.null, .null, .int 0, .int 0, .null, .null, .null, .null, .null, .int 0, .int 0, .int 0, .int 0, .null, .int 0, .null, .null, .null, .null, .null])), (q7, .inl (cA, 64, .inl (fK kC 58)))]) _ := hP
  have hD : va_D _ ([(h0, .inr (3, [.null, .null, .int 0, .int 0, .null, .null, .null, .null, .null, .int 0, .int 0, .int 0, .int 0, .null, .int 0, .null, .null, .null, .null, .null])), (q7, .inl (cA, 64, .inl (fK kC 58)))]) := hD
  refine lv_dup hx hb dX3_init_351 rfl ?_
  refine lv_bipush (v := 58) hx hb dX3_init_352 (by decide) ?_
  refine lv_ldc (v := (-2067236844)) hx hb hown (hts (.constant RX3 65 (-2067236844)) (by decide +kernel)) dX3_init_354 ?_
  refine x_ast (i := 58) hx hb hK hP hD hS 1 0 rfl rfl (by omega) (by decide) dX3_init_356 (fun H locs hP hD hS => ?_)
  have hP : va_P G vwCl ([(h0, .inr (3, [.null, .null, .int 0, .int 0, .null, .null, .null, .null, .null, .int 0, .int 0, .int 0, .int 0, .null, .int 0, .null, .null, .null, .null, .null])), (q7, .inl (cA, 64, .inl (upd (fK kC 58) 58 (-2067236844))))]) _ := hP
  have hD : va_D _ ([(h0, .inr (3, [.null, .null, .int 0, .int 0, .null, .null, .null, .null, .null, .int 0, .int 0, .int 0, .int 0, .null, .int 0, .null, .null, .null, .null, .null])), (q7, .inl (cA, 64, .inl (upd (fK kC 58) 58 (-2067236844))))]) := hD
  rw [fK_s (f := kC) (k := 58) (v := (-2067236844)) (by decide)] at hP hD
  have hP : va_P G vwCl ([(h0, .inr (3, [.null, .null, .int 0, .int 0, .null, .null, .null, .null, .null, .int 0, .int 0, .int 0, .int 0, .null, .int 0, .null, .null, .null, .null, .null])), (q7, .inl (cA, 64, .inl (fK kC 59)))]) _ := hP
  have hD : va_D _ ([(h0, .inr (3, [.null, .null, .int 0, .int 0, .null, .null, .null, .null, .null, .int 0, .int 0, .int 0, .int 0, .null, .int 0, .null, .null, .null, .null, .null])), (q7, .inl (cA, 64, .inl (fK kC 59)))]) := hD
  refine lv_dup hx hb dX3_init_357 rfl ?_
  refine lv_bipush (v := 59) hx hb dX3_init_358 (by decide) ?_
  refine lv_ldc (v := (-1933114872)) hx hb hown (hts (.constant RX3 66 (-1933114872)) (by decide +kernel)) dX3_init_360 ?_
  refine x_ast (i := 59) hx hb hK hP hD hS 1 0 rfl rfl (by omega) (by decide) dX3_init_362 (fun H locs hP hD hS => ?_)
  have hP : va_P G vwCl ([(h0, .inr (3, [.null, .null, .int 0, .int 0, .null, .null, .null, .null, .null, .int 0, .int 0, .int 0, .int 0, .null, .int 0, .null, .null, .null, .null, .null])), (q7, .inl (cA, 64, .inl (upd (fK kC 59) 59 (-1933114872))))]) _ := hP
  have hD : va_D _ ([(h0, .inr (3, [.null, .null, .int 0, .int 0, .null, .null, .null, .null, .null, .int 0, .int 0, .int 0, .int 0, .null, .int 0, .null, .null, .null, .null, .null])), (q7, .inl (cA, 64, .inl (upd (fK kC 59) 59 (-1933114872))))]) := hD
  rw [fK_s (f := kC) (k := 59) (v := (-1933114872)) (by decide)] at hP hD
  have hP : va_P G vwCl ([(h0, .inr (3, [.null, .null, .int 0, .int 0, .null, .null, .null, .null, .null, .int 0, .int 0, .int 0, .int 0, .null, .int 0, .null, .null, .null, .null, .null])), (q7, .inl (cA, 64, .inl (fK kC 60)))]) _ := hP
  have hD : va_D _ ([(h0, .inr (3, [.null, .null, .int 0, .int 0, .null, .null, .null, .null, .null, .int 0, .int 0, .int 0, .int 0, .null, .int 0, .null, .null, .null, .null, .null])), (q7, .inl (cA, 64, .inl (fK kC 60)))]) := hD
  refine lv_dup hx hb dX3_init_363 rfl ?_
  refine lv_bipush (v := 60) hx hb dX3_init_364 (by decide) ?_
  refine lv_ldc (v := (-1866530822)) hx hb hown (hts (.constant RX3 67 (-1866530822)) (by decide +kernel)) dX3_init_366 ?_
  refine x_ast (i := 60) hx hb hK hP hD hS 1 0 rfl rfl (by omega) (by decide) dX3_init_368 (fun H locs hP hD hS => ?_)
  have hP : va_P G vwCl ([(h0, .inr (3, [.null, .null, .int 0, .int 0, .null, .null, .null, .null, .null, .int 0, .int 0, .int 0, .int 0, .null, .int 0, .null, .null, .null, .null, .null])), (q7, .inl (cA, 64, .inl (upd (fK kC 60) 60 (-1866530822))))]) _ := hP
  have hD : va_D _ ([(h0, .inr (3, [.null, .null, .int 0, .int 0, .null, .null, .null, .null, .null, .int 0, .int 0, .int 0, .int 0, .null, .int 0, .null, .null, .null, .null, .null])), (q7, .inl (cA, 64, .inl (upd (fK kC 60) 60 (-1866530822))))]) := hD
  rw [fK_s (f := kC) (k := 60) (v := (-1866530822)) (by decide)] at hP hD
  have hP : va_P G vwCl ([(h0, .inr (3, [.null, .null, .int 0, .int 0, .null, .null, .null, .null, .null, .int 0, .int 0, .int 0, .int 0, .null, .int 0, .null, .null, .null, .null, .null])), (q7, .inl (cA, 64, .inl (fK kC 61)))]) _ := hP
  have hD : va_D _ ([(h0, .inr (3, [.null, .null, .int 0, .int 0, .null, .null, .null, .null, .null, .int 0, .int 0, .int 0, .int 0, .null, .int 0, .null, .null, .null, .null, .null])), (q7, .inl (cA, 64, .inl (fK kC 61)))]) := hD
  refine lv_dup hx hb dX3_init_369 rfl ?_
  refine lv_bipush (v := 61) hx hb dX3_init_370 (by decide) ?_
  refine lv_ldc (v := (-1538233109)) hx hb hown (hts (.constant RX3 68 (-1538233109)) (by decide +kernel)) dX3_init_372 ?_
  refine x_ast (i := 61) hx hb hK hP hD hS 1 0 rfl rfl (by omega) (by decide) dX3_init_374 (fun H locs hP hD hS => ?_)
  have hP : va_P G vwCl ([(h0, .inr (3, [.null, .null, .int 0, .int 0, .null, .null, .null, .null, .null, .int 0, .int 0, .int 0, .int 0, .null, .int 0, .null, .null, .null, .null, .null])), (q7, .inl (cA, 64, .inl (upd (fK kC 61) 61 (-1538233109))))]) _ := hP
  have hD : va_D _ ([(h0, .inr (3, [.null, .null, .int 0, .int 0, .null, .null, .null, .null, .null, .int 0, .int 0, .int 0, .int 0, .null, .int 0, .null, .null, .null, .null, .null])), (q7, .inl (cA, 64, .inl (upd (fK kC 61) 61 (-1538233109))))]) := hD
  rw [fK_s (f := kC) (k := 61) (v := (-1538233109)) (by decide)] at hP hD
  have hP : va_P G vwCl ([(h0, .inr (3, [.null, .null, .int 0, .int 0, .null, .null, .null, .null, .null, .int 0, .int 0, .int 0, .int 0, .null, .int 0, .null, .null, .null, .null, .null])), (q7, .inl (cA, 64, .inl (fK kC 62)))]) _ := hP
  have hD : va_D _ ([(h0, .inr (3, [.null, .null, .int 0, .int 0, .null, .null, .null, .null, .null, .int 0, .int 0, .int 0, .int 0, .null, .int 0, .null, .null, .null, .null, .null])), (q7, .inl (cA, 64, .inl (fK kC 62)))]) := hD
  refine lv_dup hx hb dX3_init_375 rfl ?_
  refine lv_bipush (v := 62) hx hb dX3_init_376 (by decide) ?_
  refine lv_ldc (v := (-1090935817)) hx hb hown (hts (.constant RX3 69 (-1090935817)) (by decide +kernel)) dX3_init_378 ?_
  refine x_ast (i := 62) hx hb hK hP hD hS 1 0 rfl rfl (by omega) (by decide) dX3_init_380 (fun H locs hP hD hS => ?_)
  have hP : va_P G vwCl ([(h0, .inr (3, [.null, .null, .int 0, .int 0, .null, .null, .null, .null, .null, .int 0, .int 0, .int 0, .int 0, .null, .int 0, .null, .null, .null, .null, .null])), (q7, .inl (cA, 64, .inl (upd (fK kC 62) 62 (-1090935817))))]) _ := hP
  have hD : va_D _ ([(h0, .inr (3, [.null, .null, .int 0, .int 0, .null, .null, .null, .null, .null, .int 0, .int 0, .int 0, .int 0, .null, .int 0, .null, .null, .null, .null, .null])), (q7, .inl (cA, 64, .inl (upd (fK kC 62) 62 (-1090935817))))]) := hD
  rw [fK_s (f := kC) (k := 62) (v := (-1090935817)) (by decide)] at hP hD
  have hP : va_P G vwCl ([(h0, .inr (3, [.null, .null, .int 0, .int 0, .null, .null, .null, .null, .null, .int 0, .int 0, .int 0, .int 0, .null, .int 0, .null, .null, .null, .null, .null])), (q7, .inl (cA, 64, .inl (fK kC 63)))]) _ := hP
  have hD : va_D _ ([(h0, .inr (3, [.null, .null, .int 0, .int 0, .null, .null, .null, .null, .null, .int 0, .int 0, .int 0, .int 0, .null, .int 0, .null, .null, .null, .null, .null])), (q7, .inl (cA, 64, .inl (fK kC 63)))]) := hD
  refine lv_dup hx hb dX3_init_381 rfl ?_
  refine lv_bipush (v := 63) hx hb dX3_init_382 (by decide) ?_
  refine lv_ldc (v := (-965641998)) hx hb hown (hts (.constant RX3 70 (-965641998)) (by decide +kernel)) dX3_init_384 ?_
  refine x_ast (i := 63) hx hb hK hP hD hS 1 0 rfl rfl (by omega) (by decide) dX3_init_386 (fun H locs hP hD hS => ?_)
  have hP : va_P G vwCl ([(h0, .inr (3, [.null, .null, .int 0, .int 0, .null, .null, .null, .null, .null, .int 0, .int 0, .int 0, .int 0, .null, .int 0, .null, .null, .null, .null, .null])), (q7, .inl (cA, 64, .inl (upd (fK kC 63) 63 (-965641998))))]) _ := hP
  have hD : va_D _ ([(h0, .inr (3, [.null, .null, .int 0, .int 0, .null, .null, .null, .null, .null, .int 0, .int 0, .int 0, .int 0, .null, .int 0, .null, .null, .null, .null, .null])), (q7, .inl (cA, 64, .inl (upd (fK kC 63) 63 (-965641998))))]) := hD
  rw [fK_s (f := kC) (k := 63) (v := (-965641998)) (by decide)] at hP hD
  rw [fK_k] at hP hD
  have hP : va_P G vwCl ([(h0, .inr (3, [.null, .null, .int 0, .int 0, .null, .null, .null, .null, .null, .int 0, .int 0, .int 0, .int 0, .null, .int 0, .null, .null, .null, .null, .null])), (q7, .inl (cA, 64, .inl kC))]) _ := hP
  have hD : va_D _ ([(h0, .inr (3, [.null, .null, .int 0, .int 0, .null, .null, .null, .null, .null, .int 0, .int 0, .int 0, .int 0, .null, .int 0, .null, .null, .null, .null, .null])), (q7, .inl (cA, 64, .inl kC))]) := hD
  refine va_putF (D := G) (ci := 3) (v := .ref q7) (ty := .array .int) (C := RX3) (T := TX3) (N := 20) hx hb hts hinX3 tyX3 tyX3_ok nmX3 hown hK hP hD hS 0 rfl rfl 0 (by decide) (hts (.fieldLink RX3 71 "SealedPagesModel" "k0" "[I") (by decide +kernel)) (fun _ h => h) rfl hin rfl (by decide +kernel) rfl rfl (Nat.le_of_ble_eq_true rfl) dX3_init_387 (fun H locs hP hD hS => ?_)
  have hP : va_P G vwCl ([(h0, .inr (3, [.ref q7, .null, .int 0, .int 0, .null, .null, .null, .null, .null, .int 0, .int 0, .int 0, .int 0, .null, .int 0, .null, .null, .null, .null, .null])), (q7, .inl (cA, 64, .inl kC))]) _ := hP
  have hD : va_D _ ([(h0, .inr (3, [.ref q7, .null, .int 0, .int 0, .null, .null, .null, .null, .null, .int 0, .int 0, .int 0, .int 0, .null, .int 0, .null, .null, .null, .null, .null])), (q7, .inl (cA, 64, .inl kC))]) := hD
  refine lv_aload_n hx hb dX3_init_390 rfl (lv_at hl 0 rfl) ?_
  refine lv_bipush (v := 8) hx hb dX3_init_391 (by decide) ?_
  refine k_newa (N' := 8) hx hb (hts (.arrayClass .int) (by decide +kernel)) hK hP hD hS hA (by omega) (Nat.le_of_ble_eq_true rfl) (by show 64 + 8 ≤ 25168; omega) dX3_init_393 (fun q393 H hP hD hS => ?_)
  have hP : va_P G vwCl ([(h0, .inr (3, [.ref q7, .null, .int 0, .int 0, .null, .null, .null, .null, .null, .int 0, .int 0, .int 0, .int 0, .null, .int 0, .null, .null, .null, .null, .null])), (q7, .inl (cA, 64, .inl kC)), (q393, .inl (cA, 8, .inl (fun _ => 0)))]) _ := hP
  have hD : va_D _ ([(h0, .inr (3, [.ref q7, .null, .int 0, .int 0, .null, .null, .null, .null, .null, .int 0, .int 0, .int 0, .int 0, .null, .int 0, .null, .null, .null, .null, .null])), (q7, .inl (cA, 64, .inl kC)), (q393, .inl (cA, 8, .inl (fun _ => 0)))]) := hD
  refine W.widen (k := 2) (n := 72) (by omega) (by omega) ?_
  refine lv_dup hx hb dX3_init_395 rfl ?_
  refine lv_iconst (v := 0) hx hb dX3_init_396 (by decide) ?_
  refine lv_ldc (v := 1779033703) hx hb hown (hts (.constant RX3 77 (1779033703)) (by decide +kernel)) dX3_init_397 ?_
  refine x_ast (i := 0) hx hb hK hP hD hS 2 0 rfl rfl (by omega) (by decide) dX3_init_399 (fun H locs hP hD hS => ?_)
  have hP : va_P G vwCl ([(h0, .inr (3, [.ref q7, .null, .int 0, .int 0, .null, .null, .null, .null, .null, .int 0, .int 0, .int 0, .int 0, .null, .int 0, .null, .null, .null, .null, .null])), (q7, .inl (cA, 64, .inl kC)), (q393, .inl (cA, 8, .inl (upd (fun _ => 0) 0 1779033703)))]) _ := hP
  have hD : va_D _ ([(h0, .inr (3, [.ref q7, .null, .int 0, .int 0, .null, .null, .null, .null, .null, .int 0, .int 0, .int 0, .int 0, .null, .int 0, .null, .null, .null, .null, .null])), (q7, .inl (cA, 64, .inl kC)), (q393, .inl (cA, 8, .inl (upd (fun _ => 0) 0 1779033703)))]) := hD
  rw [fK_f (f := hC) (v := 1779033703) (by decide)] at hP hD
  have hP : va_P G vwCl ([(h0, .inr (3, [.ref q7, .null, .int 0, .int 0, .null, .null, .null, .null, .null, .int 0, .int 0, .int 0, .int 0, .null, .int 0, .null, .null, .null, .null, .null])), (q7, .inl (cA, 64, .inl kC)), (q393, .inl (cA, 8, .inl (fK hC 1)))]) _ := hP
  have hD : va_D _ ([(h0, .inr (3, [.ref q7, .null, .int 0, .int 0, .null, .null, .null, .null, .null, .int 0, .int 0, .int 0, .int 0, .null, .int 0, .null, .null, .null, .null, .null])), (q7, .inl (cA, 64, .inl kC)), (q393, .inl (cA, 8, .inl (fK hC 1)))]) := hD
  refine lv_dup hx hb dX3_init_400 rfl ?_
  refine lv_iconst (v := 1) hx hb dX3_init_401 (by decide) ?_
  refine lv_ldc (v := (-1150833019)) hx hb hown (hts (.constant RX3 78 (-1150833019)) (by decide +kernel)) dX3_init_402 ?_
  refine x_ast (i := 1) hx hb hK hP hD hS 2 0 rfl rfl (by omega) (by decide) dX3_init_404 (fun H locs hP hD hS => ?_)
  have hP : va_P G vwCl ([(h0, .inr (3, [.ref q7, .null, .int 0, .int 0, .null, .null, .null, .null, .null, .int 0, .int 0, .int 0, .int 0, .null, .int 0, .null, .null, .null, .null, .null])), (q7, .inl (cA, 64, .inl kC)), (q393, .inl (cA, 8, .inl (upd (fK hC 1) 1 (-1150833019))))]) _ := hP
  have hD : va_D _ ([(h0, .inr (3, [.ref q7, .null, .int 0, .int 0, .null, .null, .null, .null, .null, .int 0, .int 0, .int 0, .int 0, .null, .int 0, .null, .null, .null, .null, .null])), (q7, .inl (cA, 64, .inl kC)), (q393, .inl (cA, 8, .inl (upd (fK hC 1) 1 (-1150833019))))]) := hD
  rw [fK_s (f := hC) (k := 1) (v := (-1150833019)) (by decide)] at hP hD
  have hP : va_P G vwCl ([(h0, .inr (3, [.ref q7, .null, .int 0, .int 0, .null, .null, .null, .null, .null, .int 0, .int 0, .int 0, .int 0, .null, .int 0, .null, .null, .null, .null, .null])), (q7, .inl (cA, 64, .inl kC)), (q393, .inl (cA, 8, .inl (fK hC 2)))]) _ := hP
  have hD : va_D _ ([(h0, .inr (3, [.ref q7, .null, .int 0, .int 0, .null, .null, .null, .null, .null, .int 0, .int 0, .int 0, .int 0, .null, .int 0, .null, .null, .null, .null, .null])), (q7, .inl (cA, 64, .inl kC)), (q393, .inl (cA, 8, .inl (fK hC 2)))]) := hD
  refine lv_dup hx hb dX3_init_405 rfl ?_
  refine lv_iconst (v := 2) hx hb dX3_init_406 (by decide) ?_
  refine lv_ldc (v := 1013904242) hx hb hown (hts (.constant RX3 79 (1013904242)) (by decide +kernel)) dX3_init_407 ?_
  refine x_ast (i := 2) hx hb hK hP hD hS 2 0 rfl rfl (by omega) (by decide) dX3_init_409 (fun H locs hP hD hS => ?_)
  have hP : va_P G vwCl ([(h0, .inr (3, [.ref q7, .null, .int 0, .int 0, .null, .null, .null, .null, .null, .int 0, .int 0, .int 0, .int 0, .null, .int 0, .null, .null, .null, .null, .null])), (q7, .inl (cA, 64, .inl kC)), (q393, .inl (cA, 8, .inl (upd (fK hC 2) 2 1013904242)))]) _ := hP
  have hD : va_D _ ([(h0, .inr (3, [.ref q7, .null, .int 0, .int 0, .null, .null, .null, .null, .null, .int 0, .int 0, .int 0, .int 0, .null, .int 0, .null, .null, .null, .null, .null])), (q7, .inl (cA, 64, .inl kC)), (q393, .inl (cA, 8, .inl (upd (fK hC 2) 2 1013904242)))]) := hD
  rw [fK_s (f := hC) (k := 2) (v := 1013904242) (by decide)] at hP hD
  have hP : va_P G vwCl ([(h0, .inr (3, [.ref q7, .null, .int 0, .int 0, .null, .null, .null, .null, .null, .int 0, .int 0, .int 0, .int 0, .null, .int 0, .null, .null, .null, .null, .null])), (q7, .inl (cA, 64, .inl kC)), (q393, .inl (cA, 8, .inl (fK hC 3)))]) _ := hP
  have hD : va_D _ ([(h0, .inr (3, [.ref q7, .null, .int 0, .int 0, .null, .null, .null, .null, .null, .int 0, .int 0, .int 0, .int 0, .null, .int 0, .null, .null, .null, .null, .null])), (q7, .inl (cA, 64, .inl kC)), (q393, .inl (cA, 8, .inl (fK hC 3)))]) := hD
  refine lv_dup hx hb dX3_init_410 rfl ?_
  refine lv_iconst (v := 3) hx hb dX3_init_411 (by decide) ?_
  refine lv_ldc (v := (-1521486534)) hx hb hown (hts (.constant RX3 80 (-1521486534)) (by decide +kernel)) dX3_init_412 ?_
  refine x_ast (i := 3) hx hb hK hP hD hS 2 0 rfl rfl (by omega) (by decide) dX3_init_414 (fun H locs hP hD hS => ?_)
  have hP : va_P G vwCl ([(h0, .inr (3, [.ref q7, .null, .int 0, .int 0, .null, .null, .null, .null, .null, .int 0, .int 0, .int 0, .int 0, .null, .int 0, .null, .null, .null, .null, .null])), (q7, .inl (cA, 64, .inl kC)), (q393, .inl (cA, 8, .inl (upd (fK hC 3) 3 (-1521486534))))]) _ := hP
  have hD : va_D _ ([(h0, .inr (3, [.ref q7, .null, .int 0, .int 0, .null, .null, .null, .null, .null, .int 0, .int 0, .int 0, .int 0, .null, .int 0, .null, .null, .null, .null, .null])), (q7, .inl (cA, 64, .inl kC)), (q393, .inl (cA, 8, .inl (upd (fK hC 3) 3 (-1521486534))))]) := hD
  rw [fK_s (f := hC) (k := 3) (v := (-1521486534)) (by decide)] at hP hD
  have hP : va_P G vwCl ([(h0, .inr (3, [.ref q7, .null, .int 0, .int 0, .null, .null, .null, .null, .null, .int 0, .int 0, .int 0, .int 0, .null, .int 0, .null, .null, .null, .null, .null])), (q7, .inl (cA, 64, .inl kC)), (q393, .inl (cA, 8, .inl (fK hC 4)))]) _ := hP
  have hD : va_D _ ([(h0, .inr (3, [.ref q7, .null, .int 0, .int 0, .null, .null, .null, .null, .null, .int 0, .int 0, .int 0, .int 0, .null, .int 0, .null, .null, .null, .null, .null])), (q7, .inl (cA, 64, .inl kC)), (q393, .inl (cA, 8, .inl (fK hC 4)))]) := hD
  refine lv_dup hx hb dX3_init_415 rfl ?_
  refine lv_iconst (v := 4) hx hb dX3_init_416 (by decide) ?_
  refine lv_ldc (v := 1359893119) hx hb hown (hts (.constant RX3 81 (1359893119)) (by decide +kernel)) dX3_init_417 ?_
  refine x_ast (i := 4) hx hb hK hP hD hS 2 0 rfl rfl (by omega) (by decide) dX3_init_419 (fun H locs hP hD hS => ?_)
  have hP : va_P G vwCl ([(h0, .inr (3, [.ref q7, .null, .int 0, .int 0, .null, .null, .null, .null, .null, .int 0, .int 0, .int 0, .int 0, .null, .int 0, .null, .null, .null, .null, .null])), (q7, .inl (cA, 64, .inl kC)), (q393, .inl (cA, 8, .inl (upd (fK hC 4) 4 1359893119)))]) _ := hP
  have hD : va_D _ ([(h0, .inr (3, [.ref q7, .null, .int 0, .int 0, .null, .null, .null, .null, .null, .int 0, .int 0, .int 0, .int 0, .null, .int 0, .null, .null, .null, .null, .null])), (q7, .inl (cA, 64, .inl kC)), (q393, .inl (cA, 8, .inl (upd (fK hC 4) 4 1359893119)))]) := hD
  rw [fK_s (f := hC) (k := 4) (v := 1359893119) (by decide)] at hP hD
  have hP : va_P G vwCl ([(h0, .inr (3, [.ref q7, .null, .int 0, .int 0, .null, .null, .null, .null, .null, .int 0, .int 0, .int 0, .int 0, .null, .int 0, .null, .null, .null, .null, .null])), (q7, .inl (cA, 64, .inl kC)), (q393, .inl (cA, 8, .inl (fK hC 5)))]) _ := hP
  have hD : va_D _ ([(h0, .inr (3, [.ref q7, .null, .int 0, .int 0, .null, .null, .null, .null, .null, .int 0, .int 0, .int 0, .int 0, .null, .int 0, .null, .null, .null, .null, .null])), (q7, .inl (cA, 64, .inl kC)), (q393, .inl (cA, 8, .inl (fK hC 5)))]) := hD
  refine lv_dup hx hb dX3_init_420 rfl ?_
  refine lv_iconst (v := 5) hx hb dX3_init_421 (by decide) ?_
  refine lv_ldc (v := (-1694144372)) hx hb hown (hts (.constant RX3 82 (-1694144372)) (by decide +kernel)) dX3_init_422 ?_
  refine x_ast (i := 5) hx hb hK hP hD hS 2 0 rfl rfl (by omega) (by decide) dX3_init_424 (fun H locs hP hD hS => ?_)
  have hP : va_P G vwCl ([(h0, .inr (3, [.ref q7, .null, .int 0, .int 0, .null, .null, .null, .null, .null, .int 0, .int 0, .int 0, .int 0, .null, .int 0, .null, .null, .null, .null, .null])), (q7, .inl (cA, 64, .inl kC)), (q393, .inl (cA, 8, .inl (upd (fK hC 5) 5 (-1694144372))))]) _ := hP
  have hD : va_D _ ([(h0, .inr (3, [.ref q7, .null, .int 0, .int 0, .null, .null, .null, .null, .null, .int 0, .int 0, .int 0, .int 0, .null, .int 0, .null, .null, .null, .null, .null])), (q7, .inl (cA, 64, .inl kC)), (q393, .inl (cA, 8, .inl (upd (fK hC 5) 5 (-1694144372))))]) := hD
  rw [fK_s (f := hC) (k := 5) (v := (-1694144372)) (by decide)] at hP hD
  have hP : va_P G vwCl ([(h0, .inr (3, [.ref q7, .null, .int 0, .int 0, .null, .null, .null, .null, .null, .int 0, .int 0, .int 0, .int 0, .null, .int 0, .null, .null, .null, .null, .null])), (q7, .inl (cA, 64, .inl kC)), (q393, .inl (cA, 8, .inl (fK hC 6)))]) _ := hP
  have hD : va_D _ ([(h0, .inr (3, [.ref q7, .null, .int 0, .int 0, .null, .null, .null, .null, .null, .int 0, .int 0, .int 0, .int 0, .null, .int 0, .null, .null, .null, .null, .null])), (q7, .inl (cA, 64, .inl kC)), (q393, .inl (cA, 8, .inl (fK hC 6)))]) := hD
  refine lv_dup hx hb dX3_init_425 rfl ?_
  refine lv_bipush (v := 6) hx hb dX3_init_426 (by decide) ?_
  refine lv_ldc (v := 528734635) hx hb hown (hts (.constant RX3 83 (528734635)) (by decide +kernel)) dX3_init_428 ?_
  refine x_ast (i := 6) hx hb hK hP hD hS 2 0 rfl rfl (by omega) (by decide) dX3_init_430 (fun H locs hP hD hS => ?_)
  have hP : va_P G vwCl ([(h0, .inr (3, [.ref q7, .null, .int 0, .int 0, .null, .null, .null, .null, .null, .int 0, .int 0, .int 0, .int 0, .null, .int 0, .null, .null, .null, .null, .null])), (q7, .inl (cA, 64, .inl kC)), (q393, .inl (cA, 8, .inl (upd (fK hC 6) 6 528734635)))]) _ := hP
  have hD : va_D _ ([(h0, .inr (3, [.ref q7, .null, .int 0, .int 0, .null, .null, .null, .null, .null, .int 0, .int 0, .int 0, .int 0, .null, .int 0, .null, .null, .null, .null, .null])), (q7, .inl (cA, 64, .inl kC)), (q393, .inl (cA, 8, .inl (upd (fK hC 6) 6 528734635)))]) := hD
  rw [fK_s (f := hC) (k := 6) (v := 528734635) (by decide)] at hP hD
  have hP : va_P G vwCl ([(h0, .inr (3, [.ref q7, .null, .int 0, .int 0, .null, .null, .null, .null, .null, .int 0, .int 0, .int 0, .int 0, .null, .int 0, .null, .null, .null, .null, .null])), (q7, .inl (cA, 64, .inl kC)), (q393, .inl (cA, 8, .inl (fK hC 7)))]) _ := hP
  have hD : va_D _ ([(h0, .inr (3, [.ref q7, .null, .int 0, .int 0, .null, .null, .null, .null, .null, .int 0, .int 0, .int 0, .int 0, .null, .int 0, .null, .null, .null, .null, .null])), (q7, .inl (cA, 64, .inl kC)), (q393, .inl (cA, 8, .inl (fK hC 7)))]) := hD
  refine lv_dup hx hb dX3_init_431 rfl ?_
  refine lv_bipush (v := 7) hx hb dX3_init_432 (by decide) ?_
  refine lv_ldc (v := 1541459225) hx hb hown (hts (.constant RX3 84 (1541459225)) (by decide +kernel)) dX3_init_434 ?_
  refine x_ast (i := 7) hx hb hK hP hD hS 2 0 rfl rfl (by omega) (by decide) dX3_init_436 (fun H locs hP hD hS => ?_)
  have hP : va_P G vwCl ([(h0, .inr (3, [.ref q7, .null, .int 0, .int 0, .null, .null, .null, .null, .null, .int 0, .int 0, .int 0, .int 0, .null, .int 0, .null, .null, .null, .null, .null])), (q7, .inl (cA, 64, .inl kC)), (q393, .inl (cA, 8, .inl (upd (fK hC 7) 7 1541459225)))]) _ := hP
  have hD : va_D _ ([(h0, .inr (3, [.ref q7, .null, .int 0, .int 0, .null, .null, .null, .null, .null, .int 0, .int 0, .int 0, .int 0, .null, .int 0, .null, .null, .null, .null, .null])), (q7, .inl (cA, 64, .inl kC)), (q393, .inl (cA, 8, .inl (upd (fK hC 7) 7 1541459225)))]) := hD
  rw [fK_s (f := hC) (k := 7) (v := 1541459225) (by decide)] at hP hD
  rw [fK_h] at hP hD
  have hP : va_P G vwCl ([(h0, .inr (3, [.ref q7, .null, .int 0, .int 0, .null, .null, .null, .null, .null, .int 0, .int 0, .int 0, .int 0, .null, .int 0, .null, .null, .null, .null, .null])), (q7, .inl (cA, 64, .inl kC)), (q393, .inl (cA, 8, .inl hC))]) _ := hP
  have hD : va_D _ ([(h0, .inr (3, [.ref q7, .null, .int 0, .int 0, .null, .null, .null, .null, .null, .int 0, .int 0, .int 0, .int 0, .null, .int 0, .null, .null, .null, .null, .null])), (q7, .inl (cA, 64, .inl kC)), (q393, .inl (cA, 8, .inl hC))]) := hD
  refine va_putF (D := G) (ci := 3) (v := .ref q393) (ty := .array .int) (C := RX3) (T := TX3) (N := 20) hx hb hts hinX3 tyX3 tyX3_ok nmX3 hown hK hP hD hS 0 rfl rfl 1 (by decide) (hts (.fieldLink RX3 85 "SealedPagesModel" "h0" "[I") (by decide +kernel)) (fun _ h => h) rfl hin rfl (by decide +kernel) rfl rfl (Nat.le_of_ble_eq_true rfl) dX3_init_437 (fun H locs hP hD hS => ?_)
  have hP : va_P G vwCl ([(h0, .inr (3, [.ref q7, .ref q393, .int 0, .int 0, .null, .null, .null, .null, .null, .int 0, .int 0, .int 0, .int 0, .null, .int 0, .null, .null, .null, .null, .null])), (q7, .inl (cA, 64, .inl kC)), (q393, .inl (cA, 8, .inl hC))]) _ := hP
  have hD : va_D _ ([(h0, .inr (3, [.ref q7, .ref q393, .int 0, .int 0, .null, .null, .null, .null, .null, .int 0, .int 0, .int 0, .int 0, .null, .int 0, .null, .null, .null, .null, .null])), (q7, .inl (cA, 64, .inl kC)), (q393, .inl (cA, 8, .inl hC))]) := hD
  refine lv_aload_n hx hb dX3_init_440 rfl (lv_at hl 0 rfl) ?_
  refine lv_sipush (v := 8200) hx hb dX3_init_441 (by decide) ?_
  refine k_newa (N' := 8200) hx hb (hts (.arrayClass .int) (by decide +kernel)) hK hP hD hS hA (by omega) (Nat.le_of_ble_eq_true rfl) (by show 72 + 8200 ≤ 25168; omega) dX3_init_444 (fun q444 H hP hD hS => ?_)
  have hP : va_P G vwCl ([(h0, .inr (3, [.ref q7, .ref q393, .int 0, .int 0, .null, .null, .null, .null, .null, .int 0, .int 0, .int 0, .int 0, .null, .int 0, .null, .null, .null, .null, .null])), (q7, .inl (cA, 64, .inl kC)), (q393, .inl (cA, 8, .inl hC)), (q444, .inl (cA, 8200, .inl (fun _ => 0)))]) _ := hP
  have hD : va_D _ ([(h0, .inr (3, [.ref q7, .ref q393, .int 0, .int 0, .null, .null, .null, .null, .null, .int 0, .int 0, .int 0, .int 0, .null, .int 0, .null, .null, .null, .null, .null])), (q7, .inl (cA, 64, .inl kC)), (q393, .inl (cA, 8, .inl hC)), (q444, .inl (cA, 8200, .inl (fun _ => 0)))]) := hD
  refine W.widen (k := 3) (n := 8272) (by omega) (by omega) ?_
  refine va_putF (D := G) (ci := 3) (v := .ref q444) (ty := .array .int) (C := RX3) (T := TX3) (N := 20) hx hb hts hinX3 tyX3 tyX3_ok nmX3 hown hK hP hD hS 0 rfl rfl 4 (by decide) (hts (.fieldLink RX3 88 "SealedPagesModel" "disk" "[I") (by decide +kernel)) (fun _ h => h) rfl hin rfl (by decide +kernel) rfl rfl (Nat.le_of_ble_eq_true rfl) dX3_init_446 (fun H locs hP hD hS => ?_)
  have hP : va_P G vwCl ([(h0, .inr (3, [.ref q7, .ref q393, .int 0, .int 0, .ref q444, .null, .null, .null, .null, .int 0, .int 0, .int 0, .int 0, .null, .int 0, .null, .null, .null, .null, .null])), (q7, .inl (cA, 64, .inl kC)), (q393, .inl (cA, 8, .inl hC)), (q444, .inl (cA, 8200, .inl (fun _ => 0)))]) _ := hP
  have hD : va_D _ ([(h0, .inr (3, [.ref q7, .ref q393, .int 0, .int 0, .ref q444, .null, .null, .null, .null, .int 0, .int 0, .int 0, .int 0, .null, .int 0, .null, .null, .null, .null, .null])), (q7, .inl (cA, 64, .inl kC)), (q393, .inl (cA, 8, .inl hC)), (q444, .inl (cA, 8200, .inl (fun _ => 0)))]) := hD
  refine lv_aload_n hx hb dX3_init_449 rfl (lv_at hl 0 rfl) ?_
  refine lv_bipush (v := 32) hx hb dX3_init_450 (by decide) ?_
  refine k_newa (N' := 32) hx hb (hts (.arrayClass .int) (by decide +kernel)) hK hP hD hS hA (by omega) (Nat.le_of_ble_eq_true rfl) (by show 8272 + 32 ≤ 25168; omega) dX3_init_452 (fun q452 H hP hD hS => ?_)
  have hP : va_P G vwCl ([(h0, .inr (3, [.ref q7, .ref q393, .int 0, .int 0, .ref q444, .null, .null, .null, .null, .int 0, .int 0, .int 0, .int 0, .null, .int 0, .null, .null, .null, .null, .null])), (q7, .inl (cA, 64, .inl kC)), (q393, .inl (cA, 8, .inl hC)), (q444, .inl (cA, 8200, .inl (fun _ => 0))), (q452, .inl (cA, 32, .inl (fun _ => 0)))]) _ := hP
  have hD : va_D _ ([(h0, .inr (3, [.ref q7, .ref q393, .int 0, .int 0, .ref q444, .null, .null, .null, .null, .int 0, .int 0, .int 0, .int 0, .null, .int 0, .null, .null, .null, .null, .null])), (q7, .inl (cA, 64, .inl kC)), (q393, .inl (cA, 8, .inl hC)), (q444, .inl (cA, 8200, .inl (fun _ => 0))), (q452, .inl (cA, 32, .inl (fun _ => 0)))]) := hD
  refine W.widen (k := 4) (n := 8304) (by omega) (by omega) ?_
  refine va_putF (D := G) (ci := 3) (v := .ref q452) (ty := .array .int) (C := RX3) (T := TX3) (N := 20) hx hb hts hinX3 tyX3 tyX3_ok nmX3 hown hK hP hD hS 0 rfl rfl 5 (by decide) (hts (.fieldLink RX3 91 "SealedPagesModel" "root" "[I") (by decide +kernel)) (fun _ h => h) rfl hin rfl (by decide +kernel) rfl rfl (Nat.le_of_ble_eq_true rfl) dX3_init_454 (fun H locs hP hD hS => ?_)
  have hP : va_P G vwCl ([(h0, .inr (3, [.ref q7, .ref q393, .int 0, .int 0, .ref q444, .ref q452, .null, .null, .null, .int 0, .int 0, .int 0, .int 0, .null, .int 0, .null, .null, .null, .null, .null])), (q7, .inl (cA, 64, .inl kC)), (q393, .inl (cA, 8, .inl hC)), (q444, .inl (cA, 8200, .inl (fun _ => 0))), (q452, .inl (cA, 32, .inl (fun _ => 0)))]) _ := hP
  have hD : va_D _ ([(h0, .inr (3, [.ref q7, .ref q393, .int 0, .int 0, .ref q444, .ref q452, .null, .null, .null, .int 0, .int 0, .int 0, .int 0, .null, .int 0, .null, .null, .null, .null, .null])), (q7, .inl (cA, 64, .inl kC)), (q393, .inl (cA, 8, .inl hC)), (q444, .inl (cA, 8200, .inl (fun _ => 0))), (q452, .inl (cA, 32, .inl (fun _ => 0)))]) := hD
  refine lv_aload_n hx hb dX3_init_457 rfl (lv_at hl 0 rfl) ?_
  refine lv_bipush (v := 64) hx hb dX3_init_458 (by decide) ?_
  refine k_newa (N' := 64) hx hb (hts (.arrayClass .int) (by decide +kernel)) hK hP hD hS hA (by omega) (Nat.le_of_ble_eq_true rfl) (by show 8304 + 64 ≤ 25168; omega) dX3_init_460 (fun q460 H hP hD hS => ?_)
  have hP : va_P G vwCl ([(h0, .inr (3, [.ref q7, .ref q393, .int 0, .int 0, .ref q444, .ref q452, .null, .null, .null, .int 0, .int 0, .int 0, .int 0, .null, .int 0, .null, .null, .null, .null, .null])), (q7, .inl (cA, 64, .inl kC)), (q393, .inl (cA, 8, .inl hC)), (q444, .inl (cA, 8200, .inl (fun _ => 0))), (q452, .inl (cA, 32, .inl (fun _ => 0))), (q460, .inl (cA, 64, .inl (fun _ => 0)))]) _ := hP
  have hD : va_D _ ([(h0, .inr (3, [.ref q7, .ref q393, .int 0, .int 0, .ref q444, .ref q452, .null, .null, .null, .int 0, .int 0, .int 0, .int 0, .null, .int 0, .null, .null, .null, .null, .null])), (q7, .inl (cA, 64, .inl kC)), (q393, .inl (cA, 8, .inl hC)), (q444, .inl (cA, 8200, .inl (fun _ => 0))), (q452, .inl (cA, 32, .inl (fun _ => 0))), (q460, .inl (cA, 64, .inl (fun _ => 0)))]) := hD
  refine W.widen (k := 5) (n := 8368) (by omega) (by omega) ?_
  refine va_putF (D := G) (ci := 3) (v := .ref q460) (ty := .array .int) (C := RX3) (T := TX3) (N := 20) hx hb hts hinX3 tyX3 tyX3_ok nmX3 hown hK hP hD hS 0 rfl rfl 6 (by decide) (hts (.fieldLink RX3 94 "SealedPagesModel" "draft" "[I") (by decide +kernel)) (fun _ h => h) rfl hin rfl (by decide +kernel) rfl rfl (Nat.le_of_ble_eq_true rfl) dX3_init_462 (fun H locs hP hD hS => ?_)
  have hP : va_P G vwCl ([(h0, .inr (3, [.ref q7, .ref q393, .int 0, .int 0, .ref q444, .ref q452, .ref q460, .null, .null, .int 0, .int 0, .int 0, .int 0, .null, .int 0, .null, .null, .null, .null, .null])), (q7, .inl (cA, 64, .inl kC)), (q393, .inl (cA, 8, .inl hC)), (q444, .inl (cA, 8200, .inl (fun _ => 0))), (q452, .inl (cA, 32, .inl (fun _ => 0))), (q460, .inl (cA, 64, .inl (fun _ => 0)))]) _ := hP
  have hD : va_D _ ([(h0, .inr (3, [.ref q7, .ref q393, .int 0, .int 0, .ref q444, .ref q452, .ref q460, .null, .null, .int 0, .int 0, .int 0, .int 0, .null, .int 0, .null, .null, .null, .null, .null])), (q7, .inl (cA, 64, .inl kC)), (q393, .inl (cA, 8, .inl hC)), (q444, .inl (cA, 8200, .inl (fun _ => 0))), (q452, .inl (cA, 32, .inl (fun _ => 0))), (q460, .inl (cA, 64, .inl (fun _ => 0)))]) := hD
  refine lv_aload_n hx hb dX3_init_465 rfl (lv_at hl 0 rfl) ?_
  refine lv_sipush (v := 8200) hx hb dX3_init_466 (by decide) ?_
  refine k_newa (N' := 8200) hx hb (hts (.arrayClass .int) (by decide +kernel)) hK hP hD hS hA (by omega) (Nat.le_of_ble_eq_true rfl) (by show 8368 + 8200 ≤ 25168; omega) dX3_init_469 (fun q469 H hP hD hS => ?_)
  have hP : va_P G vwCl ([(h0, .inr (3, [.ref q7, .ref q393, .int 0, .int 0, .ref q444, .ref q452, .ref q460, .null, .null, .int 0, .int 0, .int 0, .int 0, .null, .int 0, .null, .null, .null, .null, .null])), (q7, .inl (cA, 64, .inl kC)), (q393, .inl (cA, 8, .inl hC)), (q444, .inl (cA, 8200, .inl (fun _ => 0))), (q452, .inl (cA, 32, .inl (fun _ => 0))), (q460, .inl (cA, 64, .inl (fun _ => 0))), (q469, .inl (cA, 8200, .inl (fun _ => 0)))]) _ := hP
  have hD : va_D _ ([(h0, .inr (3, [.ref q7, .ref q393, .int 0, .int 0, .ref q444, .ref q452, .ref q460, .null, .null, .int 0, .int 0, .int 0, .int 0, .null, .int 0, .null, .null, .null, .null, .null])), (q7, .inl (cA, 64, .inl kC)), (q393, .inl (cA, 8, .inl hC)), (q444, .inl (cA, 8200, .inl (fun _ => 0))), (q452, .inl (cA, 32, .inl (fun _ => 0))), (q460, .inl (cA, 64, .inl (fun _ => 0))), (q469, .inl (cA, 8200, .inl (fun _ => 0)))]) := hD
  refine W.widen (k := 6) (n := 16568) (by omega) (by omega) ?_
  refine va_putF (D := G) (ci := 3) (v := .ref q469) (ty := .array .int) (C := RX3) (T := TX3) (N := 20) hx hb hts hinX3 tyX3 tyX3_ok nmX3 hown hK hP hD hS 0 rfl rfl 7 (by decide) (hts (.fieldLink RX3 97 "SealedPagesModel" "keptDisk" "[I") (by decide +kernel)) (fun _ h => h) rfl hin rfl (by decide +kernel) rfl rfl (Nat.le_of_ble_eq_true rfl) dX3_init_471 (fun H locs hP hD hS => ?_)
  have hP : va_P G vwCl ([(h0, .inr (3, [.ref q7, .ref q393, .int 0, .int 0, .ref q444, .ref q452, .ref q460, .ref q469, .null, .int 0, .int 0, .int 0, .int 0, .null, .int 0, .null, .null, .null, .null, .null])), (q7, .inl (cA, 64, .inl kC)), (q393, .inl (cA, 8, .inl hC)), (q444, .inl (cA, 8200, .inl (fun _ => 0))), (q452, .inl (cA, 32, .inl (fun _ => 0))), (q460, .inl (cA, 64, .inl (fun _ => 0))), (q469, .inl (cA, 8200, .inl (fun _ => 0)))]) _ := hP
  have hD : va_D _ ([(h0, .inr (3, [.ref q7, .ref q393, .int 0, .int 0, .ref q444, .ref q452, .ref q460, .ref q469, .null, .int 0, .int 0, .int 0, .int 0, .null, .int 0, .null, .null, .null, .null, .null])), (q7, .inl (cA, 64, .inl kC)), (q393, .inl (cA, 8, .inl hC)), (q444, .inl (cA, 8200, .inl (fun _ => 0))), (q452, .inl (cA, 32, .inl (fun _ => 0))), (q460, .inl (cA, 64, .inl (fun _ => 0))), (q469, .inl (cA, 8200, .inl (fun _ => 0)))]) := hD
  refine lv_aload_n hx hb dX3_init_474 rfl (lv_at hl 0 rfl) ?_
  refine lv_bipush (v := 32) hx hb dX3_init_475 (by decide) ?_
  refine k_newa (N' := 32) hx hb (hts (.arrayClass .int) (by decide +kernel)) hK hP hD hS hA (by omega) (Nat.le_of_ble_eq_true rfl) (by show 16568 + 32 ≤ 25168; omega) dX3_init_477 (fun q477 H hP hD hS => ?_)
  have hP : va_P G vwCl ([(h0, .inr (3, [.ref q7, .ref q393, .int 0, .int 0, .ref q444, .ref q452, .ref q460, .ref q469, .null, .int 0, .int 0, .int 0, .int 0, .null, .int 0, .null, .null, .null, .null, .null])), (q7, .inl (cA, 64, .inl kC)), (q393, .inl (cA, 8, .inl hC)), (q444, .inl (cA, 8200, .inl (fun _ => 0))), (q452, .inl (cA, 32, .inl (fun _ => 0))), (q460, .inl (cA, 64, .inl (fun _ => 0))), (q469, .inl (cA, 8200, .inl (fun _ => 0))), (q477, .inl (cA, 32, .inl (fun _ => 0)))]) _ := hP
  have hD : va_D _ ([(h0, .inr (3, [.ref q7, .ref q393, .int 0, .int 0, .ref q444, .ref q452, .ref q460, .ref q469, .null, .int 0, .int 0, .int 0, .int 0, .null, .int 0, .null, .null, .null, .null, .null])), (q7, .inl (cA, 64, .inl kC)), (q393, .inl (cA, 8, .inl hC)), (q444, .inl (cA, 8200, .inl (fun _ => 0))), (q452, .inl (cA, 32, .inl (fun _ => 0))), (q460, .inl (cA, 64, .inl (fun _ => 0))), (q469, .inl (cA, 8200, .inl (fun _ => 0))), (q477, .inl (cA, 32, .inl (fun _ => 0)))]) := hD
  refine W.widen (k := 7) (n := 16600) (by omega) (by omega) ?_
  refine va_putF (D := G) (ci := 3) (v := .ref q477) (ty := .array .int) (C := RX3) (T := TX3) (N := 20) hx hb hts hinX3 tyX3 tyX3_ok nmX3 hown hK hP hD hS 0 rfl rfl 8 (by decide) (hts (.fieldLink RX3 100 "SealedPagesModel" "keptRoot" "[I") (by decide +kernel)) (fun _ h => h) rfl hin rfl (by decide +kernel) rfl rfl (Nat.le_of_ble_eq_true rfl) dX3_init_479 (fun H locs hP hD hS => ?_)
  have hP : va_P G vwCl ([(h0, .inr (3, [.ref q7, .ref q393, .int 0, .int 0, .ref q444, .ref q452, .ref q460, .ref q469, .ref q477, .int 0, .int 0, .int 0, .int 0, .null, .int 0, .null, .null, .null, .null, .null])), (q7, .inl (cA, 64, .inl kC)), (q393, .inl (cA, 8, .inl hC)), (q444, .inl (cA, 8200, .inl (fun _ => 0))), (q452, .inl (cA, 32, .inl (fun _ => 0))), (q460, .inl (cA, 64, .inl (fun _ => 0))), (q469, .inl (cA, 8200, .inl (fun _ => 0))), (q477, .inl (cA, 32, .inl (fun _ => 0)))]) _ := hP
  have hD : va_D _ ([(h0, .inr (3, [.ref q7, .ref q393, .int 0, .int 0, .ref q444, .ref q452, .ref q460, .ref q469, .ref q477, .int 0, .int 0, .int 0, .int 0, .null, .int 0, .null, .null, .null, .null, .null])), (q7, .inl (cA, 64, .inl kC)), (q393, .inl (cA, 8, .inl hC)), (q444, .inl (cA, 8200, .inl (fun _ => 0))), (q452, .inl (cA, 32, .inl (fun _ => 0))), (q460, .inl (cA, 64, .inl (fun _ => 0))), (q469, .inl (cA, 8200, .inl (fun _ => 0))), (q477, .inl (cA, 32, .inl (fun _ => 0)))]) := hD
  refine lv_aload_n hx hb dX3_init_482 rfl (lv_at hl 0 rfl) ?_
  refine lv_sipush (v := 256) hx hb dX3_init_483 (by decide) ?_
  refine k_newa (N' := 256) hx hb (hts (.arrayClass .int) (by decide +kernel)) hK hP hD hS hA (by omega) (Nat.le_of_ble_eq_true rfl) (by show 16600 + 256 ≤ 25168; omega) dX3_init_486 (fun q486 H hP hD hS => ?_)
  have hP : va_P G vwCl ([(h0, .inr (3, [.ref q7, .ref q393, .int 0, .int 0, .ref q444, .ref q452, .ref q460, .ref q469, .ref q477, .int 0, .int 0, .int 0, .int 0, .null, .int 0, .null, .null, .null, .null, .null])), (q7, .inl (cA, 64, .inl kC)), (q393, .inl (cA, 8, .inl hC)), (q444, .inl (cA, 8200, .inl (fun _ => 0))), (q452, .inl (cA, 32, .inl (fun _ => 0))), (q460, .inl (cA, 64, .inl (fun _ => 0))), (q469, .inl (cA, 8200, .inl (fun _ => 0))), (q477, .inl (cA, 32, .inl (fun _ => 0))), (q486, .inl (cA, 256, .inl (fun _ => 0)))]) _ := hP
  have hD : va_D _ ([(h0, .inr (3, [.ref q7, .ref q393, .int 0, .int 0, .ref q444, .ref q452, .ref q460, .ref q469, .ref q477, .int 0, .int 0, .int 0, .int 0, .null, .int 0, .null, .null, .null, .null, .null])), (q7, .inl (cA, 64, .inl kC)), (q393, .inl (cA, 8, .inl hC)), (q444, .inl (cA, 8200, .inl (fun _ => 0))), (q452, .inl (cA, 32, .inl (fun _ => 0))), (q460, .inl (cA, 64, .inl (fun _ => 0))), (q469, .inl (cA, 8200, .inl (fun _ => 0))), (q477, .inl (cA, 32, .inl (fun _ => 0))), (q486, .inl (cA, 256, .inl (fun _ => 0)))]) := hD
  refine W.widen (k := 8) (n := 16856) (by omega) (by omega) ?_
  refine va_putF (D := G) (ci := 3) (v := .ref q486) (ty := .array .int) (C := RX3) (T := TX3) (N := 20) hx hb hts hinX3 tyX3 tyX3_ok nmX3 hown hK hP hD hS 0 rfl rfl 13 (by decide) (hts (.fieldLink RX3 103 "SealedPagesModel" "row" "[I") (by decide +kernel)) (fun _ h => h) rfl hin rfl (by decide +kernel) rfl rfl (Nat.le_of_ble_eq_true rfl) dX3_init_488 (fun H locs hP hD hS => ?_)
  have hP : va_P G vwCl ([(h0, .inr (3, [.ref q7, .ref q393, .int 0, .int 0, .ref q444, .ref q452, .ref q460, .ref q469, .ref q477, .int 0, .int 0, .int 0, .int 0, .ref q486, .int 0, .null, .null, .null, .null, .null])), (q7, .inl (cA, 64, .inl kC)), (q393, .inl (cA, 8, .inl hC)), (q444, .inl (cA, 8200, .inl (fun _ => 0))), (q452, .inl (cA, 32, .inl (fun _ => 0))), (q460, .inl (cA, 64, .inl (fun _ => 0))), (q469, .inl (cA, 8200, .inl (fun _ => 0))), (q477, .inl (cA, 32, .inl (fun _ => 0))), (q486, .inl (cA, 256, .inl (fun _ => 0)))]) _ := hP
  have hD : va_D _ ([(h0, .inr (3, [.ref q7, .ref q393, .int 0, .int 0, .ref q444, .ref q452, .ref q460, .ref q469, .ref q477, .int 0, .int 0, .int 0, .int 0, .ref q486, .int 0, .null, .null, .null, .null, .null])), (q7, .inl (cA, 64, .inl kC)), (q393, .inl (cA, 8, .inl hC)), (q444, .inl (cA, 8200, .inl (fun _ => 0))), (q452, .inl (cA, 32, .inl (fun _ => 0))), (q460, .inl (cA, 64, .inl (fun _ => 0))), (q469, .inl (cA, 8200, .inl (fun _ => 0))), (q477, .inl (cA, 32, .inl (fun _ => 0))), (q486, .inl (cA, 256, .inl (fun _ => 0)))]) := hD
  refine lv_aload_n hx hb dX3_init_491 rfl (lv_at hl 0 rfl) ?_
  refine lv_bipush (v := 32) hx hb dX3_init_492 (by decide) ?_
  refine k_newa (N' := 32) hx hb (hts (.arrayClass .int) (by decide +kernel)) hK hP hD hS hA (by omega) (Nat.le_of_ble_eq_true rfl) (by show 16856 + 32 ≤ 25168; omega) dX3_init_494 (fun q494 H hP hD hS => ?_)
  have hP : va_P G vwCl ([(h0, .inr (3, [.ref q7, .ref q393, .int 0, .int 0, .ref q444, .ref q452, .ref q460, .ref q469, .ref q477, .int 0, .int 0, .int 0, .int 0, .ref q486, .int 0, .null, .null, .null, .null, .null])), (q7, .inl (cA, 64, .inl kC)), (q393, .inl (cA, 8, .inl hC)), (q444, .inl (cA, 8200, .inl (fun _ => 0))), (q452, .inl (cA, 32, .inl (fun _ => 0))), (q460, .inl (cA, 64, .inl (fun _ => 0))), (q469, .inl (cA, 8200, .inl (fun _ => 0))), (q477, .inl (cA, 32, .inl (fun _ => 0))), (q486, .inl (cA, 256, .inl (fun _ => 0))), (q494, .inl (cA, 32, .inl (fun _ => 0)))]) _ := hP
  have hD : va_D _ ([(h0, .inr (3, [.ref q7, .ref q393, .int 0, .int 0, .ref q444, .ref q452, .ref q460, .ref q469, .ref q477, .int 0, .int 0, .int 0, .int 0, .ref q486, .int 0, .null, .null, .null, .null, .null])), (q7, .inl (cA, 64, .inl kC)), (q393, .inl (cA, 8, .inl hC)), (q444, .inl (cA, 8200, .inl (fun _ => 0))), (q452, .inl (cA, 32, .inl (fun _ => 0))), (q460, .inl (cA, 64, .inl (fun _ => 0))), (q469, .inl (cA, 8200, .inl (fun _ => 0))), (q477, .inl (cA, 32, .inl (fun _ => 0))), (q486, .inl (cA, 256, .inl (fun _ => 0))), (q494, .inl (cA, 32, .inl (fun _ => 0)))]) := hD
  refine W.widen (k := 9) (n := 16888) (by omega) (by omega) ?_
  refine va_putF (D := G) (ci := 3) (v := .ref q494) (ty := .array .int) (C := RX3) (T := TX3) (N := 20) hx hb hts hinX3 tyX3 tyX3_ok nmX3 hown hK hP hD hS 0 rfl rfl 15 (by decide) (hts (.fieldLink RX3 106 "SealedPagesModel" "out" "[I") (by decide +kernel)) (fun _ h => h) rfl hin rfl (by decide +kernel) rfl rfl (Nat.le_of_ble_eq_true rfl) dX3_init_496 (fun H locs hP hD hS => ?_)
  have hP : va_P G vwCl ([(h0, .inr (3, [.ref q7, .ref q393, .int 0, .int 0, .ref q444, .ref q452, .ref q460, .ref q469, .ref q477, .int 0, .int 0, .int 0, .int 0, .ref q486, .int 0, .ref q494, .null, .null, .null, .null])), (q7, .inl (cA, 64, .inl kC)), (q393, .inl (cA, 8, .inl hC)), (q444, .inl (cA, 8200, .inl (fun _ => 0))), (q452, .inl (cA, 32, .inl (fun _ => 0))), (q460, .inl (cA, 64, .inl (fun _ => 0))), (q469, .inl (cA, 8200, .inl (fun _ => 0))), (q477, .inl (cA, 32, .inl (fun _ => 0))), (q486, .inl (cA, 256, .inl (fun _ => 0))), (q494, .inl (cA, 32, .inl (fun _ => 0)))]) _ := hP
  have hD : va_D _ ([(h0, .inr (3, [.ref q7, .ref q393, .int 0, .int 0, .ref q444, .ref q452, .ref q460, .ref q469, .ref q477, .int 0, .int 0, .int 0, .int 0, .ref q486, .int 0, .ref q494, .null, .null, .null, .null])), (q7, .inl (cA, 64, .inl kC)), (q393, .inl (cA, 8, .inl hC)), (q444, .inl (cA, 8200, .inl (fun _ => 0))), (q452, .inl (cA, 32, .inl (fun _ => 0))), (q460, .inl (cA, 64, .inl (fun _ => 0))), (q469, .inl (cA, 8200, .inl (fun _ => 0))), (q477, .inl (cA, 32, .inl (fun _ => 0))), (q486, .inl (cA, 256, .inl (fun _ => 0))), (q494, .inl (cA, 32, .inl (fun _ => 0)))]) := hD
  refine lv_aload_n hx hb dX3_init_499 rfl (lv_at hl 0 rfl) ?_
  refine lv_bipush (v := 64) hx hb dX3_init_500 (by decide) ?_
  refine k_newa (N' := 64) hx hb (hts (.arrayClass .int) (by decide +kernel)) hK hP hD hS hA (by omega) (Nat.le_of_ble_eq_true rfl) (by show 16888 + 64 ≤ 25168; omega) dX3_init_502 (fun q502 H hP hD hS => ?_)
  have hP : va_P G vwCl ([(h0, .inr (3, [.ref q7, .ref q393, .int 0, .int 0, .ref q444, .ref q452, .ref q460, .ref q469, .ref q477, .int 0, .int 0, .int 0, .int 0, .ref q486, .int 0, .ref q494, .null, .null, .null, .null])), (q7, .inl (cA, 64, .inl kC)), (q393, .inl (cA, 8, .inl hC)), (q444, .inl (cA, 8200, .inl (fun _ => 0))), (q452, .inl (cA, 32, .inl (fun _ => 0))), (q460, .inl (cA, 64, .inl (fun _ => 0))), (q469, .inl (cA, 8200, .inl (fun _ => 0))), (q477, .inl (cA, 32, .inl (fun _ => 0))), (q486, .inl (cA, 256, .inl (fun _ => 0))), (q494, .inl (cA, 32, .inl (fun _ => 0))), (q502, .inl (cA, 64, .inl (fun _ => 0)))]) _ := hP
  have hD : va_D _ ([(h0, .inr (3, [.ref q7, .ref q393, .int 0, .int 0, .ref q444, .ref q452, .ref q460, .ref q469, .ref q477, .int 0, .int 0, .int 0, .int 0, .ref q486, .int 0, .ref q494, .null, .null, .null, .null])), (q7, .inl (cA, 64, .inl kC)), (q393, .inl (cA, 8, .inl hC)), (q444, .inl (cA, 8200, .inl (fun _ => 0))), (q452, .inl (cA, 32, .inl (fun _ => 0))), (q460, .inl (cA, 64, .inl (fun _ => 0))), (q469, .inl (cA, 8200, .inl (fun _ => 0))), (q477, .inl (cA, 32, .inl (fun _ => 0))), (q486, .inl (cA, 256, .inl (fun _ => 0))), (q494, .inl (cA, 32, .inl (fun _ => 0))), (q502, .inl (cA, 64, .inl (fun _ => 0)))]) := hD
  refine W.widen (k := 10) (n := 16952) (by omega) (by omega) ?_
  refine va_putF (D := G) (ci := 3) (v := .ref q502) (ty := .array .int) (C := RX3) (T := TX3) (N := 20) hx hb hts hinX3 tyX3 tyX3_ok nmX3 hown hK hP hD hS 0 rfl rfl 16 (by decide) (hts (.fieldLink RX3 109 "SealedPagesModel" "words" "[I") (by decide +kernel)) (fun _ h => h) rfl hin rfl (by decide +kernel) rfl rfl (Nat.le_of_ble_eq_true rfl) dX3_init_504 (fun H locs hP hD hS => ?_)
  have hP : va_P G vwCl ([(h0, .inr (3, [.ref q7, .ref q393, .int 0, .int 0, .ref q444, .ref q452, .ref q460, .ref q469, .ref q477, .int 0, .int 0, .int 0, .int 0, .ref q486, .int 0, .ref q494, .ref q502, .null, .null, .null])), (q7, .inl (cA, 64, .inl kC)), (q393, .inl (cA, 8, .inl hC)), (q444, .inl (cA, 8200, .inl (fun _ => 0))), (q452, .inl (cA, 32, .inl (fun _ => 0))), (q460, .inl (cA, 64, .inl (fun _ => 0))), (q469, .inl (cA, 8200, .inl (fun _ => 0))), (q477, .inl (cA, 32, .inl (fun _ => 0))), (q486, .inl (cA, 256, .inl (fun _ => 0))), (q494, .inl (cA, 32, .inl (fun _ => 0))), (q502, .inl (cA, 64, .inl (fun _ => 0)))]) _ := hP
  have hD : va_D _ ([(h0, .inr (3, [.ref q7, .ref q393, .int 0, .int 0, .ref q444, .ref q452, .ref q460, .ref q469, .ref q477, .int 0, .int 0, .int 0, .int 0, .ref q486, .int 0, .ref q494, .ref q502, .null, .null, .null])), (q7, .inl (cA, 64, .inl kC)), (q393, .inl (cA, 8, .inl hC)), (q444, .inl (cA, 8200, .inl (fun _ => 0))), (q452, .inl (cA, 32, .inl (fun _ => 0))), (q460, .inl (cA, 64, .inl (fun _ => 0))), (q469, .inl (cA, 8200, .inl (fun _ => 0))), (q477, .inl (cA, 32, .inl (fun _ => 0))), (q486, .inl (cA, 256, .inl (fun _ => 0))), (q494, .inl (cA, 32, .inl (fun _ => 0))), (q502, .inl (cA, 64, .inl (fun _ => 0)))]) := hD
  refine lv_aload_n hx hb dX3_init_507 rfl (lv_at hl 0 rfl) ?_
  refine lv_bipush (v := 8) hx hb dX3_init_508 (by decide) ?_
  refine k_newa (N' := 8) hx hb (hts (.arrayClass .int) (by decide +kernel)) hK hP hD hS hA (by omega) (Nat.le_of_ble_eq_true rfl) (by show 16952 + 8 ≤ 25168; omega) dX3_init_510 (fun q510 H hP hD hS => ?_)
  have hP : va_P G vwCl ([(h0, .inr (3, [.ref q7, .ref q393, .int 0, .int 0, .ref q444, .ref q452, .ref q460, .ref q469, .ref q477, .int 0, .int 0, .int 0, .int 0, .ref q486, .int 0, .ref q494, .ref q502, .null, .null, .null])), (q7, .inl (cA, 64, .inl kC)), (q393, .inl (cA, 8, .inl hC)), (q444, .inl (cA, 8200, .inl (fun _ => 0))), (q452, .inl (cA, 32, .inl (fun _ => 0))), (q460, .inl (cA, 64, .inl (fun _ => 0))), (q469, .inl (cA, 8200, .inl (fun _ => 0))), (q477, .inl (cA, 32, .inl (fun _ => 0))), (q486, .inl (cA, 256, .inl (fun _ => 0))), (q494, .inl (cA, 32, .inl (fun _ => 0))), (q502, .inl (cA, 64, .inl (fun _ => 0))), (q510, .inl (cA, 8, .inl (fun _ => 0)))]) _ := hP
  have hD : va_D _ ([(h0, .inr (3, [.ref q7, .ref q393, .int 0, .int 0, .ref q444, .ref q452, .ref q460, .ref q469, .ref q477, .int 0, .int 0, .int 0, .int 0, .ref q486, .int 0, .ref q494, .ref q502, .null, .null, .null])), (q7, .inl (cA, 64, .inl kC)), (q393, .inl (cA, 8, .inl hC)), (q444, .inl (cA, 8200, .inl (fun _ => 0))), (q452, .inl (cA, 32, .inl (fun _ => 0))), (q460, .inl (cA, 64, .inl (fun _ => 0))), (q469, .inl (cA, 8200, .inl (fun _ => 0))), (q477, .inl (cA, 32, .inl (fun _ => 0))), (q486, .inl (cA, 256, .inl (fun _ => 0))), (q494, .inl (cA, 32, .inl (fun _ => 0))), (q502, .inl (cA, 64, .inl (fun _ => 0))), (q510, .inl (cA, 8, .inl (fun _ => 0)))]) := hD
  refine W.widen (k := 11) (n := 16960) (by omega) (by omega) ?_
  refine va_putF (D := G) (ci := 3) (v := .ref q510) (ty := .array .int) (C := RX3) (T := TX3) (N := 20) hx hb hts hinX3 tyX3 tyX3_ok nmX3 hown hK hP hD hS 0 rfl rfl 17 (by decide) (hts (.fieldLink RX3 112 "SealedPagesModel" "state" "[I") (by decide +kernel)) (fun _ h => h) rfl hin rfl (by decide +kernel) rfl rfl (Nat.le_of_ble_eq_true rfl) dX3_init_512 (fun H locs hP hD hS => ?_)
  have hP : va_P G vwCl ([(h0, .inr (3, [.ref q7, .ref q393, .int 0, .int 0, .ref q444, .ref q452, .ref q460, .ref q469, .ref q477, .int 0, .int 0, .int 0, .int 0, .ref q486, .int 0, .ref q494, .ref q502, .ref q510, .null, .null])), (q7, .inl (cA, 64, .inl kC)), (q393, .inl (cA, 8, .inl hC)), (q444, .inl (cA, 8200, .inl (fun _ => 0))), (q452, .inl (cA, 32, .inl (fun _ => 0))), (q460, .inl (cA, 64, .inl (fun _ => 0))), (q469, .inl (cA, 8200, .inl (fun _ => 0))), (q477, .inl (cA, 32, .inl (fun _ => 0))), (q486, .inl (cA, 256, .inl (fun _ => 0))), (q494, .inl (cA, 32, .inl (fun _ => 0))), (q502, .inl (cA, 64, .inl (fun _ => 0))), (q510, .inl (cA, 8, .inl (fun _ => 0)))]) _ := hP
  have hD : va_D _ ([(h0, .inr (3, [.ref q7, .ref q393, .int 0, .int 0, .ref q444, .ref q452, .ref q460, .ref q469, .ref q477, .int 0, .int 0, .int 0, .int 0, .ref q486, .int 0, .ref q494, .ref q502, .ref q510, .null, .null])), (q7, .inl (cA, 64, .inl kC)), (q393, .inl (cA, 8, .inl hC)), (q444, .inl (cA, 8200, .inl (fun _ => 0))), (q452, .inl (cA, 32, .inl (fun _ => 0))), (q460, .inl (cA, 64, .inl (fun _ => 0))), (q469, .inl (cA, 8200, .inl (fun _ => 0))), (q477, .inl (cA, 32, .inl (fun _ => 0))), (q486, .inl (cA, 256, .inl (fun _ => 0))), (q494, .inl (cA, 32, .inl (fun _ => 0))), (q502, .inl (cA, 64, .inl (fun _ => 0))), (q510, .inl (cA, 8, .inl (fun _ => 0)))]) := hD
  refine lv_aload_n hx hb dX3_init_515 rfl (lv_at hl 0 rfl) ?_
  refine lv_bipush (v := 8) hx hb dX3_init_516 (by decide) ?_
  refine k_newa (N' := 8) hx hb (hts (.arrayClass .int) (by decide +kernel)) hK hP hD hS hA (by omega) (Nat.le_of_ble_eq_true rfl) (by show 16960 + 8 ≤ 25168; omega) dX3_init_518 (fun q518 H hP hD hS => ?_)
  have hP : va_P G vwCl ([(h0, .inr (3, [.ref q7, .ref q393, .int 0, .int 0, .ref q444, .ref q452, .ref q460, .ref q469, .ref q477, .int 0, .int 0, .int 0, .int 0, .ref q486, .int 0, .ref q494, .ref q502, .ref q510, .null, .null])), (q7, .inl (cA, 64, .inl kC)), (q393, .inl (cA, 8, .inl hC)), (q444, .inl (cA, 8200, .inl (fun _ => 0))), (q452, .inl (cA, 32, .inl (fun _ => 0))), (q460, .inl (cA, 64, .inl (fun _ => 0))), (q469, .inl (cA, 8200, .inl (fun _ => 0))), (q477, .inl (cA, 32, .inl (fun _ => 0))), (q486, .inl (cA, 256, .inl (fun _ => 0))), (q494, .inl (cA, 32, .inl (fun _ => 0))), (q502, .inl (cA, 64, .inl (fun _ => 0))), (q510, .inl (cA, 8, .inl (fun _ => 0))), (q518, .inl (cA, 8, .inl (fun _ => 0)))]) _ := hP
  have hD : va_D _ ([(h0, .inr (3, [.ref q7, .ref q393, .int 0, .int 0, .ref q444, .ref q452, .ref q460, .ref q469, .ref q477, .int 0, .int 0, .int 0, .int 0, .ref q486, .int 0, .ref q494, .ref q502, .ref q510, .null, .null])), (q7, .inl (cA, 64, .inl kC)), (q393, .inl (cA, 8, .inl hC)), (q444, .inl (cA, 8200, .inl (fun _ => 0))), (q452, .inl (cA, 32, .inl (fun _ => 0))), (q460, .inl (cA, 64, .inl (fun _ => 0))), (q469, .inl (cA, 8200, .inl (fun _ => 0))), (q477, .inl (cA, 32, .inl (fun _ => 0))), (q486, .inl (cA, 256, .inl (fun _ => 0))), (q494, .inl (cA, 32, .inl (fun _ => 0))), (q502, .inl (cA, 64, .inl (fun _ => 0))), (q510, .inl (cA, 8, .inl (fun _ => 0))), (q518, .inl (cA, 8, .inl (fun _ => 0)))]) := hD
  refine W.widen (k := 12) (n := 16968) (by omega) (by omega) ?_
  refine va_putF (D := G) (ci := 3) (v := .ref q518) (ty := .array .int) (C := RX3) (T := TX3) (N := 20) hx hb hts hinX3 tyX3 tyX3_ok nmX3 hown hK hP hD hS 0 rfl rfl 18 (by decide) (hts (.fieldLink RX3 115 "SealedPagesModel" "work" "[I") (by decide +kernel)) (fun _ h => h) rfl hin rfl (by decide +kernel) rfl rfl (Nat.le_of_ble_eq_true rfl) dX3_init_520 (fun H locs hP hD hS => ?_)
  have hP : va_P G vwCl ([(h0, .inr (3, [.ref q7, .ref q393, .int 0, .int 0, .ref q444, .ref q452, .ref q460, .ref q469, .ref q477, .int 0, .int 0, .int 0, .int 0, .ref q486, .int 0, .ref q494, .ref q502, .ref q510, .ref q518, .null])), (q7, .inl (cA, 64, .inl kC)), (q393, .inl (cA, 8, .inl hC)), (q444, .inl (cA, 8200, .inl (fun _ => 0))), (q452, .inl (cA, 32, .inl (fun _ => 0))), (q460, .inl (cA, 64, .inl (fun _ => 0))), (q469, .inl (cA, 8200, .inl (fun _ => 0))), (q477, .inl (cA, 32, .inl (fun _ => 0))), (q486, .inl (cA, 256, .inl (fun _ => 0))), (q494, .inl (cA, 32, .inl (fun _ => 0))), (q502, .inl (cA, 64, .inl (fun _ => 0))), (q510, .inl (cA, 8, .inl (fun _ => 0))), (q518, .inl (cA, 8, .inl (fun _ => 0)))]) _ := hP
  have hD : va_D _ ([(h0, .inr (3, [.ref q7, .ref q393, .int 0, .int 0, .ref q444, .ref q452, .ref q460, .ref q469, .ref q477, .int 0, .int 0, .int 0, .int 0, .ref q486, .int 0, .ref q494, .ref q502, .ref q510, .ref q518, .null])), (q7, .inl (cA, 64, .inl kC)), (q393, .inl (cA, 8, .inl hC)), (q444, .inl (cA, 8200, .inl (fun _ => 0))), (q452, .inl (cA, 32, .inl (fun _ => 0))), (q460, .inl (cA, 64, .inl (fun _ => 0))), (q469, .inl (cA, 8200, .inl (fun _ => 0))), (q477, .inl (cA, 32, .inl (fun _ => 0))), (q486, .inl (cA, 256, .inl (fun _ => 0))), (q494, .inl (cA, 32, .inl (fun _ => 0))), (q502, .inl (cA, 64, .inl (fun _ => 0))), (q510, .inl (cA, 8, .inl (fun _ => 0))), (q518, .inl (cA, 8, .inl (fun _ => 0)))]) := hD
  refine lv_aload_n hx hb dX3_init_523 rfl (lv_at hl 0 rfl) ?_
  refine lv_sipush (v := 8200) hx hb dX3_init_524 (by decide) ?_
  refine k_newa (N' := 8200) hx hb (hts (.arrayClass .int) (by decide +kernel)) hK hP hD hS hA (by omega) (Nat.le_of_ble_eq_true rfl) (by show 16968 + 8200 ≤ 25168; omega) dX3_init_527 (fun q527 H hP hD hS => ?_)
  have hP : va_P G vwCl ([(h0, .inr (3, [.ref q7, .ref q393, .int 0, .int 0, .ref q444, .ref q452, .ref q460, .ref q469, .ref q477, .int 0, .int 0, .int 0, .int 0, .ref q486, .int 0, .ref q494, .ref q502, .ref q510, .ref q518, .null])), (q7, .inl (cA, 64, .inl kC)), (q393, .inl (cA, 8, .inl hC)), (q444, .inl (cA, 8200, .inl (fun _ => 0))), (q452, .inl (cA, 32, .inl (fun _ => 0))), (q460, .inl (cA, 64, .inl (fun _ => 0))), (q469, .inl (cA, 8200, .inl (fun _ => 0))), (q477, .inl (cA, 32, .inl (fun _ => 0))), (q486, .inl (cA, 256, .inl (fun _ => 0))), (q494, .inl (cA, 32, .inl (fun _ => 0))), (q502, .inl (cA, 64, .inl (fun _ => 0))), (q510, .inl (cA, 8, .inl (fun _ => 0))), (q518, .inl (cA, 8, .inl (fun _ => 0))), (q527, .inl (cA, 8200, .inl (fun _ => 0)))]) _ := hP
  have hD : va_D _ ([(h0, .inr (3, [.ref q7, .ref q393, .int 0, .int 0, .ref q444, .ref q452, .ref q460, .ref q469, .ref q477, .int 0, .int 0, .int 0, .int 0, .ref q486, .int 0, .ref q494, .ref q502, .ref q510, .ref q518, .null])), (q7, .inl (cA, 64, .inl kC)), (q393, .inl (cA, 8, .inl hC)), (q444, .inl (cA, 8200, .inl (fun _ => 0))), (q452, .inl (cA, 32, .inl (fun _ => 0))), (q460, .inl (cA, 64, .inl (fun _ => 0))), (q469, .inl (cA, 8200, .inl (fun _ => 0))), (q477, .inl (cA, 32, .inl (fun _ => 0))), (q486, .inl (cA, 256, .inl (fun _ => 0))), (q494, .inl (cA, 32, .inl (fun _ => 0))), (q502, .inl (cA, 64, .inl (fun _ => 0))), (q510, .inl (cA, 8, .inl (fun _ => 0))), (q518, .inl (cA, 8, .inl (fun _ => 0))), (q527, .inl (cA, 8200, .inl (fun _ => 0)))]) := hD
  refine W.widen (k := 13) (n := 25168) (by omega) (by omega) ?_
  refine va_putF (D := G) (ci := 3) (v := .ref q527) (ty := .array .int) (C := RX3) (T := TX3) (N := 20) hx hb hts hinX3 tyX3 tyX3_ok nmX3 hown hK hP hD hS 0 rfl rfl 19 (by decide) (hts (.fieldLink RX3 118 "SealedPagesModel" "carried" "[I") (by decide +kernel)) (fun _ h => h) rfl hin rfl (by decide +kernel) rfl rfl (Nat.le_of_ble_eq_true rfl) dX3_init_529 (fun H locs hP hD hS => ?_)
  have hP : va_P G vwCl ([(h0, .inr (3, [.ref q7, .ref q393, .int 0, .int 0, .ref q444, .ref q452, .ref q460, .ref q469, .ref q477, .int 0, .int 0, .int 0, .int 0, .ref q486, .int 0, .ref q494, .ref q502, .ref q510, .ref q518, .ref q527])), (q7, .inl (cA, 64, .inl kC)), (q393, .inl (cA, 8, .inl hC)), (q444, .inl (cA, 8200, .inl (fun _ => 0))), (q452, .inl (cA, 32, .inl (fun _ => 0))), (q460, .inl (cA, 64, .inl (fun _ => 0))), (q469, .inl (cA, 8200, .inl (fun _ => 0))), (q477, .inl (cA, 32, .inl (fun _ => 0))), (q486, .inl (cA, 256, .inl (fun _ => 0))), (q494, .inl (cA, 32, .inl (fun _ => 0))), (q502, .inl (cA, 64, .inl (fun _ => 0))), (q510, .inl (cA, 8, .inl (fun _ => 0))), (q518, .inl (cA, 8, .inl (fun _ => 0))), (q527, .inl (cA, 8200, .inl (fun _ => 0)))]) _ := hP
  have hD : va_D _ ([(h0, .inr (3, [.ref q7, .ref q393, .int 0, .int 0, .ref q444, .ref q452, .ref q460, .ref q469, .ref q477, .int 0, .int 0, .int 0, .int 0, .ref q486, .int 0, .ref q494, .ref q502, .ref q510, .ref q518, .ref q527])), (q7, .inl (cA, 64, .inl kC)), (q393, .inl (cA, 8, .inl hC)), (q444, .inl (cA, 8200, .inl (fun _ => 0))), (q452, .inl (cA, 32, .inl (fun _ => 0))), (q460, .inl (cA, 64, .inl (fun _ => 0))), (q469, .inl (cA, 8200, .inl (fun _ => 0))), (q477, .inl (cA, 32, .inl (fun _ => 0))), (q486, .inl (cA, 256, .inl (fun _ => 0))), (q494, .inl (cA, 32, .inl (fun _ => 0))), (q502, .inl (cA, 64, .inl (fun _ => 0))), (q510, .inl (cA, 8, .inl (fun _ => 0))), (q518, .inl (cA, 8, .inl (fun _ => 0))), (q527, .inl (cA, 8200, .inl (fun _ => 0)))]) := hD
  refine lv_aload_n hx hb dX3_init_532 rfl (lv_at hl 0 rfl) ?_
  refine lv_iload_n hx hb dX3_init_533 rfl (lv_at hl 1 rfl) ?_
  refine lv_iconst (v := 1) hx hb dX3_init_534 (by decide) ?_
  refine lv_icmp_ge (tgt := 542) hx hb dX3_init_535 (by decide) (fun c_1 => ?_) (fun c_1 => ?_)
  · skip
    have hx1 : ¬ x < 1 := Int32.not_lt.mpr c_1
    refine lv_iload_n hx hb dX3_init_542 rfl (lv_at hl 1 rfl) ?_
    refine lv_bipush (v := 64) hx hb dX3_init_543 (by decide) ?_
    refine lv_icmp_le (tgt := 553) hx hb dX3_init_545 (by decide) (fun c_2 => ?_) (fun c_2 => ?_)
    · skip
      have hv : x = nI (clN x) := clN_v hx1 (Int32.not_lt.mpr c_2)
      refine lv_iload_n hx hb dX3_init_553 rfl (lv_at hl 1 rfl) ?_
      refine x_eqi (y := nI N) (by rw [eN1]; exact hv) ?_
      refine va_put (D := G) (ci := 3) (v := .int (nI N)) (ty := .int) (C := RX3) (T := TX3) (N := 20) hx hb hts hinX3 tyX3 tyX3_ok nmX3 hown hK hP hD hS 0 rfl rfl 2 (by decide) (hts (.fieldLink RX3 121 "SealedPagesModel" "pages" "I") (by decide +kernel)) (fun _ h => h) rfl (by decide +kernel) rfl rfl (Nat.le_of_ble_eq_true rfl) dX3_init_554 (fun H locs hP hD hS => ?_)
      have hP : va_P G vwCl ([(h0, .inr (3, [.ref q7, .ref q393, .int (nI N), .int 0, .ref q444, .ref q452, .ref q460, .ref q469, .ref q477, .int 0, .int 0, .int 0, .int 0, .ref q486, .int 0, .ref q494, .ref q502, .ref q510, .ref q518, .ref q527])), (q7, .inl (cA, 64, .inl kC)), (q393, .inl (cA, 8, .inl hC)), (q444, .inl (cA, 8200, .inl (fun _ => 0))), (q452, .inl (cA, 32, .inl (fun _ => 0))), (q460, .inl (cA, 64, .inl (fun _ => 0))), (q469, .inl (cA, 8200, .inl (fun _ => 0))), (q477, .inl (cA, 32, .inl (fun _ => 0))), (q486, .inl (cA, 256, .inl (fun _ => 0))), (q494, .inl (cA, 32, .inl (fun _ => 0))), (q502, .inl (cA, 64, .inl (fun _ => 0))), (q510, .inl (cA, 8, .inl (fun _ => 0))), (q518, .inl (cA, 8, .inl (fun _ => 0))), (q527, .inl (cA, 8200, .inl (fun _ => 0)))]) _ := hP
      have hD : va_D _ ([(h0, .inr (3, [.ref q7, .ref q393, .int (nI N), .int 0, .ref q444, .ref q452, .ref q460, .ref q469, .ref q477, .int 0, .int 0, .int 0, .int 0, .ref q486, .int 0, .ref q494, .ref q502, .ref q510, .ref q518, .ref q527])), (q7, .inl (cA, 64, .inl kC)), (q393, .inl (cA, 8, .inl hC)), (q444, .inl (cA, 8200, .inl (fun _ => 0))), (q452, .inl (cA, 32, .inl (fun _ => 0))), (q460, .inl (cA, 64, .inl (fun _ => 0))), (q469, .inl (cA, 8200, .inl (fun _ => 0))), (q477, .inl (cA, 32, .inl (fun _ => 0))), (q486, .inl (cA, 256, .inl (fun _ => 0))), (q494, .inl (cA, 32, .inl (fun _ => 0))), (q502, .inl (cA, 64, .inl (fun _ => 0))), (q510, .inl (cA, 8, .inl (fun _ => 0))), (q518, .inl (cA, 8, .inl (fun _ => 0))), (q527, .inl (cA, 8200, .inl (fun _ => 0)))]) := hD
      obtain ⟨g, e0, e1, e2, e3, e4, e5, e6, e7, e8, e9, e10, e11, e12, e13⟩ : ∃ g : Nat → Nat, g 0 = h0 ∧ g 1 = q7 ∧ g 2 = q393 ∧ g 3 = q444 ∧ g 4 = q452 ∧ g 5 = q460 ∧ g 6 = q469 ∧ g 7 = q477 ∧ g 8 = q486 ∧ g 9 = q494 ∧ g 10 = q502 ∧ g 11 = q510 ∧ g 12 = q518 ∧ g 13 = q527 := ⟨fun q => [h0, q7, q393, q444, q452, q460, q469, q477, q486, q494, q502, q510, q518, q527].getD q 0, rfl, rfl, rfl, rfl, rfl, rfl, rfl, rfl, rfl, rfl, rfl, rfl, rfl, rfl⟩
      subst e0
      subst e1
      subst e2
      subst e3
      subst e4
      subst e5
      subst e6
      subst e7
      subst e8
      subst e9
      subst e10
      subst e11
      subst e12
      subst e13
      have hP := hP.sub (ws' := mW g cA N 0 (fun _ => 0) (fun _ => 0) (fun _ => 0) (fun _ => 0) (fun _ => 0) (fun _ => 0) (fun _ => 0) (fun _ => 0) (fun _ => 0) (fun _ => 0) (fun _ => 0) 0 0 0 0 0) [0, 1, 2, 3, 4, 5, 6, 7, 8, 9, 10, 11, 12, 13] rfl
      have hD := hD.sub (ws' := mW g cA N 0 (fun _ => 0) (fun _ => 0) (fun _ => 0) (fun _ => 0) (fun _ => 0) (fun _ => 0) (fun _ => 0) (fun _ => 0) (fun _ => 0) (fun _ => 0) (fun _ => 0) 0 0 0 0 0) [0, 1, 2, 3, 4, 5, 6, 7, 8, 9, 10, 11, 12, 13] (by decide) rfl
      have hwo := wA_oA (n := 14) rfl hD
      have how : ∀ q, oA (g 0) s.heap.size q → wA g 14 s.heap.size q := fun q z => z.elim (fun z => Or.inl ⟨0, by decide, z⟩) Or.inr
      have hD := hD.weaken (fun _ _ _ z => how _ z)
      have hS := va_S_mono how hS
      have hT := hT.narrow hwo
      have hl : lv_has ls 2 [(0, .ref (g 0)), (1, .int x)] := hl
      refine lv_aload_n hx hb dX3_init_557 rfl (lv_at hl 0 rfl) ?_
      refine lv_aload_n hx hb dX3_init_558 rfl (lv_at hl 0 rfl) ?_
      refine lv_aload_n hx hb dX3_init_559 rfl (lv_at hl 0 rfl) ?_
      refine x_vi ⟨hx, hb, hml, hown, hts⟩ (c_X3_levelsOf l G cA tF tC g _ N hN 0 (fun _ => 0) (fun _ => 0) (fun _ => 0) (fun _ => 0) (fun _ => 0) (fun _ => 0) (fun _ => 0) (fun _ => 0) (fun _ => 0) (fun _ => 0) (fun _ => 0) 0 0 0 0 0 ) (cwV 0 hts gX3_init_X3_levelsOf rfl rfl rfl (by decide +kernel) ⟨Nat.le_of_ble_eq_true rfl, Nat.le_of_ble_eq_true rfl⟩) hK hP hD hS hT rfl 0 3 rfl rfl rfl hl.1 rfl (Nat.le_of_ble_eq_true rfl) dX3_init_560 ⟨Nat.le_refl _, Nat.le_refl _⟩ (fun r_4 u H locs hp_3 hP hD hS => ?_)
      have hP : va_P G vwCl (mW g cA N 0 (fun _ => 0) (fun _ => 0) (fun _ => 0) (fun _ => 0) (fun _ => 0) (fun _ => 0) (fun _ => 0) (fun _ => 0) (fun _ => 0) (fun _ => 0) (fun _ => 0) 0 0 0 0 0) _ := hP
      have hD : va_D _ (mW g cA N 0 (fun _ => 0) (fun _ => 0) (fun _ => 0) (fun _ => 0) (fun _ => 0) (fun _ => 0) (fun _ => 0) (fun _ => 0) (fun _ => 0) (fun _ => 0) (fun _ => 0) 0 0 0 0 0) := hD
      have hp_3 : r_4 = nI (lvs N) := hp_3
      subst hp_3
      refine lv_iconst (v := 0) hx hb dX3_init_563 (by decide) ?_
      refine x_vi ⟨hx, hb, hml, hown, hts⟩ (c_X3_placeOf l G cA tF tC g _ N hN 0 (fun _ => 0) (fun _ => 0) (fun _ => 0) (fun _ => 0) (fun _ => 0) (fun _ => 0) (fun _ => 0) (fun _ => 0) (fun _ => 0) (fun _ => 0) (fun _ => 0) 0 0 0 0 0 (lvs N) 0 (Nat.le_refl _)) (cwV 2 hts gX3_init_X3_placeOf rfl rfl rfl (by decide +kernel) ⟨Nat.le_of_ble_eq_true rfl, Nat.le_of_ble_eq_true rfl⟩) hK hP hD hS hT rfl 0 3 rfl rfl rfl hl.1 rfl (Nat.le_of_ble_eq_true rfl) dX3_init_564 ⟨Nat.le_refl _, Nat.le_refl _⟩ (fun r_6 u H locs hp_5 hP hD hS => ?_)
      have hP : va_P G vwCl (mW g cA N 0 (fun _ => 0) (fun _ => 0) (fun _ => 0) (fun _ => 0) (fun _ => 0) (fun _ => 0) (fun _ => 0) (fun _ => 0) (fun _ => 0) (fun _ => 0) (fun _ => 0) 0 0 0 0 0) _ := hP
      have hD : va_D _ (mW g cA N 0 (fun _ => 0) (fun _ => 0) (fun _ => 0) (fun _ => 0) (fun _ => 0) (fun _ => 0) (fun _ => 0) (fun _ => 0) (fun _ => 0) (fun _ => 0) (fun _ => 0) 0 0 0 0 0) := hD
      have hp_5 : r_6 = nI (plc N (lvs N) 0) := hp_5
      subst hp_5
      refine va_put (D := G) (ci := 3) (v := .int (nI (plc N (lvs N) 0))) (ty := .int) (C := RX3) (T := TX3) (N := 20) hx hb hts hinX3 tyX3 tyX3_ok nmX3 hown hK hP hD hS 0 rfl rfl 3 (by decide) (hts (.fieldLink RX3 133 "SealedPagesModel" "size" "I") (by decide +kernel)) (fun _ h => h) rfl (by decide +kernel) rfl rfl (Nat.le_of_ble_eq_true rfl) dX3_init_567 (fun H locs hP hD hS => ?_)
      have hP : va_P G vwCl (mW g cA N (nI (plc N (lvs N) 0)) (fun _ => 0) (fun _ => 0) (fun _ => 0) (fun _ => 0) (fun _ => 0) (fun _ => 0) (fun _ => 0) (fun _ => 0) (fun _ => 0) (fun _ => 0) (fun _ => 0) 0 0 0 0 0) _ := hP
      have hD : va_D _ (mW g cA N (nI (plc N (lvs N) 0)) (fun _ => 0) (fun _ => 0) (fun _ => 0) (fun _ => 0) (fun _ => 0) (fun _ => 0) (fun _ => 0) (fun _ => 0) (fun _ => 0) (fun _ => 0) (fun _ => 0) 0 0 0 0 0) := hD
      have hP : va_P G vwCl (mW g cA N (nI (siz N)) (fun _ => 0) (fun _ => 0) (fun _ => 0) (fun _ => 0) (fun _ => 0) (fun _ => 0) (fun _ => 0) (fun _ => 0) (fun _ => 0) (fun _ => 0) (fun _ => 0) 0 0 0 0 0) _ := hP
      have hD : va_D _ (mW g cA N (nI (siz N)) (fun _ => 0) (fun _ => 0) (fun _ => 0) (fun _ => 0) (fun _ => 0) (fun _ => 0) (fun _ => 0) (fun _ => 0) (fun _ => 0) (fun _ => 0) (fun _ => 0) 0 0 0 0 0) := hD
      refine lv_aload_n hx hb dX3_init_570 rfl (lv_at hl 0 rfl) ?_
      refine x_vi ⟨hx, hb, hml, hown, hts⟩ (c_X3_seal l G cA tF tC g _ N hN (fun _ => 0) (fun _ => 0) (fun _ => 0) (fun _ => 0) (fun _ => 0) (fun _ => 0) (fun _ => 0) (fun _ => 0) (fun _ => 0) (fun _ => 0) (fun _ => 0) 0 0 0 0 0 ) (cwV 0 hts gX3_init_X3_seal rfl rfl rfl (by decide +kernel) ⟨Nat.le_of_ble_eq_true rfl, Nat.le_of_ble_eq_true rfl⟩) hK hP hD hS hT rfl 0 3 rfl rfl rfl hl.1 rfl (Nat.le_of_ble_eq_true rfl) dX3_init_571 ⟨Nat.le_refl _, Nat.le_refl _⟩ (fun r_7 u H locs hp1 hP hD hS => ?_)
      obtain ⟨RW1, OU1, WO1, ST1, WK1, ln1⟩ := u
      have hP : va_P G vwCl (mW g cA N (nI (siz N)) (sAll N (fun _ => 0)) (sRoot N (sAll N (fun _ => 0)) (fun _ => 0)) (fun _ => 0) (fun _ => 0) (fun _ => 0) RW1 OU1 WO1 ST1 WK1 (fun _ => 0) ln1 0 0 0 0) _ := hP
      have hD : va_D _ (mW g cA N (nI (siz N)) (sAll N (fun _ => 0)) (sRoot N (sAll N (fun _ => 0)) (fun _ => 0)) (fun _ => 0) (fun _ => 0) (fun _ => 0) RW1 OU1 WO1 ST1 WK1 (fun _ => 0) ln1 0 0 0 0) := hD
      have hp1 : r_7 = nI (nds N) := hp1
      subst hp1
      refine lv_pop hx hb dX3_init_574 rfl ?_
      have hS := va_S_mono hwo hS
      have hD := hD.weaken (fun _ _ _ z => hwo _ z)
      subst eN1
      exact hret (g, RW1, OU1, WO1, ST1, WK1, ln1) _ _ _ _ dX3_init_575 hP hD hS rfl
    · skip
      have hv : (64 : Int32) = nI (clN x) := by rw [clN_64 (Int32.not_le.mp c_2)]; rfl
      refine lv_bipush (v := 64) hx hb dX3_init_548 (by decide) ?_
      refine lv_goto (tgt := 554) hx hb dX3_init_550 (by decide) ?_
      refine x_eqi (y := nI N) (by rw [eN1]; exact hv) ?_
      refine va_put (D := G) (ci := 3) (v := .int (nI N)) (ty := .int) (C := RX3) (T := TX3) (N := 20) hx hb hts hinX3 tyX3 tyX3_ok nmX3 hown hK hP hD hS 0 rfl rfl 2 (by decide) (hts (.fieldLink RX3 121 "SealedPagesModel" "pages" "I") (by decide +kernel)) (fun _ h => h) rfl (by decide +kernel) rfl rfl (Nat.le_of_ble_eq_true rfl) dX3_init_554 (fun H locs hP hD hS => ?_)
      have hP : va_P G vwCl ([(h0, .inr (3, [.ref q7, .ref q393, .int (nI N), .int 0, .ref q444, .ref q452, .ref q460, .ref q469, .ref q477, .int 0, .int 0, .int 0, .int 0, .ref q486, .int 0, .ref q494, .ref q502, .ref q510, .ref q518, .ref q527])), (q7, .inl (cA, 64, .inl kC)), (q393, .inl (cA, 8, .inl hC)), (q444, .inl (cA, 8200, .inl (fun _ => 0))), (q452, .inl (cA, 32, .inl (fun _ => 0))), (q460, .inl (cA, 64, .inl (fun _ => 0))), (q469, .inl (cA, 8200, .inl (fun _ => 0))), (q477, .inl (cA, 32, .inl (fun _ => 0))), (q486, .inl (cA, 256, .inl (fun _ => 0))), (q494, .inl (cA, 32, .inl (fun _ => 0))), (q502, .inl (cA, 64, .inl (fun _ => 0))), (q510, .inl (cA, 8, .inl (fun _ => 0))), (q518, .inl (cA, 8, .inl (fun _ => 0))), (q527, .inl (cA, 8200, .inl (fun _ => 0)))]) _ := hP
      have hD : va_D _ ([(h0, .inr (3, [.ref q7, .ref q393, .int (nI N), .int 0, .ref q444, .ref q452, .ref q460, .ref q469, .ref q477, .int 0, .int 0, .int 0, .int 0, .ref q486, .int 0, .ref q494, .ref q502, .ref q510, .ref q518, .ref q527])), (q7, .inl (cA, 64, .inl kC)), (q393, .inl (cA, 8, .inl hC)), (q444, .inl (cA, 8200, .inl (fun _ => 0))), (q452, .inl (cA, 32, .inl (fun _ => 0))), (q460, .inl (cA, 64, .inl (fun _ => 0))), (q469, .inl (cA, 8200, .inl (fun _ => 0))), (q477, .inl (cA, 32, .inl (fun _ => 0))), (q486, .inl (cA, 256, .inl (fun _ => 0))), (q494, .inl (cA, 32, .inl (fun _ => 0))), (q502, .inl (cA, 64, .inl (fun _ => 0))), (q510, .inl (cA, 8, .inl (fun _ => 0))), (q518, .inl (cA, 8, .inl (fun _ => 0))), (q527, .inl (cA, 8200, .inl (fun _ => 0)))]) := hD
      obtain ⟨g, e0, e1, e2, e3, e4, e5, e6, e7, e8, e9, e10, e11, e12, e13⟩ : ∃ g : Nat → Nat, g 0 = h0 ∧ g 1 = q7 ∧ g 2 = q393 ∧ g 3 = q444 ∧ g 4 = q452 ∧ g 5 = q460 ∧ g 6 = q469 ∧ g 7 = q477 ∧ g 8 = q486 ∧ g 9 = q494 ∧ g 10 = q502 ∧ g 11 = q510 ∧ g 12 = q518 ∧ g 13 = q527 := ⟨fun q => [h0, q7, q393, q444, q452, q460, q469, q477, q486, q494, q502, q510, q518, q527].getD q 0, rfl, rfl, rfl, rfl, rfl, rfl, rfl, rfl, rfl, rfl, rfl, rfl, rfl, rfl⟩
      subst e0
      subst e1
      subst e2
      subst e3
      subst e4
      subst e5
      subst e6
      subst e7
      subst e8
      subst e9
      subst e10
      subst e11
      subst e12
      subst e13
      have hP := hP.sub (ws' := mW g cA N 0 (fun _ => 0) (fun _ => 0) (fun _ => 0) (fun _ => 0) (fun _ => 0) (fun _ => 0) (fun _ => 0) (fun _ => 0) (fun _ => 0) (fun _ => 0) (fun _ => 0) 0 0 0 0 0) [0, 1, 2, 3, 4, 5, 6, 7, 8, 9, 10, 11, 12, 13] rfl
      have hD := hD.sub (ws' := mW g cA N 0 (fun _ => 0) (fun _ => 0) (fun _ => 0) (fun _ => 0) (fun _ => 0) (fun _ => 0) (fun _ => 0) (fun _ => 0) (fun _ => 0) (fun _ => 0) (fun _ => 0) 0 0 0 0 0) [0, 1, 2, 3, 4, 5, 6, 7, 8, 9, 10, 11, 12, 13] (by decide) rfl
      have hwo := wA_oA (n := 14) rfl hD
      have how : ∀ q, oA (g 0) s.heap.size q → wA g 14 s.heap.size q := fun q z => z.elim (fun z => Or.inl ⟨0, by decide, z⟩) Or.inr
      have hD := hD.weaken (fun _ _ _ z => how _ z)
      have hS := va_S_mono how hS
      have hT := hT.narrow hwo
      have hl : lv_has ls 2 [(0, .ref (g 0)), (1, .int x)] := hl
      refine lv_aload_n hx hb dX3_init_557 rfl (lv_at hl 0 rfl) ?_
      refine lv_aload_n hx hb dX3_init_558 rfl (lv_at hl 0 rfl) ?_
      refine lv_aload_n hx hb dX3_init_559 rfl (lv_at hl 0 rfl) ?_
      refine x_vi ⟨hx, hb, hml, hown, hts⟩ (c_X3_levelsOf l G cA tF tC g _ N hN 0 (fun _ => 0) (fun _ => 0) (fun _ => 0) (fun _ => 0) (fun _ => 0) (fun _ => 0) (fun _ => 0) (fun _ => 0) (fun _ => 0) (fun _ => 0) (fun _ => 0) 0 0 0 0 0 ) (cwV 0 hts gX3_init_X3_levelsOf rfl rfl rfl (by decide +kernel) ⟨Nat.le_of_ble_eq_true rfl, Nat.le_of_ble_eq_true rfl⟩) hK hP hD hS hT rfl 0 3 rfl rfl rfl hl.1 rfl (Nat.le_of_ble_eq_true rfl) dX3_init_560 ⟨Nat.le_refl _, Nat.le_refl _⟩ (fun r_9 u H locs hp_8 hP hD hS => ?_)
      have hP : va_P G vwCl (mW g cA N 0 (fun _ => 0) (fun _ => 0) (fun _ => 0) (fun _ => 0) (fun _ => 0) (fun _ => 0) (fun _ => 0) (fun _ => 0) (fun _ => 0) (fun _ => 0) (fun _ => 0) 0 0 0 0 0) _ := hP
      have hD : va_D _ (mW g cA N 0 (fun _ => 0) (fun _ => 0) (fun _ => 0) (fun _ => 0) (fun _ => 0) (fun _ => 0) (fun _ => 0) (fun _ => 0) (fun _ => 0) (fun _ => 0) (fun _ => 0) 0 0 0 0 0) := hD
      have hp_8 : r_9 = nI (lvs N) := hp_8
      subst hp_8
      refine lv_iconst (v := 0) hx hb dX3_init_563 (by decide) ?_
      refine x_vi ⟨hx, hb, hml, hown, hts⟩ (c_X3_placeOf l G cA tF tC g _ N hN 0 (fun _ => 0) (fun _ => 0) (fun _ => 0) (fun _ => 0) (fun _ => 0) (fun _ => 0) (fun _ => 0) (fun _ => 0) (fun _ => 0) (fun _ => 0) (fun _ => 0) 0 0 0 0 0 (lvs N) 0 (Nat.le_refl _)) (cwV 2 hts gX3_init_X3_placeOf rfl rfl rfl (by decide +kernel) ⟨Nat.le_of_ble_eq_true rfl, Nat.le_of_ble_eq_true rfl⟩) hK hP hD hS hT rfl 0 3 rfl rfl rfl hl.1 rfl (Nat.le_of_ble_eq_true rfl) dX3_init_564 ⟨Nat.le_refl _, Nat.le_refl _⟩ (fun r_11 u H locs hp_10 hP hD hS => ?_)
      have hP : va_P G vwCl (mW g cA N 0 (fun _ => 0) (fun _ => 0) (fun _ => 0) (fun _ => 0) (fun _ => 0) (fun _ => 0) (fun _ => 0) (fun _ => 0) (fun _ => 0) (fun _ => 0) (fun _ => 0) 0 0 0 0 0) _ := hP
      have hD : va_D _ (mW g cA N 0 (fun _ => 0) (fun _ => 0) (fun _ => 0) (fun _ => 0) (fun _ => 0) (fun _ => 0) (fun _ => 0) (fun _ => 0) (fun _ => 0) (fun _ => 0) (fun _ => 0) 0 0 0 0 0) := hD
      have hp_10 : r_11 = nI (plc N (lvs N) 0) := hp_10
      subst hp_10
      refine va_put (D := G) (ci := 3) (v := .int (nI (plc N (lvs N) 0))) (ty := .int) (C := RX3) (T := TX3) (N := 20) hx hb hts hinX3 tyX3 tyX3_ok nmX3 hown hK hP hD hS 0 rfl rfl 3 (by decide) (hts (.fieldLink RX3 133 "SealedPagesModel" "size" "I") (by decide +kernel)) (fun _ h => h) rfl (by decide +kernel) rfl rfl (Nat.le_of_ble_eq_true rfl) dX3_init_567 (fun H locs hP hD hS => ?_)
      have hP : va_P G vwCl (mW g cA N (nI (plc N (lvs N) 0)) (fun _ => 0) (fun _ => 0) (fun _ => 0) (fun _ => 0) (fun _ => 0) (fun _ => 0) (fun _ => 0) (fun _ => 0) (fun _ => 0) (fun _ => 0) (fun _ => 0) 0 0 0 0 0) _ := hP
      have hD : va_D _ (mW g cA N (nI (plc N (lvs N) 0)) (fun _ => 0) (fun _ => 0) (fun _ => 0) (fun _ => 0) (fun _ => 0) (fun _ => 0) (fun _ => 0) (fun _ => 0) (fun _ => 0) (fun _ => 0) (fun _ => 0) 0 0 0 0 0) := hD
      have hP : va_P G vwCl (mW g cA N (nI (siz N)) (fun _ => 0) (fun _ => 0) (fun _ => 0) (fun _ => 0) (fun _ => 0) (fun _ => 0) (fun _ => 0) (fun _ => 0) (fun _ => 0) (fun _ => 0) (fun _ => 0) 0 0 0 0 0) _ := hP
      have hD : va_D _ (mW g cA N (nI (siz N)) (fun _ => 0) (fun _ => 0) (fun _ => 0) (fun _ => 0) (fun _ => 0) (fun _ => 0) (fun _ => 0) (fun _ => 0) (fun _ => 0) (fun _ => 0) (fun _ => 0) 0 0 0 0 0) := hD
      refine lv_aload_n hx hb dX3_init_570 rfl (lv_at hl 0 rfl) ?_
      refine x_vi ⟨hx, hb, hml, hown, hts⟩ (c_X3_seal l G cA tF tC g _ N hN (fun _ => 0) (fun _ => 0) (fun _ => 0) (fun _ => 0) (fun _ => 0) (fun _ => 0) (fun _ => 0) (fun _ => 0) (fun _ => 0) (fun _ => 0) (fun _ => 0) 0 0 0 0 0 ) (cwV 0 hts gX3_init_X3_seal rfl rfl rfl (by decide +kernel) ⟨Nat.le_of_ble_eq_true rfl, Nat.le_of_ble_eq_true rfl⟩) hK hP hD hS hT rfl 0 3 rfl rfl rfl hl.1 rfl (Nat.le_of_ble_eq_true rfl) dX3_init_571 ⟨Nat.le_refl _, Nat.le_refl _⟩ (fun r_12 u H locs hp1 hP hD hS => ?_)
      obtain ⟨RW1, OU1, WO1, ST1, WK1, ln1⟩ := u
      have hP : va_P G vwCl (mW g cA N (nI (siz N)) (sAll N (fun _ => 0)) (sRoot N (sAll N (fun _ => 0)) (fun _ => 0)) (fun _ => 0) (fun _ => 0) (fun _ => 0) RW1 OU1 WO1 ST1 WK1 (fun _ => 0) ln1 0 0 0 0) _ := hP
      have hD : va_D _ (mW g cA N (nI (siz N)) (sAll N (fun _ => 0)) (sRoot N (sAll N (fun _ => 0)) (fun _ => 0)) (fun _ => 0) (fun _ => 0) (fun _ => 0) RW1 OU1 WO1 ST1 WK1 (fun _ => 0) ln1 0 0 0 0) := hD
      have hp1 : r_12 = nI (nds N) := hp1
      subst hp1
      refine lv_pop hx hb dX3_init_574 rfl ?_
      have hS := va_S_mono hwo hS
      have hD := hD.weaken (fun _ _ _ z => hwo _ z)
      subst eN1
      exact hret (g, RW1, OU1, WO1, ST1, WK1, ln1) _ _ _ _ dX3_init_575 hP hD hS rfl
  · skip
    have hv : (1 : Int32) = nI (clN x) := by rw [clN_1 (Int32.not_le.mp c_1)]; rfl
    refine lv_iconst (v := 1) hx hb dX3_init_538 (by decide) ?_
    refine lv_goto (tgt := 554) hx hb dX3_init_539 (by decide) ?_
    refine x_eqi (y := nI N) (by rw [eN1]; exact hv) ?_
    refine va_put (D := G) (ci := 3) (v := .int (nI N)) (ty := .int) (C := RX3) (T := TX3) (N := 20) hx hb hts hinX3 tyX3 tyX3_ok nmX3 hown hK hP hD hS 0 rfl rfl 2 (by decide) (hts (.fieldLink RX3 121 "SealedPagesModel" "pages" "I") (by decide +kernel)) (fun _ h => h) rfl (by decide +kernel) rfl rfl (Nat.le_of_ble_eq_true rfl) dX3_init_554 (fun H locs hP hD hS => ?_)
    have hP : va_P G vwCl ([(h0, .inr (3, [.ref q7, .ref q393, .int (nI N), .int 0, .ref q444, .ref q452, .ref q460, .ref q469, .ref q477, .int 0, .int 0, .int 0, .int 0, .ref q486, .int 0, .ref q494, .ref q502, .ref q510, .ref q518, .ref q527])), (q7, .inl (cA, 64, .inl kC)), (q393, .inl (cA, 8, .inl hC)), (q444, .inl (cA, 8200, .inl (fun _ => 0))), (q452, .inl (cA, 32, .inl (fun _ => 0))), (q460, .inl (cA, 64, .inl (fun _ => 0))), (q469, .inl (cA, 8200, .inl (fun _ => 0))), (q477, .inl (cA, 32, .inl (fun _ => 0))), (q486, .inl (cA, 256, .inl (fun _ => 0))), (q494, .inl (cA, 32, .inl (fun _ => 0))), (q502, .inl (cA, 64, .inl (fun _ => 0))), (q510, .inl (cA, 8, .inl (fun _ => 0))), (q518, .inl (cA, 8, .inl (fun _ => 0))), (q527, .inl (cA, 8200, .inl (fun _ => 0)))]) _ := hP
    have hD : va_D _ ([(h0, .inr (3, [.ref q7, .ref q393, .int (nI N), .int 0, .ref q444, .ref q452, .ref q460, .ref q469, .ref q477, .int 0, .int 0, .int 0, .int 0, .ref q486, .int 0, .ref q494, .ref q502, .ref q510, .ref q518, .ref q527])), (q7, .inl (cA, 64, .inl kC)), (q393, .inl (cA, 8, .inl hC)), (q444, .inl (cA, 8200, .inl (fun _ => 0))), (q452, .inl (cA, 32, .inl (fun _ => 0))), (q460, .inl (cA, 64, .inl (fun _ => 0))), (q469, .inl (cA, 8200, .inl (fun _ => 0))), (q477, .inl (cA, 32, .inl (fun _ => 0))), (q486, .inl (cA, 256, .inl (fun _ => 0))), (q494, .inl (cA, 32, .inl (fun _ => 0))), (q502, .inl (cA, 64, .inl (fun _ => 0))), (q510, .inl (cA, 8, .inl (fun _ => 0))), (q518, .inl (cA, 8, .inl (fun _ => 0))), (q527, .inl (cA, 8200, .inl (fun _ => 0)))]) := hD
    obtain ⟨g, e0, e1, e2, e3, e4, e5, e6, e7, e8, e9, e10, e11, e12, e13⟩ : ∃ g : Nat → Nat, g 0 = h0 ∧ g 1 = q7 ∧ g 2 = q393 ∧ g 3 = q444 ∧ g 4 = q452 ∧ g 5 = q460 ∧ g 6 = q469 ∧ g 7 = q477 ∧ g 8 = q486 ∧ g 9 = q494 ∧ g 10 = q502 ∧ g 11 = q510 ∧ g 12 = q518 ∧ g 13 = q527 := ⟨fun q => [h0, q7, q393, q444, q452, q460, q469, q477, q486, q494, q502, q510, q518, q527].getD q 0, rfl, rfl, rfl, rfl, rfl, rfl, rfl, rfl, rfl, rfl, rfl, rfl, rfl, rfl⟩
    subst e0
    subst e1
    subst e2
    subst e3
    subst e4
    subst e5
    subst e6
    subst e7
    subst e8
    subst e9
    subst e10
    subst e11
    subst e12
    subst e13
    have hP := hP.sub (ws' := mW g cA N 0 (fun _ => 0) (fun _ => 0) (fun _ => 0) (fun _ => 0) (fun _ => 0) (fun _ => 0) (fun _ => 0) (fun _ => 0) (fun _ => 0) (fun _ => 0) (fun _ => 0) 0 0 0 0 0) [0, 1, 2, 3, 4, 5, 6, 7, 8, 9, 10, 11, 12, 13] rfl
    have hD := hD.sub (ws' := mW g cA N 0 (fun _ => 0) (fun _ => 0) (fun _ => 0) (fun _ => 0) (fun _ => 0) (fun _ => 0) (fun _ => 0) (fun _ => 0) (fun _ => 0) (fun _ => 0) (fun _ => 0) 0 0 0 0 0) [0, 1, 2, 3, 4, 5, 6, 7, 8, 9, 10, 11, 12, 13] (by decide) rfl
    have hwo := wA_oA (n := 14) rfl hD
    have how : ∀ q, oA (g 0) s.heap.size q → wA g 14 s.heap.size q := fun q z => z.elim (fun z => Or.inl ⟨0, by decide, z⟩) Or.inr
    have hD := hD.weaken (fun _ _ _ z => how _ z)
    have hS := va_S_mono how hS
    have hT := hT.narrow hwo
    have hl : lv_has ls 2 [(0, .ref (g 0)), (1, .int x)] := hl
    refine lv_aload_n hx hb dX3_init_557 rfl (lv_at hl 0 rfl) ?_
    refine lv_aload_n hx hb dX3_init_558 rfl (lv_at hl 0 rfl) ?_
    refine lv_aload_n hx hb dX3_init_559 rfl (lv_at hl 0 rfl) ?_
    refine x_vi ⟨hx, hb, hml, hown, hts⟩ (c_X3_levelsOf l G cA tF tC g _ N hN 0 (fun _ => 0) (fun _ => 0) (fun _ => 0) (fun _ => 0) (fun _ => 0) (fun _ => 0) (fun _ => 0) (fun _ => 0) (fun _ => 0) (fun _ => 0) (fun _ => 0) 0 0 0 0 0 ) (cwV 0 hts gX3_init_X3_levelsOf rfl rfl rfl (by decide +kernel) ⟨Nat.le_of_ble_eq_true rfl, Nat.le_of_ble_eq_true rfl⟩) hK hP hD hS hT rfl 0 3 rfl rfl rfl hl.1 rfl (Nat.le_of_ble_eq_true rfl) dX3_init_560 ⟨Nat.le_refl _, Nat.le_refl _⟩ (fun r_14 u H locs hp_13 hP hD hS => ?_)
    have hP : va_P G vwCl (mW g cA N 0 (fun _ => 0) (fun _ => 0) (fun _ => 0) (fun _ => 0) (fun _ => 0) (fun _ => 0) (fun _ => 0) (fun _ => 0) (fun _ => 0) (fun _ => 0) (fun _ => 0) 0 0 0 0 0) _ := hP
    have hD : va_D _ (mW g cA N 0 (fun _ => 0) (fun _ => 0) (fun _ => 0) (fun _ => 0) (fun _ => 0) (fun _ => 0) (fun _ => 0) (fun _ => 0) (fun _ => 0) (fun _ => 0) (fun _ => 0) 0 0 0 0 0) := hD
    have hp_13 : r_14 = nI (lvs N) := hp_13
    subst hp_13
    refine lv_iconst (v := 0) hx hb dX3_init_563 (by decide) ?_
    refine x_vi ⟨hx, hb, hml, hown, hts⟩ (c_X3_placeOf l G cA tF tC g _ N hN 0 (fun _ => 0) (fun _ => 0) (fun _ => 0) (fun _ => 0) (fun _ => 0) (fun _ => 0) (fun _ => 0) (fun _ => 0) (fun _ => 0) (fun _ => 0) (fun _ => 0) 0 0 0 0 0 (lvs N) 0 (Nat.le_refl _)) (cwV 2 hts gX3_init_X3_placeOf rfl rfl rfl (by decide +kernel) ⟨Nat.le_of_ble_eq_true rfl, Nat.le_of_ble_eq_true rfl⟩) hK hP hD hS hT rfl 0 3 rfl rfl rfl hl.1 rfl (Nat.le_of_ble_eq_true rfl) dX3_init_564 ⟨Nat.le_refl _, Nat.le_refl _⟩ (fun r_16 u H locs hp_15 hP hD hS => ?_)
    have hP : va_P G vwCl (mW g cA N 0 (fun _ => 0) (fun _ => 0) (fun _ => 0) (fun _ => 0) (fun _ => 0) (fun _ => 0) (fun _ => 0) (fun _ => 0) (fun _ => 0) (fun _ => 0) (fun _ => 0) 0 0 0 0 0) _ := hP
    have hD : va_D _ (mW g cA N 0 (fun _ => 0) (fun _ => 0) (fun _ => 0) (fun _ => 0) (fun _ => 0) (fun _ => 0) (fun _ => 0) (fun _ => 0) (fun _ => 0) (fun _ => 0) (fun _ => 0) 0 0 0 0 0) := hD
    have hp_15 : r_16 = nI (plc N (lvs N) 0) := hp_15
    subst hp_15
    refine va_put (D := G) (ci := 3) (v := .int (nI (plc N (lvs N) 0))) (ty := .int) (C := RX3) (T := TX3) (N := 20) hx hb hts hinX3 tyX3 tyX3_ok nmX3 hown hK hP hD hS 0 rfl rfl 3 (by decide) (hts (.fieldLink RX3 133 "SealedPagesModel" "size" "I") (by decide +kernel)) (fun _ h => h) rfl (by decide +kernel) rfl rfl (Nat.le_of_ble_eq_true rfl) dX3_init_567 (fun H locs hP hD hS => ?_)
    have hP : va_P G vwCl (mW g cA N (nI (plc N (lvs N) 0)) (fun _ => 0) (fun _ => 0) (fun _ => 0) (fun _ => 0) (fun _ => 0) (fun _ => 0) (fun _ => 0) (fun _ => 0) (fun _ => 0) (fun _ => 0) (fun _ => 0) 0 0 0 0 0) _ := hP
    have hD : va_D _ (mW g cA N (nI (plc N (lvs N) 0)) (fun _ => 0) (fun _ => 0) (fun _ => 0) (fun _ => 0) (fun _ => 0) (fun _ => 0) (fun _ => 0) (fun _ => 0) (fun _ => 0) (fun _ => 0) (fun _ => 0) 0 0 0 0 0) := hD
    have hP : va_P G vwCl (mW g cA N (nI (siz N)) (fun _ => 0) (fun _ => 0) (fun _ => 0) (fun _ => 0) (fun _ => 0) (fun _ => 0) (fun _ => 0) (fun _ => 0) (fun _ => 0) (fun _ => 0) (fun _ => 0) 0 0 0 0 0) _ := hP
    have hD : va_D _ (mW g cA N (nI (siz N)) (fun _ => 0) (fun _ => 0) (fun _ => 0) (fun _ => 0) (fun _ => 0) (fun _ => 0) (fun _ => 0) (fun _ => 0) (fun _ => 0) (fun _ => 0) (fun _ => 0) 0 0 0 0 0) := hD
    refine lv_aload_n hx hb dX3_init_570 rfl (lv_at hl 0 rfl) ?_
    refine x_vi ⟨hx, hb, hml, hown, hts⟩ (c_X3_seal l G cA tF tC g _ N hN (fun _ => 0) (fun _ => 0) (fun _ => 0) (fun _ => 0) (fun _ => 0) (fun _ => 0) (fun _ => 0) (fun _ => 0) (fun _ => 0) (fun _ => 0) (fun _ => 0) 0 0 0 0 0 ) (cwV 0 hts gX3_init_X3_seal rfl rfl rfl (by decide +kernel) ⟨Nat.le_of_ble_eq_true rfl, Nat.le_of_ble_eq_true rfl⟩) hK hP hD hS hT rfl 0 3 rfl rfl rfl hl.1 rfl (Nat.le_of_ble_eq_true rfl) dX3_init_571 ⟨Nat.le_refl _, Nat.le_refl _⟩ (fun r_17 u H locs hp1 hP hD hS => ?_)
    obtain ⟨RW1, OU1, WO1, ST1, WK1, ln1⟩ := u
    have hP : va_P G vwCl (mW g cA N (nI (siz N)) (sAll N (fun _ => 0)) (sRoot N (sAll N (fun _ => 0)) (fun _ => 0)) (fun _ => 0) (fun _ => 0) (fun _ => 0) RW1 OU1 WO1 ST1 WK1 (fun _ => 0) ln1 0 0 0 0) _ := hP
    have hD : va_D _ (mW g cA N (nI (siz N)) (sAll N (fun _ => 0)) (sRoot N (sAll N (fun _ => 0)) (fun _ => 0)) (fun _ => 0) (fun _ => 0) (fun _ => 0) RW1 OU1 WO1 ST1 WK1 (fun _ => 0) ln1 0 0 0 0) := hD
    have hp1 : r_17 = nI (nds N) := hp1
    subst hp1
    refine lv_pop hx hb dX3_init_574 rfl ?_
    have hS := va_S_mono hwo hS
    have hD := hD.weaken (fun _ _ _ z => hwo _ z)
    subst eN1
    exact hret (g, RW1, OU1, WO1, ST1, WK1, ln1) _ _ _ _ dX3_init_575 hP hD hS rfl
