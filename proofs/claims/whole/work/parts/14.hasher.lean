set_option maxHeartbeats 4000000 in
set_option maxRecDepth 100000 in
/-- the block is spread to 64 words -/
theorem c_X0_spreadWords (l : Launch) (G : va_G) (cA : ClassId) (tF tC : Nat) (g : Nat → Nat) (sz N : Nat) (hN : 1 ≤ N ∧ N ≤ 64) (D R F KD KR FL SU WO : Nat → Int32) (ln kp rd wr ft : Int32)  : CV l yX0_spreadWords wsX0_spreadWords 0 0 G cA tF tC g 13 sz (xW g cA N D R F KD KR FL SU WO ln kp rd wr ft) [.ref (g 2)] (fun (u : Unit) => xW g cA N D R F KD KR FL SU (spr WO 48) ln kp rd wr ft) (fun _ => True) := by
  refine x_entryV (cc := cX0_spreadWords) (maxL := 6) (by decide) rfl (fun _ => rfl) (Nat.le_of_ble_eq_true rfl) ?_
  intro p e s m args below meth c Q hx hb hml hown hts hK hP hD hS hT hret ls hl
  have hown : s.vm.findClass RX0 = some m.cls := hown
  have hl : lv_has ls 6 [(0, .ref (g 2))] := hl
  have hinX0 : ∀ w ∈ wsX00, w ∈ wsX0_spreadWords := by decide +kernel
  refine lv_bipush (v := 16) hx hb dX0_spreadWords_0 (by decide) ?_
  refine lv_istore_n (lv' := [(1, .int 16), (0, .ref (g 2))]) hx hb dX0_spreadWords_2 rfl hl (by decide) rfl (fun ls hl => ?_)
  have loop_3 : ∀ (n_3 : Nat) (zj : Nat), (48 - zj) < n_3 → zj ≤ 48 → ∀ (H : Heap) (locs : List Loc) (ls : Array Slot), va_P G vwCl (xW g cA N D R F KD KR FL SU (spr WO zj) ln kp rd wr ft) H → va_D (wA g 13 s.heap.size) (xW g cA N D R F KD KR FL SU (spr WO zj) ln kp rd wr ft) → va_S (wA g 13 s.heap.size) s.heap H locs → lv_has ls 6 [(0, .ref (g 2)), (1, .int (nI (16 + zj)))] → W p l e { frames := 0, cells := 0, slots := 0, locals := 0 } s m args below meth c H locs 0 0 Q (F0 m 3 ls []) := by
    intro n_3
    induction n_3 with
    | zero => intro zj hm_3; exact absurd hm_3 (Nat.not_lt_zero _)
    | succ n_3 ih_3 =>
      intro zj hm_3 hj H locs ls hP hD hS hl
      refine lv_iload_n hx hb dX0_spreadWords_3 rfl (lv_at hl 1 rfl) ?_
      refine lv_bipush (v := 64) hx hb dX0_spreadWords_4 (by decide) ?_
      refine lv_icmp_ge (tgt := 116) hx hb dX0_spreadWords_6 (by decide) (fun c_1 => ?_) (fun c_1 => ?_)
      · skip
        have c_1 : 64 ≤ (16 + zj) := (nI_leI (a := 64) (b := (16 + zj)) (by omega) (by omega)).mp c_1
        obtain rfl : zj = 48 := by omega
        have hl : lv_has ls 6 [(0, .ref (g 2)), (1, .int (nI (16 + 48)))] := hl
        exact hret () _ _ _ _ dX0_spreadWords_116 hP hD hS trivial
      · skip
        have c_1 : ¬ 64 ≤ (16 + zj) := fun z => c_1 ((nI_leI (a := 64) (b := (16 + zj)) (by omega) (by omega)).mpr z)
        refine lv_aload_n hx hb dX0_spreadWords_9 rfl (lv_at hl 0 rfl) ?_
        refine va_get (D := G) (ci := 0) (v := .ref (g 12)) (C := RX0) (T := TX0) (N := 3) hx hb hts hinX0 hown hK hP 2 rfl rfl 1 (by decide) (hts (.fieldLink RX0 15 "SealedPages$Hasher" "words" "[I") (by decide +kernel)) (fun _ h => h) rfl dX0_spreadWords_10 ?_
        refine lv_iload_n hx hb dX0_spreadWords_13 rfl (lv_at hl 1 rfl) ?_
        refine lv_bipush (v := 15) hx hb dX0_spreadWords_14 (by decide) ?_
        refine lv_isub hx hb dX0_spreadWords_16 ?_
        refine x_eqi (y := nI ((16 + zj) - 15)) (pk_sub (a := 16 + zj) (b := 15) (by omega)) ?_
        refine x_ald (i := (16 + zj) - 15) hx hb hK hP 12 0 rfl rfl (by omega) (by decide) dX0_spreadWords_17 ?_
        refine lv_topi (fun x2_2 ex2_2 => ?_)
        refine lv_istore_n (lv' := [(2, .int x2_2), (0, .ref (g 2)), (1, .int (nI (16 + zj)))]) hx hb dX0_spreadWords_18 rfl hl (by decide) rfl (fun ls hl => ?_)
        refine lv_aload_n hx hb dX0_spreadWords_19 rfl (lv_at hl 1 rfl) ?_
        refine va_get (D := G) (ci := 0) (v := .ref (g 12)) (C := RX0) (T := TX0) (N := 3) hx hb hts hinX0 hown hK hP 2 rfl rfl 1 (by decide) (hts (.fieldLink RX0 15 "SealedPages$Hasher" "words" "[I") (by decide +kernel)) (fun _ h => h) rfl dX0_spreadWords_20 ?_
        refine lv_iload_n hx hb dX0_spreadWords_23 rfl (lv_at hl 2 rfl) ?_
        refine lv_iconst (v := 2) hx hb dX0_spreadWords_24 (by decide) ?_
        refine lv_isub hx hb dX0_spreadWords_25 ?_
        refine x_eqi (y := nI ((16 + zj) - 2)) (pk_sub (a := 16 + zj) (b := 2) (by omega)) ?_
        refine x_ald (i := (16 + zj) - 2) hx hb hK hP 12 0 rfl rfl (by omega) (by decide) dX0_spreadWords_26 ?_
        refine lv_topi (fun x3_3 ex3_3 => ?_)
        refine lv_istore_n (lv' := [(3, .int x3_3), (2, .int x2_2), (0, .ref (g 2)), (1, .int (nI (16 + zj)))]) hx hb dX0_spreadWords_27 rfl hl (by decide) rfl (fun ls hl => ?_)
        refine lv_iload_n hx hb dX0_spreadWords_28 rfl (lv_at hl 1 rfl) ?_
        refine lv_bipush (v := 7) hx hb dX0_spreadWords_29 (by decide) ?_
        refine lv_iushr (v := us x2_2 7) hx hb dX0_spreadWords_31 rfl ?_
        refine lv_iload_n hx hb dX0_spreadWords_32 rfl (lv_at hl 1 rfl) ?_
        refine lv_bipush (v := 25) hx hb dX0_spreadWords_33 (by decide) ?_
        refine lv_ishl hx hb dX0_spreadWords_35 ?_
        refine x_eqi (y := sl x2_2 25) rfl ?_
        refine lv_ior hx hb dX0_spreadWords_36 ?_
        refine lv_iload_n hx hb dX0_spreadWords_37 rfl (lv_at hl 1 rfl) ?_
        refine lv_bipush (v := 18) hx hb dX0_spreadWords_38 (by decide) ?_
        refine lv_iushr (v := us x2_2 18) hx hb dX0_spreadWords_40 rfl ?_
        refine lv_iload_n hx hb dX0_spreadWords_41 rfl (lv_at hl 1 rfl) ?_
        refine lv_bipush (v := 14) hx hb dX0_spreadWords_42 (by decide) ?_
        refine lv_ishl hx hb dX0_spreadWords_44 ?_
        refine x_eqi (y := sl x2_2 14) rfl ?_
        refine lv_ior hx hb dX0_spreadWords_45 ?_
        refine lv_ixor hx hb dX0_spreadWords_46 ?_
        refine lv_iload_n hx hb dX0_spreadWords_47 rfl (lv_at hl 1 rfl) ?_
        refine lv_iconst (v := 3) hx hb dX0_spreadWords_48 (by decide) ?_
        refine lv_iushr (v := us x2_2 3) hx hb dX0_spreadWords_49 rfl ?_
        refine lv_ixor hx hb dX0_spreadWords_50 ?_
        refine lv_topi (fun x4_4 ex4_4 => ?_)
        refine lv_istore (lv' := [(4, .int x4_4), (3, .int x3_3), (2, .int x2_2), (0, .ref (g 2)), (1, .int (nI (16 + zj)))]) hx hb dX0_spreadWords_51 hl (by decide) rfl (fun ls hl => ?_)
        refine lv_iload_n hx hb dX0_spreadWords_53 rfl (lv_at hl 1 rfl) ?_
        refine lv_bipush (v := 17) hx hb dX0_spreadWords_54 (by decide) ?_
        refine lv_iushr (v := us x3_3 17) hx hb dX0_spreadWords_56 rfl ?_
        refine lv_iload_n hx hb dX0_spreadWords_57 rfl (lv_at hl 1 rfl) ?_
        refine lv_bipush (v := 15) hx hb dX0_spreadWords_58 (by decide) ?_
        refine lv_ishl hx hb dX0_spreadWords_60 ?_
        refine x_eqi (y := sl x3_3 15) rfl ?_
        refine lv_ior hx hb dX0_spreadWords_61 ?_
        refine lv_iload_n hx hb dX0_spreadWords_62 rfl (lv_at hl 1 rfl) ?_
        refine lv_bipush (v := 19) hx hb dX0_spreadWords_63 (by decide) ?_
        refine lv_iushr (v := us x3_3 19) hx hb dX0_spreadWords_65 rfl ?_
        refine lv_iload_n hx hb dX0_spreadWords_66 rfl (lv_at hl 1 rfl) ?_
        refine lv_bipush (v := 13) hx hb dX0_spreadWords_67 (by decide) ?_
        refine lv_ishl hx hb dX0_spreadWords_69 ?_
        refine x_eqi (y := sl x3_3 13) rfl ?_
        refine lv_ior hx hb dX0_spreadWords_70 ?_
        refine lv_ixor hx hb dX0_spreadWords_71 ?_
        refine lv_iload_n hx hb dX0_spreadWords_72 rfl (lv_at hl 1 rfl) ?_
        refine lv_bipush (v := 10) hx hb dX0_spreadWords_73 (by decide) ?_
        refine lv_iushr (v := us x3_3 10) hx hb dX0_spreadWords_75 rfl ?_
        refine lv_ixor hx hb dX0_spreadWords_76 ?_
        refine lv_topi (fun x5_5 ex5_5 => ?_)
        refine lv_istore (lv' := [(5, .int x5_5), (4, .int x4_4), (3, .int x3_3), (2, .int x2_2), (0, .ref (g 2)), (1, .int (nI (16 + zj)))]) hx hb dX0_spreadWords_77 hl (by decide) rfl (fun ls hl => ?_)
        refine lv_aload_n hx hb dX0_spreadWords_79 rfl (lv_at hl 4 rfl) ?_
        refine va_get (D := G) (ci := 0) (v := .ref (g 12)) (C := RX0) (T := TX0) (N := 3) hx hb hts hinX0 hown hK hP 2 rfl rfl 1 (by decide) (hts (.fieldLink RX0 15 "SealedPages$Hasher" "words" "[I") (by decide +kernel)) (fun _ h => h) rfl dX0_spreadWords_80 ?_
        refine lv_iload_n hx hb dX0_spreadWords_83 rfl (lv_at hl 5 rfl) ?_
        refine lv_aload_n hx hb dX0_spreadWords_84 rfl (lv_at hl 4 rfl) ?_
        refine va_get (D := G) (ci := 0) (v := .ref (g 12)) (C := RX0) (T := TX0) (N := 3) hx hb hts hinX0 hown hK hP 2 rfl rfl 1 (by decide) (hts (.fieldLink RX0 15 "SealedPages$Hasher" "words" "[I") (by decide +kernel)) (fun _ h => h) rfl dX0_spreadWords_85 ?_
        refine lv_iload_n hx hb dX0_spreadWords_88 rfl (lv_at hl 5 rfl) ?_
        refine lv_bipush (v := 16) hx hb dX0_spreadWords_89 (by decide) ?_
        refine lv_isub hx hb dX0_spreadWords_91 ?_
        refine x_eqi (y := nI ((16 + zj) - 16)) (pk_sub (a := 16 + zj) (b := 16) (by omega)) ?_
        refine x_ald (i := (16 + zj) - 16) hx hb hK hP 12 0 rfl rfl (by omega) (by decide) dX0_spreadWords_92 ?_
        refine lv_iload hx hb dX0_spreadWords_93 (lv_at hl 1 rfl) ?_
        refine lv_iadd hx hb dX0_spreadWords_95 ?_
        refine lv_aload_n hx hb dX0_spreadWords_96 rfl (lv_at hl 4 rfl) ?_
        refine va_get (D := G) (ci := 0) (v := .ref (g 12)) (C := RX0) (T := TX0) (N := 3) hx hb hts hinX0 hown hK hP 2 rfl rfl 1 (by decide) (hts (.fieldLink RX0 15 "SealedPages$Hasher" "words" "[I") (by decide +kernel)) (fun _ h => h) rfl dX0_spreadWords_97 ?_
        refine lv_iload_n hx hb dX0_spreadWords_100 rfl (lv_at hl 5 rfl) ?_
        refine lv_bipush (v := 7) hx hb dX0_spreadWords_101 (by decide) ?_
        refine lv_isub hx hb dX0_spreadWords_103 ?_
        refine x_eqi (y := nI ((16 + zj) - 7)) (pk_sub (a := 16 + zj) (b := 7) (by omega)) ?_
        refine x_ald (i := (16 + zj) - 7) hx hb hK hP 12 0 rfl rfl (by omega) (by decide) dX0_spreadWords_104 ?_
        refine lv_iadd hx hb dX0_spreadWords_105 ?_
        refine lv_iload hx hb dX0_spreadWords_106 (lv_at hl 0 rfl) ?_
        refine lv_iadd hx hb dX0_spreadWords_108 ?_
        refine x_ast (i := 16 + zj) hx hb hK hP hD hS 12 0 rfl rfl (by omega) (by decide) dX0_spreadWords_109 (fun H locs hP hD hS => ?_)
        have hP : va_P G vwCl (xW g cA N D R F KD KR FL SU (upd (spr WO zj) (16 + zj) (((((spr WO zj) ((16 + zj) - 16)) + x4_4) + ((spr WO zj) ((16 + zj) - 7))) + x5_5)) ln kp rd wr ft) _ := hP
        have hD : va_D _ (xW g cA N D R F KD KR FL SU (upd (spr WO zj) (16 + zj) (((((spr WO zj) ((16 + zj) - 16)) + x4_4) + ((spr WO zj) ((16 + zj) - 7))) + x5_5)) ln kp rd wr ft) := hD
        have ec_6 : upd (spr WO zj) (16 + zj) (((((spr WO zj) ((16 + zj) - 16)) + x4_4) + ((spr WO zj) ((16 + zj) - 7))) + x5_5) = spr WO (zj + 1) := by subst_vars; rw [spr_s]; unfold sprS sg0 sg1; rw [r_7, r_18, r_17, r_19]
        rw [ec_6] at hP hD
        refine lv_iinc (v := nI (16 + (zj + 1))) (lv' := [(1, .int (nI (16 + (zj + 1)))), (5, .int x5_5), (4, .int x4_4), (3, .int x3_3), (2, .int x2_2), (0, .ref (g 2))]) hx hb dX0_spreadWords_110 hl (k := 5) rfl (nI_1 _) (by decide) rfl (fun ls hl => ?_)
        refine lv_goto (tgt := 3) hx hb dX0_spreadWords_113 (by decide) ?_
        exact ih_3 (zj + 1) (by omega) (by omega) _ _ _ hP hD hS (lv_sub hl [5, 0] rfl)
  exact loop_3 _ 0 (Nat.lt_succ_self _) (by omega) _ _ _ hP hD hS (lv_sub hl [1, 0] rfl)

set_option maxHeartbeats 4000000 in
set_option maxRecDepth 100000 in
/-- the spread block is mixed into the sums -/
theorem c_X0_mixBlock (l : Launch) (G : va_G) (cA : ClassId) (tF tC : Nat) (g : Nat → Nat) (sz N : Nat) (hN : 1 ≤ N ∧ N ≤ 64) (D R F KD KR FL SU WO : Nat → Int32) (ln kp rd wr ft : Int32)  : CV l yX0_mixBlock wsX0_mixBlock 0 0 G cA tF tC g 13 sz (xW g cA N D R F KD KR FL SU WO ln kp rd wr ft) [.ref (g 2)] (fun (u : Nat → Int32) => xW g cA N D R F KD KR FL u WO ln kp rd wr ft) (fun u => ag 8 u (cmp SU WO)) := by
  refine x_entryV (cc := cX0_mixBlock) (maxL := 14) (by decide) rfl (fun _ => rfl) (Nat.le_of_ble_eq_true rfl) ?_
  intro p e s m args below meth c Q hx hb hml hown hts hK hP hD hS hT hret ls hl
  have hown : s.vm.findClass RX0 = some m.cls := hown
  have hl : lv_has ls 14 [(0, .ref (g 2))] := hl
  have hinX0 : ∀ w ∈ wsX00, w ∈ wsX0_mixBlock := by decide +kernel
  refine lv_aload_n hx hb dX0_mixBlock_0 rfl (lv_at hl 0 rfl) ?_
  refine va_get (D := G) (ci := 0) (v := .ref (g 11)) (C := RX0) (T := TX0) (N := 3) hx hb hts hinX0 hown hK hP 2 rfl rfl 0 (by decide) (hts (.fieldLink RX0 9 "SealedPages$Hasher" "sums" "[I") (by decide +kernel)) (fun _ h => h) rfl dX0_mixBlock_1 ?_
  refine lv_iconst (v := 0) hx hb dX0_mixBlock_4 (by decide) ?_
  refine x_ald (i := 0) hx hb hK hP 11 0 rfl rfl (by omega) (by decide) dX0_mixBlock_5 ?_
  refine lv_istore_n (lv' := [(1, .int (SU 0)), (0, .ref (g 2))]) hx hb dX0_mixBlock_6 rfl hl (by decide) rfl (fun ls hl => ?_)
  refine lv_aload_n hx hb dX0_mixBlock_7 rfl (lv_at hl 1 rfl) ?_
  refine va_get (D := G) (ci := 0) (v := .ref (g 11)) (C := RX0) (T := TX0) (N := 3) hx hb hts hinX0 hown hK hP 2 rfl rfl 0 (by decide) (hts (.fieldLink RX0 9 "SealedPages$Hasher" "sums" "[I") (by decide +kernel)) (fun _ h => h) rfl dX0_mixBlock_8 ?_
  refine lv_iconst (v := 1) hx hb dX0_mixBlock_11 (by decide) ?_
  refine x_ald (i := 1) hx hb hK hP 11 0 rfl rfl (by omega) (by decide) dX0_mixBlock_12 ?_
  refine lv_istore_n (lv' := [(2, .int (SU 1)), (1, .int (SU 0)), (0, .ref (g 2))]) hx hb dX0_mixBlock_13 rfl hl (by decide) rfl (fun ls hl => ?_)
  refine lv_aload_n hx hb dX0_mixBlock_14 rfl (lv_at hl 2 rfl) ?_
  refine va_get (D := G) (ci := 0) (v := .ref (g 11)) (C := RX0) (T := TX0) (N := 3) hx hb hts hinX0 hown hK hP 2 rfl rfl 0 (by decide) (hts (.fieldLink RX0 9 "SealedPages$Hasher" "sums" "[I") (by decide +kernel)) (fun _ h => h) rfl dX0_mixBlock_15 ?_
  refine lv_iconst (v := 2) hx hb dX0_mixBlock_18 (by decide) ?_
  refine x_ald (i := 2) hx hb hK hP 11 0 rfl rfl (by omega) (by decide) dX0_mixBlock_19 ?_
  refine lv_istore_n (lv' := [(3, .int (SU 2)), (2, .int (SU 1)), (1, .int (SU 0)), (0, .ref (g 2))]) hx hb dX0_mixBlock_20 rfl hl (by decide) rfl (fun ls hl => ?_)
  refine lv_aload_n hx hb dX0_mixBlock_21 rfl (lv_at hl 3 rfl) ?_
  refine va_get (D := G) (ci := 0) (v := .ref (g 11)) (C := RX0) (T := TX0) (N := 3) hx hb hts hinX0 hown hK hP 2 rfl rfl 0 (by decide) (hts (.fieldLink RX0 9 "SealedPages$Hasher" "sums" "[I") (by decide +kernel)) (fun _ h => h) rfl dX0_mixBlock_22 ?_
  refine lv_iconst (v := 3) hx hb dX0_mixBlock_25 (by decide) ?_
  refine x_ald (i := 3) hx hb hK hP 11 0 rfl rfl (by omega) (by decide) dX0_mixBlock_26 ?_
  refine lv_istore (lv' := [(4, .int (SU 3)), (3, .int (SU 2)), (2, .int (SU 1)), (1, .int (SU 0)), (0, .ref (g 2))]) hx hb dX0_mixBlock_27 hl (by decide) rfl (fun ls hl => ?_)
  refine lv_aload_n hx hb dX0_mixBlock_29 rfl (lv_at hl 4 rfl) ?_
  refine va_get (D := G) (ci := 0) (v := .ref (g 11)) (C := RX0) (T := TX0) (N := 3) hx hb hts hinX0 hown hK hP 2 rfl rfl 0 (by decide) (hts (.fieldLink RX0 9 "SealedPages$Hasher" "sums" "[I") (by decide +kernel)) (fun _ h => h) rfl dX0_mixBlock_30 ?_
  refine lv_iconst (v := 4) hx hb dX0_mixBlock_33 (by decide) ?_
  refine x_ald (i := 4) hx hb hK hP 11 0 rfl rfl (by omega) (by decide) dX0_mixBlock_34 ?_
  refine lv_istore (lv' := [(5, .int (SU 4)), (4, .int (SU 3)), (3, .int (SU 2)), (2, .int (SU 1)), (1, .int (SU 0)), (0, .ref (g 2))]) hx hb dX0_mixBlock_35 hl (by decide) rfl (fun ls hl => ?_)
  refine lv_aload_n hx hb dX0_mixBlock_37 rfl (lv_at hl 5 rfl) ?_
  refine va_get (D := G) (ci := 0) (v := .ref (g 11)) (C := RX0) (T := TX0) (N := 3) hx hb hts hinX0 hown hK hP 2 rfl rfl 0 (by decide) (hts (.fieldLink RX0 9 "SealedPages$Hasher" "sums" "[I") (by decide +kernel)) (fun _ h => h) rfl dX0_mixBlock_38 ?_
  refine lv_iconst (v := 5) hx hb dX0_mixBlock_41 (by decide) ?_
  refine x_ald (i := 5) hx hb hK hP 11 0 rfl rfl (by omega) (by decide) dX0_mixBlock_42 ?_
  refine lv_istore (lv' := [(6, .int (SU 5)), (5, .int (SU 4)), (4, .int (SU 3)), (3, .int (SU 2)), (2, .int (SU 1)), (1, .int (SU 0)), (0, .ref (g 2))]) hx hb dX0_mixBlock_43 hl (by decide) rfl (fun ls hl => ?_)
  refine lv_aload_n hx hb dX0_mixBlock_45 rfl (lv_at hl 6 rfl) ?_
  refine va_get (D := G) (ci := 0) (v := .ref (g 11)) (C := RX0) (T := TX0) (N := 3) hx hb hts hinX0 hown hK hP 2 rfl rfl 0 (by decide) (hts (.fieldLink RX0 9 "SealedPages$Hasher" "sums" "[I") (by decide +kernel)) (fun _ h => h) rfl dX0_mixBlock_46 ?_
  refine lv_bipush (v := 6) hx hb dX0_mixBlock_49 (by decide) ?_
  refine x_ald (i := 6) hx hb hK hP 11 0 rfl rfl (by omega) (by decide) dX0_mixBlock_51 ?_
  refine lv_istore (lv' := [(7, .int (SU 6)), (6, .int (SU 5)), (5, .int (SU 4)), (4, .int (SU 3)), (3, .int (SU 2)), (2, .int (SU 1)), (1, .int (SU 0)), (0, .ref (g 2))]) hx hb dX0_mixBlock_52 hl (by decide) rfl (fun ls hl => ?_)
  refine lv_aload_n hx hb dX0_mixBlock_54 rfl (lv_at hl 7 rfl) ?_
  refine va_get (D := G) (ci := 0) (v := .ref (g 11)) (C := RX0) (T := TX0) (N := 3) hx hb hts hinX0 hown hK hP 2 rfl rfl 0 (by decide) (hts (.fieldLink RX0 9 "SealedPages$Hasher" "sums" "[I") (by decide +kernel)) (fun _ h => h) rfl dX0_mixBlock_55 ?_
  refine lv_bipush (v := 7) hx hb dX0_mixBlock_58 (by decide) ?_
  refine x_ald (i := 7) hx hb hK hP 11 0 rfl rfl (by omega) (by decide) dX0_mixBlock_60 ?_
  refine lv_istore (lv' := [(8, .int (SU 7)), (7, .int (SU 6)), (6, .int (SU 5)), (5, .int (SU 4)), (4, .int (SU 3)), (3, .int (SU 2)), (2, .int (SU 1)), (1, .int (SU 0)), (0, .ref (g 2))]) hx hb dX0_mixBlock_61 hl (by decide) rfl (fun ls hl => ?_)
  refine lv_iconst (v := 0) hx hb dX0_mixBlock_63 (by decide) ?_
  refine lv_istore (lv' := [(9, .int 0), (8, .int (SU 7)), (7, .int (SU 6)), (6, .int (SU 5)), (5, .int (SU 4)), (4, .int (SU 3)), (3, .int (SU 2)), (2, .int (SU 1)), (1, .int (SU 0)), (0, .ref (g 2))]) hx hb dX0_mixBlock_64 hl (by decide) rfl (fun ls hl => ?_)
  have loop_66 : ∀ (n_66 : Nat) (zt : Nat), (64 - zt) < n_66 → zt ≤ 64 → ∀ (H : Heap) (locs : List Loc) (ls : Array Slot), va_P G vwCl (xW g cA N D R F KD KR FL SU WO ln kp rd wr ft) H → va_D (wA g 13 s.heap.size) (xW g cA N D R F KD KR FL SU WO ln kp rd wr ft) → va_S (wA g 13 s.heap.size) s.heap H locs → lv_has ls 14 [(0, .ref (g 2)), (1, .int (rnds SU WO zt 0)), (2, .int (rnds SU WO zt 1)), (3, .int (rnds SU WO zt 2)), (4, .int (rnds SU WO zt 3)), (5, .int (rnds SU WO zt 4)), (6, .int (rnds SU WO zt 5)), (7, .int (rnds SU WO zt 6)), (8, .int (rnds SU WO zt 7)), (9, .int (nI zt))] → W p l e { frames := 0, cells := 0, slots := 0, locals := 0 } s m args below meth c H locs 0 0 Q (F0 m 66 ls []) := by
    intro n_66
    induction n_66 with
    | zero => intro zt hm_66; exact absurd hm_66 (Nat.not_lt_zero _)
    | succ n_66 ih_66 =>
      intro zt hm_66 ht H locs ls hP hD hS hl
      refine lv_iload hx hb dX0_mixBlock_66 (lv_at hl 9 rfl) ?_
      refine lv_bipush (v := 64) hx hb dX0_mixBlock_68 (by decide) ?_
      refine lv_icmp_ge (tgt := 230) hx hb dX0_mixBlock_70 (by decide) (fun c_1 => ?_) (fun c_1 => ?_)
      · skip
        have c_1 : 64 ≤ zt := (nI_leI (a := 64) (b := zt) (by omega) (by omega)).mp c_1
        obtain rfl : zt = 64 := by omega
        have hl : lv_has ls 14 [(0, .ref (g 2)), (1, .int (rnds SU WO 64 0)), (2, .int (rnds SU WO 64 1)), (3, .int (rnds SU WO 64 2)), (4, .int (rnds SU WO 64 3)), (5, .int (rnds SU WO 64 4)), (6, .int (rnds SU WO 64 5)), (7, .int (rnds SU WO 64 6)), (8, .int (rnds SU WO 64 7)), (9, .int (nI 64))] := hl
        refine lv_aload_n hx hb dX0_mixBlock_230 rfl (lv_at hl 0 rfl) ?_
        refine va_get (D := G) (ci := 0) (v := .ref (g 11)) (C := RX0) (T := TX0) (N := 3) hx hb hts hinX0 hown hK hP 2 rfl rfl 0 (by decide) (hts (.fieldLink RX0 9 "SealedPages$Hasher" "sums" "[I") (by decide +kernel)) (fun _ h => h) rfl dX0_mixBlock_231 ?_
        refine lv_iconst (v := 0) hx hb dX0_mixBlock_234 (by decide) ?_
        refine lv_dup2_11 hx hb dX0_mixBlock_235 rfl rfl ?_
        refine x_ald (i := 0) hx hb hK hP 11 0 rfl rfl (by omega) (by decide) dX0_mixBlock_236 ?_
        refine lv_iload_n hx hb dX0_mixBlock_237 rfl (lv_at hl 1 rfl) ?_
        refine lv_iadd hx hb dX0_mixBlock_238 ?_
        refine x_ast (i := 0) hx hb hK hP hD hS 11 0 rfl rfl (by omega) (by decide) dX0_mixBlock_239 (fun H locs hP hD hS => ?_)
        have hP : va_P G vwCl (xW g cA N D R F KD KR FL (upd SU 0 ((SU 0) + (rnds SU WO 64 0))) WO ln kp rd wr ft) _ := hP
        have hD : va_D _ (xW g cA N D R F KD KR FL (upd SU 0 ((SU 0) + (rnds SU WO 64 0))) WO ln kp rd wr ft) := hD
        refine lv_aload_n hx hb dX0_mixBlock_240 rfl (lv_at hl 0 rfl) ?_
        refine va_get (D := G) (ci := 0) (v := .ref (g 11)) (C := RX0) (T := TX0) (N := 3) hx hb hts hinX0 hown hK hP 2 rfl rfl 0 (by decide) (hts (.fieldLink RX0 9 "SealedPages$Hasher" "sums" "[I") (by decide +kernel)) (fun _ h => h) rfl dX0_mixBlock_241 ?_
        refine lv_iconst (v := 1) hx hb dX0_mixBlock_244 (by decide) ?_
        refine lv_dup2_11 hx hb dX0_mixBlock_245 rfl rfl ?_
        refine x_ald (i := 1) hx hb hK hP 11 0 rfl rfl (by omega) (by decide) dX0_mixBlock_246 ?_
        refine lv_iload_n hx hb dX0_mixBlock_247 rfl (lv_at hl 2 rfl) ?_
        refine lv_iadd hx hb dX0_mixBlock_248 ?_
        refine x_ast (i := 1) hx hb hK hP hD hS 11 0 rfl rfl (by omega) (by decide) dX0_mixBlock_249 (fun H locs hP hD hS => ?_)
        have hP : va_P G vwCl (xW g cA N D R F KD KR FL (upd (upd SU 0 ((SU 0) + (rnds SU WO 64 0))) 1 (((upd SU 0 ((SU 0) + (rnds SU WO 64 0))) 1) + (rnds SU WO 64 1))) WO ln kp rd wr ft) _ := hP
        have hD : va_D _ (xW g cA N D R F KD KR FL (upd (upd SU 0 ((SU 0) + (rnds SU WO 64 0))) 1 (((upd SU 0 ((SU 0) + (rnds SU WO 64 0))) 1) + (rnds SU WO 64 1))) WO ln kp rd wr ft) := hD
        refine lv_aload_n hx hb dX0_mixBlock_250 rfl (lv_at hl 0 rfl) ?_
        refine va_get (D := G) (ci := 0) (v := .ref (g 11)) (C := RX0) (T := TX0) (N := 3) hx hb hts hinX0 hown hK hP 2 rfl rfl 0 (by decide) (hts (.fieldLink RX0 9 "SealedPages$Hasher" "sums" "[I") (by decide +kernel)) (fun _ h => h) rfl dX0_mixBlock_251 ?_
        refine lv_iconst (v := 2) hx hb dX0_mixBlock_254 (by decide) ?_
        refine lv_dup2_11 hx hb dX0_mixBlock_255 rfl rfl ?_
        refine x_ald (i := 2) hx hb hK hP 11 0 rfl rfl (by omega) (by decide) dX0_mixBlock_256 ?_
        refine lv_iload_n hx hb dX0_mixBlock_257 rfl (lv_at hl 3 rfl) ?_
        refine lv_iadd hx hb dX0_mixBlock_258 ?_
        refine x_ast (i := 2) hx hb hK hP hD hS 11 0 rfl rfl (by omega) (by decide) dX0_mixBlock_259 (fun H locs hP hD hS => ?_)
        have hP : va_P G vwCl (xW g cA N D R F KD KR FL (upd (upd (upd SU 0 ((SU 0) + (rnds SU WO 64 0))) 1 (((upd SU 0 ((SU 0) + (rnds SU WO 64 0))) 1) + (rnds SU WO 64 1))) 2 (((upd (upd SU 0 ((SU 0) + (rnds SU WO 64 0))) 1 (((upd SU 0 ((SU 0) + (rnds SU WO 64 0))) 1) + (rnds SU WO 64 1))) 2) + (rnds SU WO 64 2))) WO ln kp rd wr ft) _ := hP
        have hD : va_D _ (xW g cA N D R F KD KR FL (upd (upd (upd SU 0 ((SU 0) + (rnds SU WO 64 0))) 1 (((upd SU 0 ((SU 0) + (rnds SU WO 64 0))) 1) + (rnds SU WO 64 1))) 2 (((upd (upd SU 0 ((SU 0) + (rnds SU WO 64 0))) 1 (((upd SU 0 ((SU 0) + (rnds SU WO 64 0))) 1) + (rnds SU WO 64 1))) 2) + (rnds SU WO 64 2))) WO ln kp rd wr ft) := hD
        refine lv_aload_n hx hb dX0_mixBlock_260 rfl (lv_at hl 0 rfl) ?_
        refine va_get (D := G) (ci := 0) (v := .ref (g 11)) (C := RX0) (T := TX0) (N := 3) hx hb hts hinX0 hown hK hP 2 rfl rfl 0 (by decide) (hts (.fieldLink RX0 9 "SealedPages$Hasher" "sums" "[I") (by decide +kernel)) (fun _ h => h) rfl dX0_mixBlock_261 ?_
        refine lv_iconst (v := 3) hx hb dX0_mixBlock_264 (by decide) ?_
        refine lv_dup2_11 hx hb dX0_mixBlock_265 rfl rfl ?_
        refine x_ald (i := 3) hx hb hK hP 11 0 rfl rfl (by omega) (by decide) dX0_mixBlock_266 ?_
        refine lv_iload hx hb dX0_mixBlock_267 (lv_at hl 4 rfl) ?_
        refine lv_iadd hx hb dX0_mixBlock_269 ?_
        refine x_ast (i := 3) hx hb hK hP hD hS 11 0 rfl rfl (by omega) (by decide) dX0_mixBlock_270 (fun H locs hP hD hS => ?_)
        have hP : va_P G vwCl (xW g cA N D R F KD KR FL (upd (upd (upd (upd SU 0 ((SU 0) + (rnds SU WO 64 0))) 1 (((upd SU 0 ((SU 0) + (rnds SU WO 64 0))) 1) + (rnds SU WO 64 1))) 2 (((upd (upd SU 0 ((SU 0) + (rnds SU WO 64 0))) 1 (((upd SU 0 ((SU 0) + (rnds SU WO 64 0))) 1) + (rnds SU WO 64 1))) 2) + (rnds SU WO 64 2))) 3 (((upd (upd (upd SU 0 ((SU 0) + (rnds SU WO 64 0))) 1 (((upd SU 0 ((SU 0) + (rnds SU WO 64 0))) 1) + (rnds SU WO 64 1))) 2 (((upd (upd SU 0 ((SU 0) + (rnds SU WO 64 0))) 1 (((upd SU 0 ((SU 0) + (rnds SU WO 64 0))) 1) + (rnds SU WO 64 1))) 2) + (rnds SU WO 64 2))) 3) + (rnds SU WO 64 3))) WO ln kp rd wr ft) _ := hP
        have hD : va_D _ (xW g cA N D R F KD KR FL (upd (upd (upd (upd SU 0 ((SU 0) + (rnds SU WO 64 0))) 1 (((upd SU 0 ((SU 0) + (rnds SU WO 64 0))) 1) + (rnds SU WO 64 1))) 2 (((upd (upd SU 0 ((SU 0) + (rnds SU WO 64 0))) 1 (((upd SU 0 ((SU 0) + (rnds SU WO 64 0))) 1) + (rnds SU WO 64 1))) 2) + (rnds SU WO 64 2))) 3 (((upd (upd (upd SU 0 ((SU 0) + (rnds SU WO 64 0))) 1 (((upd SU 0 ((SU 0) + (rnds SU WO 64 0))) 1) + (rnds SU WO 64 1))) 2 (((upd (upd SU 0 ((SU 0) + (rnds SU WO 64 0))) 1 (((upd SU 0 ((SU 0) + (rnds SU WO 64 0))) 1) + (rnds SU WO 64 1))) 2) + (rnds SU WO 64 2))) 3) + (rnds SU WO 64 3))) WO ln kp rd wr ft) := hD
        refine lv_aload_n hx hb dX0_mixBlock_271 rfl (lv_at hl 0 rfl) ?_
        refine va_get (D := G) (ci := 0) (v := .ref (g 11)) (C := RX0) (T := TX0) (N := 3) hx hb hts hinX0 hown hK hP 2 rfl rfl 0 (by decide) (hts (.fieldLink RX0 9 "SealedPages$Hasher" "sums" "[I") (by decide +kernel)) (fun _ h => h) rfl dX0_mixBlock_272 ?_
        refine lv_iconst (v := 4) hx hb dX0_mixBlock_275 (by decide) ?_
        refine lv_dup2_11 hx hb dX0_mixBlock_276 rfl rfl ?_
        refine x_ald (i := 4) hx hb hK hP 11 0 rfl rfl (by omega) (by decide) dX0_mixBlock_277 ?_
        refine lv_iload hx hb dX0_mixBlock_278 (lv_at hl 5 rfl) ?_
        refine lv_iadd hx hb dX0_mixBlock_280 ?_
        refine x_ast (i := 4) hx hb hK hP hD hS 11 0 rfl rfl (by omega) (by decide) dX0_mixBlock_281 (fun H locs hP hD hS => ?_)
        have hP : va_P G vwCl (xW g cA N D R F KD KR FL (upd (upd (upd (upd (upd SU 0 ((SU 0) + (rnds SU WO 64 0))) 1 (((upd SU 0 ((SU 0) + (rnds SU WO 64 0))) 1) + (rnds SU WO 64 1))) 2 (((upd (upd SU 0 ((SU 0) + (rnds SU WO 64 0))) 1 (((upd SU 0 ((SU 0) + (rnds SU WO 64 0))) 1) + (rnds SU WO 64 1))) 2) + (rnds SU WO 64 2))) 3 (((upd (upd (upd SU 0 ((SU 0) + (rnds SU WO 64 0))) 1 (((upd SU 0 ((SU 0) + (rnds SU WO 64 0))) 1) + (rnds SU WO 64 1))) 2 (((upd (upd SU 0 ((SU 0) + (rnds SU WO 64 0))) 1 (((upd SU 0 ((SU 0) + (rnds SU WO 64 0))) 1) + (rnds SU WO 64 1))) 2) + (rnds SU WO 64 2))) 3) + (rnds SU WO 64 3))) 4 (((upd (upd (upd (upd SU 0 ((SU 0) + (rnds SU WO 64 0))) 1 (((upd SU 0 ((SU 0) + (rnds SU WO 64 0))) 1) + (rnds SU WO 64 1))) 2 (((upd (upd SU 0 ((SU 0) + (rnds SU WO 64 0))) 1 (((upd SU 0 ((SU 0) + (rnds SU WO 64 0))) 1) + (rnds SU WO 64 1))) 2) + (rnds SU WO 64 2))) 3 (((upd (upd (upd SU 0 ((SU 0) + (rnds SU WO 64 0))) 1 (((upd SU 0 ((SU 0) + (rnds SU WO 64 0))) 1) + (rnds SU WO 64 1))) 2 (((upd (upd SU 0 ((SU 0) + (rnds SU WO 64 0))) 1 (((upd SU 0 ((SU 0) + (rnds SU WO 64 0))) 1) + (rnds SU WO 64 1))) 2) + (rnds SU WO 64 2))) 3) + (rnds SU WO 64 3))) 4) + (rnds SU WO 64 4))) WO ln kp rd wr ft) _ := hP
        have hD : va_D _ (xW g cA N D R F KD KR FL (upd (upd (upd (upd (upd SU 0 ((SU 0) + (rnds SU WO 64 0))) 1 (((upd SU 0 ((SU 0) + (rnds SU WO 64 0))) 1) + (rnds SU WO 64 1))) 2 (((upd (upd SU 0 ((SU 0) + (rnds SU WO 64 0))) 1 (((upd SU 0 ((SU 0) + (rnds SU WO 64 0))) 1) + (rnds SU WO 64 1))) 2) + (rnds SU WO 64 2))) 3 (((upd (upd (upd SU 0 ((SU 0) + (rnds SU WO 64 0))) 1 (((upd SU 0 ((SU 0) + (rnds SU WO 64 0))) 1) + (rnds SU WO 64 1))) 2 (((upd (upd SU 0 ((SU 0) + (rnds SU WO 64 0))) 1 (((upd SU 0 ((SU 0) + (rnds SU WO 64 0))) 1) + (rnds SU WO 64 1))) 2) + (rnds SU WO 64 2))) 3) + (rnds SU WO 64 3))) 4 (((upd (upd (upd (upd SU 0 ((SU 0) + (rnds SU WO 64 0))) 1 (((upd SU 0 ((SU 0) + (rnds SU WO 64 0))) 1) + (rnds SU WO 64 1))) 2 (((upd (upd SU 0 ((SU 0) + (rnds SU WO 64 0))) 1 (((upd SU 0 ((SU 0) + (rnds SU WO 64 0))) 1) + (rnds SU WO 64 1))) 2) + (rnds SU WO 64 2))) 3 (((upd (upd (upd SU 0 ((SU 0) + (rnds SU WO 64 0))) 1 (((upd SU 0 ((SU 0) + (rnds SU WO 64 0))) 1) + (rnds SU WO 64 1))) 2 (((upd (upd SU 0 ((SU 0) + (rnds SU WO 64 0))) 1 (((upd SU 0 ((SU 0) + (rnds SU WO 64 0))) 1) + (rnds SU WO 64 1))) 2) + (rnds SU WO 64 2))) 3) + (rnds SU WO 64 3))) 4) + (rnds SU WO 64 4))) WO ln kp rd wr ft) := hD
        refine lv_aload_n hx hb dX0_mixBlock_282 rfl (lv_at hl 0 rfl) ?_
        refine va_get (D := G) (ci := 0) (v := .ref (g 11)) (C := RX0) (T := TX0) (N := 3) hx hb hts hinX0 hown hK hP 2 rfl rfl 0 (by decide) (hts (.fieldLink RX0 9 "SealedPages$Hasher" "sums" "[I") (by decide +kernel)) (fun _ h => h) rfl dX0_mixBlock_283 ?_
        refine lv_iconst (v := 5) hx hb dX0_mixBlock_286 (by decide) ?_
        refine lv_dup2_11 hx hb dX0_mixBlock_287 rfl rfl ?_
        refine x_ald (i := 5) hx hb hK hP 11 0 rfl rfl (by omega) (by decide) dX0_mixBlock_288 ?_
        refine lv_iload hx hb dX0_mixBlock_289 (lv_at hl 6 rfl) ?_
        refine lv_iadd hx hb dX0_mixBlock_291 ?_
        refine x_ast (i := 5) hx hb hK hP hD hS 11 0 rfl rfl (by omega) (by decide) dX0_mixBlock_292 (fun H locs hP hD hS => ?_)
        have hP : va_P G vwCl (xW g cA N D R F KD KR FL (upd (upd (upd (upd (upd (upd SU 0 ((SU 0) + (rnds SU WO 64 0))) 1 (((upd SU 0 ((SU 0) + (rnds SU WO 64 0))) 1) + (rnds SU WO 64 1))) 2 (((upd (upd SU 0 ((SU 0) + (rnds SU WO 64 0))) 1 (((upd SU 0 ((SU 0) + (rnds SU WO 64 0))) 1) + (rnds SU WO 64 1))) 2) + (rnds SU WO 64 2))) 3 (((upd (upd (upd SU 0 ((SU 0) + (rnds SU WO 64 0))) 1 (((upd SU 0 ((SU 0) + (rnds SU WO 64 0))) 1) + (rnds SU WO 64 1))) 2 (((upd (upd SU 0 ((SU 0) + (rnds SU WO 64 0))) 1 (((upd SU 0 ((SU 0) + (rnds SU WO 64 0))) 1) + (rnds SU WO 64 1))) 2) + (rnds SU WO 64 2))) 3) + (rnds SU WO 64 3))) 4 (((upd (upd (upd (upd SU 0 ((SU 0) + (rnds SU WO 64 0))) 1 (((upd SU 0 ((SU 0) + (rnds SU WO 64 0))) 1) + (rnds SU WO 64 1))) 2 (((upd (upd SU 0 ((SU 0) + (rnds SU WO 64 0))) 1 (((upd SU 0 ((SU 0) + (rnds SU WO 64 0))) 1) + (rnds SU WO 64 1))) 2) + (rnds SU WO 64 2))) 3 (((upd (upd (upd SU 0 ((SU 0) + (rnds SU WO 64 0))) 1 (((upd SU 0 ((SU 0) + (rnds SU WO 64 0))) 1) + (rnds SU WO 64 1))) 2 (((upd (upd SU 0 ((SU 0) + (rnds SU WO 64 0))) 1 (((upd SU 0 ((SU 0) + (rnds SU WO 64 0))) 1) + (rnds SU WO 64 1))) 2) + (rnds SU WO 64 2))) 3) + (rnds SU WO 64 3))) 4) + (rnds SU WO 64 4))) 5 (((upd (upd (upd (upd (upd SU 0 ((SU 0) + (rnds SU WO 64 0))) 1 (((upd SU 0 ((SU 0) + (rnds SU WO 64 0))) 1) + (rnds SU WO 64 1))) 2 (((upd (upd SU 0 ((SU 0) + (rnds SU WO 64 0))) 1 (((upd SU 0 ((SU 0) + (rnds SU WO 64 0))) 1) + (rnds SU WO 64 1))) 2) + (rnds SU WO 64 2))) 3 (((upd (upd (upd SU 0 ((SU 0) + (rnds SU WO 64 0))) 1 (((upd SU 0 ((SU 0) + (rnds SU WO 64 0))) 1) + (rnds SU WO 64 1))) 2 (((upd (upd SU 0 ((SU 0) + (rnds SU WO 64 0))) 1 (((upd SU 0 ((SU 0) + (rnds SU WO 64 0))) 1) + (rnds SU WO 64 1))) 2) + (rnds SU WO 64 2))) 3) + (rnds SU WO 64 3))) 4 (((upd (upd (upd (upd SU 0 ((SU 0) + (rnds SU WO 64 0))) 1 (((upd SU 0 ((SU 0) + (rnds SU WO 64 0))) 1) + (rnds SU WO 64 1))) 2 (((upd (upd SU 0 ((SU 0) + (rnds SU WO 64 0))) 1 (((upd SU 0 ((SU 0) + (rnds SU WO 64 0))) 1) + (rnds SU WO 64 1))) 2) + (rnds SU WO 64 2))) 3 (((upd (upd (upd SU 0 ((SU 0) + (rnds SU WO 64 0))) 1 (((upd SU 0 ((SU 0) + (rnds SU WO 64 0))) 1) + (rnds SU WO 64 1))) 2 (((upd (upd SU 0 ((SU 0) + (rnds SU WO 64 0))) 1 (((upd SU 0 ((SU 0) + (rnds SU WO 64 0))) 1) + (rnds SU WO 64 1))) 2) + (rnds SU WO 64 2))) 3) + (rnds SU WO 64 3))) 4) + (rnds SU WO 64 4))) 5) + (rnds SU WO 64 5))) WO ln kp rd wr ft) _ := hP
        have hD : va_D _ (xW g cA N D R F KD KR FL (upd (upd (upd (upd (upd (upd SU 0 ((SU 0) + (rnds SU WO 64 0))) 1 (((upd SU 0 ((SU 0) + (rnds SU WO 64 0))) 1) + (rnds SU WO 64 1))) 2 (((upd (upd SU 0 ((SU 0) + (rnds SU WO 64 0))) 1 (((upd SU 0 ((SU 0) + (rnds SU WO 64 0))) 1) + (rnds SU WO 64 1))) 2) + (rnds SU WO 64 2))) 3 (((upd (upd (upd SU 0 ((SU 0) + (rnds SU WO 64 0))) 1 (((upd SU 0 ((SU 0) + (rnds SU WO 64 0))) 1) + (rnds SU WO 64 1))) 2 (((upd (upd SU 0 ((SU 0) + (rnds SU WO 64 0))) 1 (((upd SU 0 ((SU 0) + (rnds SU WO 64 0))) 1) + (rnds SU WO 64 1))) 2) + (rnds SU WO 64 2))) 3) + (rnds SU WO 64 3))) 4 (((upd (upd (upd (upd SU 0 ((SU 0) + (rnds SU WO 64 0))) 1 (((upd SU 0 ((SU 0) + (rnds SU WO 64 0))) 1) + (rnds SU WO 64 1))) 2 (((upd (upd SU 0 ((SU 0) + (rnds SU WO 64 0))) 1 (((upd SU 0 ((SU 0) + (rnds SU WO 64 0))) 1) + (rnds SU WO 64 1))) 2) + (rnds SU WO 64 2))) 3 (((upd (upd (upd SU 0 ((SU 0) + (rnds SU WO 64 0))) 1 (((upd SU 0 ((SU 0) + (rnds SU WO 64 0))) 1) + (rnds SU WO 64 1))) 2 (((upd (upd SU 0 ((SU 0) + (rnds SU WO 64 0))) 1 (((upd SU 0 ((SU 0) + (rnds SU WO 64 0))) 1) + (rnds SU WO 64 1))) 2) + (rnds SU WO 64 2))) 3) + (rnds SU WO 64 3))) 4) + (rnds SU WO 64 4))) 5 (((upd (upd (upd (upd (upd SU 0 ((SU 0) + (rnds SU WO 64 0))) 1 (((upd SU 0 ((SU 0) + (rnds SU WO 64 0))) 1) + (rnds SU WO 64 1))) 2 (((upd (upd SU 0 ((SU 0) + (rnds SU WO 64 0))) 1 (((upd SU 0 ((SU 0) + (rnds SU WO 64 0))) 1) + (rnds SU WO 64 1))) 2) + (rnds SU WO 64 2))) 3 (((upd (upd (upd SU 0 ((SU 0) + (rnds SU WO 64 0))) 1 (((upd SU 0 ((SU 0) + (rnds SU WO 64 0))) 1) + (rnds SU WO 64 1))) 2 (((upd (upd SU 0 ((SU 0) + (rnds SU WO 64 0))) 1 (((upd SU 0 ((SU 0) + (rnds SU WO 64 0))) 1) + (rnds SU WO 64 1))) 2) + (rnds SU WO 64 2))) 3) + (rnds SU WO 64 3))) 4 (((upd (upd (upd (upd SU 0 ((SU 0) + (rnds SU WO 64 0))) 1 (((upd SU 0 ((SU 0) + (rnds SU WO 64 0))) 1) + (rnds SU WO 64 1))) 2 (((upd (upd SU 0 ((SU 0) + (rnds SU WO 64 0))) 1 (((upd SU 0 ((SU 0) + (rnds SU WO 64 0))) 1) + (rnds SU WO 64 1))) 2) + (rnds SU WO 64 2))) 3 (((upd (upd (upd SU 0 ((SU 0) + (rnds SU WO 64 0))) 1 (((upd SU 0 ((SU 0) + (rnds SU WO 64 0))) 1) + (rnds SU WO 64 1))) 2 (((upd (upd SU 0 ((SU 0) + (rnds SU WO 64 0))) 1 (((upd SU 0 ((SU 0) + (rnds SU WO 64 0))) 1) + (rnds SU WO 64 1))) 2) + (rnds SU WO 64 2))) 3) + (rnds SU WO 64 3))) 4) + (rnds SU WO 64 4))) 5) + (rnds SU WO 64 5))) WO ln kp rd wr ft) := hD
        refine lv_aload_n hx hb dX0_mixBlock_293 rfl (lv_at hl 0 rfl) ?_
        refine va_get (D := G) (ci := 0) (v := .ref (g 11)) (C := RX0) (T := TX0) (N := 3) hx hb hts hinX0 hown hK hP 2 rfl rfl 0 (by decide) (hts (.fieldLink RX0 9 "SealedPages$Hasher" "sums" "[I") (by decide +kernel)) (fun _ h => h) rfl dX0_mixBlock_294 ?_
        refine lv_bipush (v := 6) hx hb dX0_mixBlock_297 (by decide) ?_
        refine lv_dup2_11 hx hb dX0_mixBlock_299 rfl rfl ?_
        refine x_ald (i := 6) hx hb hK hP 11 0 rfl rfl (by omega) (by decide) dX0_mixBlock_300 ?_
        refine lv_iload hx hb dX0_mixBlock_301 (lv_at hl 7 rfl) ?_
        refine lv_iadd hx hb dX0_mixBlock_303 ?_
        refine x_ast (i := 6) hx hb hK hP hD hS 11 0 rfl rfl (by omega) (by decide) dX0_mixBlock_304 (fun H locs hP hD hS => ?_)
        have hP : va_P G vwCl (xW g cA N D R F KD KR FL (upd (upd (upd (upd (upd (upd (upd SU 0 ((SU 0) + (rnds SU WO 64 0))) 1 (((upd SU 0 ((SU 0) + (rnds SU WO 64 0))) 1) + (rnds SU WO 64 1))) 2 (((upd (upd SU 0 ((SU 0) + (rnds SU WO 64 0))) 1 (((upd SU 0 ((SU 0) + (rnds SU WO 64 0))) 1) + (rnds SU WO 64 1))) 2) + (rnds SU WO 64 2))) 3 (((upd (upd (upd SU 0 ((SU 0) + (rnds SU WO 64 0))) 1 (((upd SU 0 ((SU 0) + (rnds SU WO 64 0))) 1) + (rnds SU WO 64 1))) 2 (((upd (upd SU 0 ((SU 0) + (rnds SU WO 64 0))) 1 (((upd SU 0 ((SU 0) + (rnds SU WO 64 0))) 1) + (rnds SU WO 64 1))) 2) + (rnds SU WO 64 2))) 3) + (rnds SU WO 64 3))) 4 (((upd (upd (upd (upd SU 0 ((SU 0) + (rnds SU WO 64 0))) 1 (((upd SU 0 ((SU 0) + (rnds SU WO 64 0))) 1) + (rnds SU WO 64 1))) 2 (((upd (upd SU 0 ((SU 0) + (rnds SU WO 64 0))) 1 (((upd SU 0 ((SU 0) + (rnds SU WO 64 0))) 1) + (rnds SU WO 64 1))) 2) + (rnds SU WO 64 2))) 3 (((upd (upd (upd SU 0 ((SU 0) + (rnds SU WO 64 0))) 1 (((upd SU 0 ((SU 0) + (rnds SU WO 64 0))) 1) + (rnds SU WO 64 1))) 2 (((upd (upd SU 0 ((SU 0) + (rnds SU WO 64 0))) 1 (((upd SU 0 ((SU 0) + (rnds SU WO 64 0))) 1) + (rnds SU WO 64 1))) 2) + (rnds SU WO 64 2))) 3) + (rnds SU WO 64 3))) 4) + (rnds SU WO 64 4))) 5 (((upd (upd (upd (upd (upd SU 0 ((SU 0) + (rnds SU WO 64 0))) 1 (((upd SU 0 ((SU 0) + (rnds SU WO 64 0))) 1) + (rnds SU WO 64 1))) 2 (((upd (upd SU 0 ((SU 0) + (rnds SU WO 64 0))) 1 (((upd SU 0 ((SU 0) + (rnds SU WO 64 0))) 1) + (rnds SU WO 64 1))) 2) + (rnds SU WO 64 2))) 3 (((upd (upd (upd SU 0 ((SU 0) + (rnds SU WO 64 0))) 1 (((upd SU 0 ((SU 0) + (rnds SU WO 64 0))) 1) + (rnds SU WO 64 1))) 2 (((upd (upd SU 0 ((SU 0) + (rnds SU WO 64 0))) 1 (((upd SU 0 ((SU 0) + (rnds SU WO 64 0))) 1) + (rnds SU WO 64 1))) 2) + (rnds SU WO 64 2))) 3) + (rnds SU WO 64 3))) 4 (((upd (upd (upd (upd SU 0 ((SU 0) + (rnds SU WO 64 0))) 1 (((upd SU 0 ((SU 0) + (rnds SU WO 64 0))) 1) + (rnds SU WO 64 1))) 2 (((upd (upd SU 0 ((SU 0) + (rnds SU WO 64 0))) 1 (((upd SU 0 ((SU 0) + (rnds SU WO 64 0))) 1) + (rnds SU WO 64 1))) 2) + (rnds SU WO 64 2))) 3 (((upd (upd (upd SU 0 ((SU 0) + (rnds SU WO 64 0))) 1 (((upd SU 0 ((SU 0) + (rnds SU WO 64 0))) 1) + (rnds SU WO 64 1))) 2 (((upd (upd SU 0 ((SU 0) + (rnds SU WO 64 0))) 1 (((upd SU 0 ((SU 0) + (rnds SU WO 64 0))) 1) + (rnds SU WO 64 1))) 2) + (rnds SU WO 64 2))) 3) + (rnds SU WO 64 3))) 4) + (rnds SU WO 64 4))) 5) + (rnds SU WO 64 5))) 6 (((upd (upd (upd (upd (upd (upd SU 0 ((SU 0) + (rnds SU WO 64 0))) 1 (((upd SU 0 ((SU 0) + (rnds SU WO 64 0))) 1) + (rnds SU WO 64 1))) 2 (((upd (upd SU 0 ((SU 0) + (rnds SU WO 64 0))) 1 (((upd SU 0 ((SU 0) + (rnds SU WO 64 0))) 1) + (rnds SU WO 64 1))) 2) + (rnds SU WO 64 2))) 3 (((upd (upd (upd SU 0 ((SU 0) + (rnds SU WO 64 0))) 1 (((upd SU 0 ((SU 0) + (rnds SU WO 64 0))) 1) + (rnds SU WO 64 1))) 2 (((upd (upd SU 0 ((SU 0) + (rnds SU WO 64 0))) 1 (((upd SU 0 ((SU 0) + (rnds SU WO 64 0))) 1) + (rnds SU WO 64 1))) 2) + (rnds SU WO 64 2))) 3) + (rnds SU WO 64 3))) 4 (((upd (upd (upd (upd SU 0 ((SU 0) + (rnds SU WO 64 0))) 1 (((upd SU 0 ((SU 0) + (rnds SU WO 64 0))) 1) + (rnds SU WO 64 1))) 2 (((upd (upd SU 0 ((SU 0) + (rnds SU WO 64 0))) 1 (((upd SU 0 ((SU 0) + (rnds SU WO 64 0))) 1) + (rnds SU WO 64 1))) 2) + (rnds SU WO 64 2))) 3 (((upd (upd (upd SU 0 ((SU 0) + (rnds SU WO 64 0))) 1 (((upd SU 0 ((SU 0) + (rnds SU WO 64 0))) 1) + (rnds SU WO 64 1))) 2 (((upd (upd SU 0 ((SU 0) + (rnds SU WO 64 0))) 1 (((upd SU 0 ((SU 0) + (rnds SU WO 64 0))) 1) + (rnds SU WO 64 1))) 2) + (rnds SU WO 64 2))) 3) + (rnds SU WO 64 3))) 4) + (rnds SU WO 64 4))) 5 (((upd (upd (upd (upd (upd SU 0 ((SU 0) + (rnds SU WO 64 0))) 1 (((upd SU 0 ((SU 0) + (rnds SU WO 64 0))) 1) + (rnds SU WO 64 1))) 2 (((upd (upd SU 0 ((SU 0) + (rnds SU WO 64 0))) 1 (((upd SU 0 ((SU 0) + (rnds SU WO 64 0))) 1) + (rnds SU WO 64 1))) 2) + (rnds SU WO 64 2))) 3 (((upd (upd (upd SU 0 ((SU 0) + (rnds SU WO 64 0))) 1 (((upd SU 0 ((SU 0) + (rnds SU WO 64 0))) 1) + (rnds SU WO 64 1))) 2 (((upd (upd SU 0 ((SU 0) + (rnds SU WO 64 0))) 1 (((upd SU 0 ((SU 0) + (rnds SU WO 64 0))) 1) + (rnds SU WO 64 1))) 2) + (rnds SU WO 64 2))) 3) + (rnds SU WO 64 3))) 4 (((upd (upd (upd (upd SU 0 ((SU 0) + (rnds SU WO 64 0))) 1 (((upd SU 0 ((SU 0) + (rnds SU WO 64 0))) 1) + (rnds SU WO 64 1))) 2 (((upd (upd SU 0 ((SU 0) + (rnds SU WO 64 0))) 1 (((upd SU 0 ((SU 0) + (rnds SU WO 64 0))) 1) + (rnds SU WO 64 1))) 2) + (rnds SU WO 64 2))) 3 (((upd (upd (upd SU 0 ((SU 0) + (rnds SU WO 64 0))) 1 (((upd SU 0 ((SU 0) + (rnds SU WO 64 0))) 1) + (rnds SU WO 64 1))) 2 (((upd (upd SU 0 ((SU 0) + (rnds SU WO 64 0))) 1 (((upd SU 0 ((SU 0) + (rnds SU WO 64 0))) 1) + (rnds SU WO 64 1))) 2) + (rnds SU WO 64 2))) 3) + (rnds SU WO 64 3))) 4) + (rnds SU WO 64 4))) 5) + (rnds SU WO 64 5))) 6) + (rnds SU WO 64 6))) WO ln kp rd wr ft) _ := hP
        have hD : va_D _ (xW g cA N D R F KD KR FL (upd (upd (upd (upd (upd (upd (upd SU 0 ((SU 0) + (rnds SU WO 64 0))) 1 (((upd SU 0 ((SU 0) + (rnds SU WO 64 0))) 1) + (rnds SU WO 64 1))) 2 (((upd (upd SU 0 ((SU 0) + (rnds SU WO 64 0))) 1 (((upd SU 0 ((SU 0) + (rnds SU WO 64 0))) 1) + (rnds SU WO 64 1))) 2) + (rnds SU WO 64 2))) 3 (((upd (upd (upd SU 0 ((SU 0) + (rnds SU WO 64 0))) 1 (((upd SU 0 ((SU 0) + (rnds SU WO 64 0))) 1) + (rnds SU WO 64 1))) 2 (((upd (upd SU 0 ((SU 0) + (rnds SU WO 64 0))) 1 (((upd SU 0 ((SU 0) + (rnds SU WO 64 0))) 1) + (rnds SU WO 64 1))) 2) + (rnds SU WO 64 2))) 3) + (rnds SU WO 64 3))) 4 (((upd (upd (upd (upd SU 0 ((SU 0) + (rnds SU WO 64 0))) 1 (((upd SU 0 ((SU 0) + (rnds SU WO 64 0))) 1) + (rnds SU WO 64 1))) 2 (((upd (upd SU 0 ((SU 0) + (rnds SU WO 64 0))) 1 (((upd SU 0 ((SU 0) + (rnds SU WO 64 0))) 1) + (rnds SU WO 64 1))) 2) + (rnds SU WO 64 2))) 3 (((upd (upd (upd SU 0 ((SU 0) + (rnds SU WO 64 0))) 1 (((upd SU 0 ((SU 0) + (rnds SU WO 64 0))) 1) + (rnds SU WO 64 1))) 2 (((upd (upd SU 0 ((SU 0) + (rnds SU WO 64 0))) 1 (((upd SU 0 ((SU 0) + (rnds SU WO 64 0))) 1) + (rnds SU WO 64 1))) 2) + (rnds SU WO 64 2))) 3) + (rnds SU WO 64 3))) 4) + (rnds SU WO 64 4))) 5 (((upd (upd (upd (upd (upd SU 0 ((SU 0) + (rnds SU WO 64 0))) 1 (((upd SU 0 ((SU 0) + (rnds SU WO 64 0))) 1) + (rnds SU WO 64 1))) 2 (((upd (upd SU 0 ((SU 0) + (rnds SU WO 64 0))) 1 (((upd SU 0 ((SU 0) + (rnds SU WO 64 0))) 1) + (rnds SU WO 64 1))) 2) + (rnds SU WO 64 2))) 3 (((upd (upd (upd SU 0 ((SU 0) + (rnds SU WO 64 0))) 1 (((upd SU 0 ((SU 0) + (rnds SU WO 64 0))) 1) + (rnds SU WO 64 1))) 2 (((upd (upd SU 0 ((SU 0) + (rnds SU WO 64 0))) 1 (((upd SU 0 ((SU 0) + (rnds SU WO 64 0))) 1) + (rnds SU WO 64 1))) 2) + (rnds SU WO 64 2))) 3) + (rnds SU WO 64 3))) 4 (((upd (upd (upd (upd SU 0 ((SU 0) + (rnds SU WO 64 0))) 1 (((upd SU 0 ((SU 0) + (rnds SU WO 64 0))) 1) + (rnds SU WO 64 1))) 2 (((upd (upd SU 0 ((SU 0) + (rnds SU WO 64 0))) 1 (((upd SU 0 ((SU 0) + (rnds SU WO 64 0))) 1) + (rnds SU WO 64 1))) 2) + (rnds SU WO 64 2))) 3 (((upd (upd (upd SU 0 ((SU 0) + (rnds SU WO 64 0))) 1 (((upd SU 0 ((SU 0) + (rnds SU WO 64 0))) 1) + (rnds SU WO 64 1))) 2 (((upd (upd SU 0 ((SU 0) + (rnds SU WO 64 0))) 1 (((upd SU 0 ((SU 0) + (rnds SU WO 64 0))) 1) + (rnds SU WO 64 1))) 2) + (rnds SU WO 64 2))) 3) + (rnds SU WO 64 3))) 4) + (rnds SU WO 64 4))) 5) + (rnds SU WO 64 5))) 6 (((upd (upd (upd (upd (upd (upd SU 0 ((SU 0) + (rnds SU WO 64 0))) 1 (((upd SU 0 ((SU 0) + (rnds SU WO 64 0))) 1) + (rnds SU WO 64 1))) 2 (((upd (upd SU 0 ((SU 0) + (rnds SU WO 64 0))) 1 (((upd SU 0 ((SU 0) + (rnds SU WO 64 0))) 1) + (rnds SU WO 64 1))) 2) + (rnds SU WO 64 2))) 3 (((upd (upd (upd SU 0 ((SU 0) + (rnds SU WO 64 0))) 1 (((upd SU 0 ((SU 0) + (rnds SU WO 64 0))) 1) + (rnds SU WO 64 1))) 2 (((upd (upd SU 0 ((SU 0) + (rnds SU WO 64 0))) 1 (((upd SU 0 ((SU 0) + (rnds SU WO 64 0))) 1) + (rnds SU WO 64 1))) 2) + (rnds SU WO 64 2))) 3) + (rnds SU WO 64 3))) 4 (((upd (upd (upd (upd SU 0 ((SU 0) + (rnds SU WO 64 0))) 1 (((upd SU 0 ((SU 0) + (rnds SU WO 64 0))) 1) + (rnds SU WO 64 1))) 2 (((upd (upd SU 0 ((SU 0) + (rnds SU WO 64 0))) 1 (((upd SU 0 ((SU 0) + (rnds SU WO 64 0))) 1) + (rnds SU WO 64 1))) 2) + (rnds SU WO 64 2))) 3 (((upd (upd (upd SU 0 ((SU 0) + (rnds SU WO 64 0))) 1 (((upd SU 0 ((SU 0) + (rnds SU WO 64 0))) 1) + (rnds SU WO 64 1))) 2 (((upd (upd SU 0 ((SU 0) + (rnds SU WO 64 0))) 1 (((upd SU 0 ((SU 0) + (rnds SU WO 64 0))) 1) + (rnds SU WO 64 1))) 2) + (rnds SU WO 64 2))) 3) + (rnds SU WO 64 3))) 4) + (rnds SU WO 64 4))) 5 (((upd (upd (upd (upd (upd SU 0 ((SU 0) + (rnds SU WO 64 0))) 1 (((upd SU 0 ((SU 0) + (rnds SU WO 64 0))) 1) + (rnds SU WO 64 1))) 2 (((upd (upd SU 0 ((SU 0) + (rnds SU WO 64 0))) 1 (((upd SU 0 ((SU 0) + (rnds SU WO 64 0))) 1) + (rnds SU WO 64 1))) 2) + (rnds SU WO 64 2))) 3 (((upd (upd (upd SU 0 ((SU 0) + (rnds SU WO 64 0))) 1 (((upd SU 0 ((SU 0) + (rnds SU WO 64 0))) 1) + (rnds SU WO 64 1))) 2 (((upd (upd SU 0 ((SU 0) + (rnds SU WO 64 0))) 1 (((upd SU 0 ((SU 0) + (rnds SU WO 64 0))) 1) + (rnds SU WO 64 1))) 2) + (rnds SU WO 64 2))) 3) + (rnds SU WO 64 3))) 4 (((upd (upd (upd (upd SU 0 ((SU 0) + (rnds SU WO 64 0))) 1 (((upd SU 0 ((SU 0) + (rnds SU WO 64 0))) 1) + (rnds SU WO 64 1))) 2 (((upd (upd SU 0 ((SU 0) + (rnds SU WO 64 0))) 1 (((upd SU 0 ((SU 0) + (rnds SU WO 64 0))) 1) + (rnds SU WO 64 1))) 2) + (rnds SU WO 64 2))) 3 (((upd (upd (upd SU 0 ((SU 0) + (rnds SU WO 64 0))) 1 (((upd SU 0 ((SU 0) + (rnds SU WO 64 0))) 1) + (rnds SU WO 64 1))) 2 (((upd (upd SU 0 ((SU 0) + (rnds SU WO 64 0))) 1 (((upd SU 0 ((SU 0) + (rnds SU WO 64 0))) 1) + (rnds SU WO 64 1))) 2) + (rnds SU WO 64 2))) 3) + (rnds SU WO 64 3))) 4) + (rnds SU WO 64 4))) 5) + (rnds SU WO 64 5))) 6) + (rnds SU WO 64 6))) WO ln kp rd wr ft) := hD
        refine lv_aload_n hx hb dX0_mixBlock_305 rfl (lv_at hl 0 rfl) ?_
        refine va_get (D := G) (ci := 0) (v := .ref (g 11)) (C := RX0) (T := TX0) (N := 3) hx hb hts hinX0 hown hK hP 2 rfl rfl 0 (by decide) (hts (.fieldLink RX0 9 "SealedPages$Hasher" "sums" "[I") (by decide +kernel)) (fun _ h => h) rfl dX0_mixBlock_306 ?_
        refine lv_bipush (v := 7) hx hb dX0_mixBlock_309 (by decide) ?_
        refine lv_dup2_11 hx hb dX0_mixBlock_311 rfl rfl ?_
        refine x_ald (i := 7) hx hb hK hP 11 0 rfl rfl (by omega) (by decide) dX0_mixBlock_312 ?_
        refine lv_iload hx hb dX0_mixBlock_313 (lv_at hl 8 rfl) ?_
        refine lv_iadd hx hb dX0_mixBlock_315 ?_
        refine x_ast (i := 7) hx hb hK hP hD hS 11 0 rfl rfl (by omega) (by decide) dX0_mixBlock_316 (fun H locs hP hD hS => ?_)
        have hP : va_P G vwCl (xW g cA N D R F KD KR FL (upd (upd (upd (upd (upd (upd (upd (upd SU 0 ((SU 0) + (rnds SU WO 64 0))) 1 (((upd SU 0 ((SU 0) + (rnds SU WO 64 0))) 1) + (rnds SU WO 64 1))) 2 (((upd (upd SU 0 ((SU 0) + (rnds SU WO 64 0))) 1 (((upd SU 0 ((SU 0) + (rnds SU WO 64 0))) 1) + (rnds SU WO 64 1))) 2) + (rnds SU WO 64 2))) 3 (((upd (upd (upd SU 0 ((SU 0) + (rnds SU WO 64 0))) 1 (((upd SU 0 ((SU 0) + (rnds SU WO 64 0))) 1) + (rnds SU WO 64 1))) 2 (((upd (upd SU 0 ((SU 0) + (rnds SU WO 64 0))) 1 (((upd SU 0 ((SU 0) + (rnds SU WO 64 0))) 1) + (rnds SU WO 64 1))) 2) + (rnds SU WO 64 2))) 3) + (rnds SU WO 64 3))) 4 (((upd (upd (upd (upd SU 0 ((SU 0) + (rnds SU WO 64 0))) 1 (((upd SU 0 ((SU 0) + (rnds SU WO 64 0))) 1) + (rnds SU WO 64 1))) 2 (((upd (upd SU 0 ((SU 0) + (rnds SU WO 64 0))) 1 (((upd SU 0 ((SU 0) + (rnds SU WO 64 0))) 1) + (rnds SU WO 64 1))) 2) + (rnds SU WO 64 2))) 3 (((upd (upd (upd SU 0 ((SU 0) + (rnds SU WO 64 0))) 1 (((upd SU 0 ((SU 0) + (rnds SU WO 64 0))) 1) + (rnds SU WO 64 1))) 2 (((upd (upd SU 0 ((SU 0) + (rnds SU WO 64 0))) 1 (((upd SU 0 ((SU 0) + (rnds SU WO 64 0))) 1) + (rnds SU WO 64 1))) 2) + (rnds SU WO 64 2))) 3) + (rnds SU WO 64 3))) 4) + (rnds SU WO 64 4))) 5 (((upd (upd (upd (upd (upd SU 0 ((SU 0) + (rnds SU WO 64 0))) 1 (((upd SU 0 ((SU 0) + (rnds SU WO 64 0))) 1) + (rnds SU WO 64 1))) 2 (((upd (upd SU 0 ((SU 0) + (rnds SU WO 64 0))) 1 (((upd SU 0 ((SU 0) + (rnds SU WO 64 0))) 1) + (rnds SU WO 64 1))) 2) + (rnds SU WO 64 2))) 3 (((upd (upd (upd SU 0 ((SU 0) + (rnds SU WO 64 0))) 1 (((upd SU 0 ((SU 0) + (rnds SU WO 64 0))) 1) + (rnds SU WO 64 1))) 2 (((upd (upd SU 0 ((SU 0) + (rnds SU WO 64 0))) 1 (((upd SU 0 ((SU 0) + (rnds SU WO 64 0))) 1) + (rnds SU WO 64 1))) 2) + (rnds SU WO 64 2))) 3) + (rnds SU WO 64 3))) 4 (((upd (upd (upd (upd SU 0 ((SU 0) + (rnds SU WO 64 0))) 1 (((upd SU 0 ((SU 0) + (rnds SU WO 64 0))) 1) + (rnds SU WO 64 1))) 2 (((upd (upd SU 0 ((SU 0) + (rnds SU WO 64 0))) 1 (((upd SU 0 ((SU 0) + (rnds SU WO 64 0))) 1) + (rnds SU WO 64 1))) 2) + (rnds SU WO 64 2))) 3 (((upd (upd (upd SU 0 ((SU 0) + (rnds SU WO 64 0))) 1 (((upd SU 0 ((SU 0) + (rnds SU WO 64 0))) 1) + (rnds SU WO 64 1))) 2 (((upd (upd SU 0 ((SU 0) + (rnds SU WO 64 0))) 1 (((upd SU 0 ((SU 0) + (rnds SU WO 64 0))) 1) + (rnds SU WO 64 1))) 2) + (rnds SU WO 64 2))) 3) + (rnds SU WO 64 3))) 4) + (rnds SU WO 64 4))) 5) + (rnds SU WO 64 5))) 6 (((upd (upd (upd (upd (upd (upd SU 0 ((SU 0) + (rnds SU WO 64 0))) 1 (((upd SU 0 ((SU 0) + (rnds SU WO 64 0))) 1) + (rnds SU WO 64 1))) 2 (((upd (upd SU 0 ((SU 0) + (rnds SU WO 64 0))) 1 (((upd SU 0 ((SU 0) + (rnds SU WO 64 0))) 1) + (rnds SU WO 64 1))) 2) + (rnds SU WO 64 2))) 3 (((upd (upd (upd SU 0 ((SU 0) + (rnds SU WO 64 0))) 1 (((upd SU 0 ((SU 0) + (rnds SU WO 64 0))) 1) + (rnds SU WO 64 1))) 2 (((upd (upd SU 0 ((SU 0) + (rnds SU WO 64 0))) 1 (((upd SU 0 ((SU 0) + (rnds SU WO 64 0))) 1) + (rnds SU WO 64 1))) 2) + (rnds SU WO 64 2))) 3) + (rnds SU WO 64 3))) 4 (((upd (upd (upd (upd SU 0 ((SU 0) + (rnds SU WO 64 0))) 1 (((upd SU 0 ((SU 0) + (rnds SU WO 64 0))) 1) + (rnds SU WO 64 1))) 2 (((upd (upd SU 0 ((SU 0) + (rnds SU WO 64 0))) 1 (((upd SU 0 ((SU 0) + (rnds SU WO 64 0))) 1) + (rnds SU WO 64 1))) 2) + (rnds SU WO 64 2))) 3 (((upd (upd (upd SU 0 ((SU 0) + (rnds SU WO 64 0))) 1 (((upd SU 0 ((SU 0) + (rnds SU WO 64 0))) 1) + (rnds SU WO 64 1))) 2 (((upd (upd SU 0 ((SU 0) + (rnds SU WO 64 0))) 1 (((upd SU 0 ((SU 0) + (rnds SU WO 64 0))) 1) + (rnds SU WO 64 1))) 2) + (rnds SU WO 64 2))) 3) + (rnds SU WO 64 3))) 4) + (rnds SU WO 64 4))) 5 (((upd (upd (upd (upd (upd SU 0 ((SU 0) + (rnds SU WO 64 0))) 1 (((upd SU 0 ((SU 0) + (rnds SU WO 64 0))) 1) + (rnds SU WO 64 1))) 2 (((upd (upd SU 0 ((SU 0) + (rnds SU WO 64 0))) 1 (((upd SU 0 ((SU 0) + (rnds SU WO 64 0))) 1) + (rnds SU WO 64 1))) 2) + (rnds SU WO 64 2))) 3 (((upd (upd (upd SU 0 ((SU 0) + (rnds SU WO 64 0))) 1 (((upd SU 0 ((SU 0) + (rnds SU WO 64 0))) 1) + (rnds SU WO 64 1))) 2 (((upd (upd SU 0 ((SU 0) + (rnds SU WO 64 0))) 1 (((upd SU 0 ((SU 0) + (rnds SU WO 64 0))) 1) + (rnds SU WO 64 1))) 2) + (rnds SU WO 64 2))) 3) + (rnds SU WO 64 3))) 4 (((upd (upd (upd (upd SU 0 ((SU 0) + (rnds SU WO 64 0))) 1 (((upd SU 0 ((SU 0) + (rnds SU WO 64 0))) 1) + (rnds SU WO 64 1))) 2 (((upd (upd SU 0 ((SU 0) + (rnds SU WO 64 0))) 1 (((upd SU 0 ((SU 0) + (rnds SU WO 64 0))) 1) + (rnds SU WO 64 1))) 2) + (rnds SU WO 64 2))) 3 (((upd (upd (upd SU 0 ((SU 0) + (rnds SU WO 64 0))) 1 (((upd SU 0 ((SU 0) + (rnds SU WO 64 0))) 1) + (rnds SU WO 64 1))) 2 (((upd (upd SU 0 ((SU 0) + (rnds SU WO 64 0))) 1 (((upd SU 0 ((SU 0) + (rnds SU WO 64 0))) 1) + (rnds SU WO 64 1))) 2) + (rnds SU WO 64 2))) 3) + (rnds SU WO 64 3))) 4) + (rnds SU WO 64 4))) 5) + (rnds SU WO 64 5))) 6) + (rnds SU WO 64 6))) 7 (((upd (upd (upd (upd (upd (upd (upd SU 0 ((SU 0) + (rnds SU WO 64 0))) 1 (((upd SU 0 ((SU 0) + (rnds SU WO 64 0))) 1) + (rnds SU WO 64 1))) 2 (((upd (upd SU 0 ((SU 0) + (rnds SU WO 64 0))) 1 (((upd SU 0 ((SU 0) + (rnds SU WO 64 0))) 1) + (rnds SU WO 64 1))) 2) + (rnds SU WO 64 2))) 3 (((upd (upd (upd SU 0 ((SU 0) + (rnds SU WO 64 0))) 1 (((upd SU 0 ((SU 0) + (rnds SU WO 64 0))) 1) + (rnds SU WO 64 1))) 2 (((upd (upd SU 0 ((SU 0) + (rnds SU WO 64 0))) 1 (((upd SU 0 ((SU 0) + (rnds SU WO 64 0))) 1) + (rnds SU WO 64 1))) 2) + (rnds SU WO 64 2))) 3) + (rnds SU WO 64 3))) 4 (((upd (upd (upd (upd SU 0 ((SU 0) + (rnds SU WO 64 0))) 1 (((upd SU 0 ((SU 0) + (rnds SU WO 64 0))) 1) + (rnds SU WO 64 1))) 2 (((upd (upd SU 0 ((SU 0) + (rnds SU WO 64 0))) 1 (((upd SU 0 ((SU 0) + (rnds SU WO 64 0))) 1) + (rnds SU WO 64 1))) 2) + (rnds SU WO 64 2))) 3 (((upd (upd (upd SU 0 ((SU 0) + (rnds SU WO 64 0))) 1 (((upd SU 0 ((SU 0) + (rnds SU WO 64 0))) 1) + (rnds SU WO 64 1))) 2 (((upd (upd SU 0 ((SU 0) + (rnds SU WO 64 0))) 1 (((upd SU 0 ((SU 0) + (rnds SU WO 64 0))) 1) + (rnds SU WO 64 1))) 2) + (rnds SU WO 64 2))) 3) + (rnds SU WO 64 3))) 4) + (rnds SU WO 64 4))) 5 (((upd (upd (upd (upd (upd SU 0 ((SU 0) + (rnds SU WO 64 0))) 1 (((upd SU 0 ((SU 0) + (rnds SU WO 64 0))) 1) + (rnds SU WO 64 1))) 2 (((upd (upd SU 0 ((SU 0) + (rnds SU WO 64 0))) 1 (((upd SU 0 ((SU 0) + (rnds SU WO 64 0))) 1) + (rnds SU WO 64 1))) 2) + (rnds SU WO 64 2))) 3 (((upd (upd (upd SU 0 ((SU 0) + (rnds SU WO 64 0))) 1 (((upd SU 0 ((SU 0) + (rnds SU WO 64 0))) 1) + (rnds SU WO 64 1))) 2 (((upd (upd SU 0 ((SU 0) + (rnds SU WO 64 0))) 1 (((upd SU 0 ((SU 0) + (rnds SU WO 64 0))) 1) + (rnds SU WO 64 1))) 2) + (rnds SU WO 64 2))) 3) + (rnds SU WO 64 3))) 4 (((upd (upd (upd (upd SU 0 ((SU 0) + (rnds SU WO 64 0))) 1 (((upd SU 0 ((SU 0) + (rnds SU WO 64 0))) 1) + (rnds SU WO 64 1))) 2 (((upd (upd SU 0 ((SU 0) + (rnds SU WO 64 0))) 1 (((upd SU 0 ((SU 0) + (rnds SU WO 64 0))) 1) + (rnds SU WO 64 1))) 2) + (rnds SU WO 64 2))) 3 (((upd (upd (upd SU 0 ((SU 0) + (rnds SU WO 64 0))) 1 (((upd SU 0 ((SU 0) + (rnds SU WO 64 0))) 1) + (rnds SU WO 64 1))) 2 (((upd (upd SU 0 ((SU 0) + (rnds SU WO 64 0))) 1 (((upd SU 0 ((SU 0) + (rnds SU WO 64 0))) 1) + (rnds SU WO 64 1))) 2) + (rnds SU WO 64 2))) 3) + (rnds SU WO 64 3))) 4) + (rnds SU WO 64 4))) 5) + (rnds SU WO 64 5))) 6 (((upd (upd (upd (upd (upd (upd SU 0 ((SU 0) + (rnds SU WO 64 0))) 1 (((upd SU 0 ((SU 0) + (rnds SU WO 64 0))) 1) + (rnds SU WO 64 1))) 2 (((upd (upd SU 0 ((SU 0) + (rnds SU WO 64 0))) 1 (((upd SU 0 ((SU 0) + (rnds SU WO 64 0))) 1) + (rnds SU WO 64 1))) 2) + (rnds SU WO 64 2))) 3 (((upd (upd (upd SU 0 ((SU 0) + (rnds SU WO 64 0))) 1 (((upd SU 0 ((SU 0) + (rnds SU WO 64 0))) 1) + (rnds SU WO 64 1))) 2 (((upd (upd SU 0 ((SU 0) + (rnds SU WO 64 0))) 1 (((upd SU 0 ((SU 0) + (rnds SU WO 64 0))) 1) + (rnds SU WO 64 1))) 2) + (rnds SU WO 64 2))) 3) + (rnds SU WO 64 3))) 4 (((upd (upd (upd (upd SU 0 ((SU 0) + (rnds SU WO 64 0))) 1 (((upd SU 0 ((SU 0) + (rnds SU WO 64 0))) 1) + (rnds SU WO 64 1))) 2 (((upd (upd SU 0 ((SU 0) + (rnds SU WO 64 0))) 1 (((upd SU 0 ((SU 0) + (rnds SU WO 64 0))) 1) + (rnds SU WO 64 1))) 2) + (rnds SU WO 64 2))) 3 (((upd (upd (upd SU 0 ((SU 0) + (rnds SU WO 64 0))) 1 (((upd SU 0 ((SU 0) + (rnds SU WO 64 0))) 1) + (rnds SU WO 64 1))) 2 (((upd (upd SU 0 ((SU 0) + (rnds SU WO 64 0))) 1 (((upd SU 0 ((SU 0) + (rnds SU WO 64 0))) 1) + (rnds SU WO 64 1))) 2) + (rnds SU WO 64 2))) 3) + (rnds SU WO 64 3))) 4) + (rnds SU WO 64 4))) 5 (((upd (upd (upd (upd (upd SU 0 ((SU 0) + (rnds SU WO 64 0))) 1 (((upd SU 0 ((SU 0) + (rnds SU WO 64 0))) 1) + (rnds SU WO 64 1))) 2 (((upd (upd SU 0 ((SU 0) + (rnds SU WO 64 0))) 1 (((upd SU 0 ((SU 0) + (rnds SU WO 64 0))) 1) + (rnds SU WO 64 1))) 2) + (rnds SU WO 64 2))) 3 (((upd (upd (upd SU 0 ((SU 0) + (rnds SU WO 64 0))) 1 (((upd SU 0 ((SU 0) + (rnds SU WO 64 0))) 1) + (rnds SU WO 64 1))) 2 (((upd (upd SU 0 ((SU 0) + (rnds SU WO 64 0))) 1 (((upd SU 0 ((SU 0) + (rnds SU WO 64 0))) 1) + (rnds SU WO 64 1))) 2) + (rnds SU WO 64 2))) 3) + (rnds SU WO 64 3))) 4 (((upd (upd (upd (upd SU 0 ((SU 0) + (rnds SU WO 64 0))) 1 (((upd SU 0 ((SU 0) + (rnds SU WO 64 0))) 1) + (rnds SU WO 64 1))) 2 (((upd (upd SU 0 ((SU 0) + (rnds SU WO 64 0))) 1 (((upd SU 0 ((SU 0) + (rnds SU WO 64 0))) 1) + (rnds SU WO 64 1))) 2) + (rnds SU WO 64 2))) 3 (((upd (upd (upd SU 0 ((SU 0) + (rnds SU WO 64 0))) 1 (((upd SU 0 ((SU 0) + (rnds SU WO 64 0))) 1) + (rnds SU WO 64 1))) 2 (((upd (upd SU 0 ((SU 0) + (rnds SU WO 64 0))) 1 (((upd SU 0 ((SU 0) + (rnds SU WO 64 0))) 1) + (rnds SU WO 64 1))) 2) + (rnds SU WO 64 2))) 3) + (rnds SU WO 64 3))) 4) + (rnds SU WO 64 4))) 5) + (rnds SU WO 64 5))) 6) + (rnds SU WO 64 6))) 7) + (rnds SU WO 64 7))) WO ln kp rd wr ft) _ := hP
        have hD : va_D _ (xW g cA N D R F KD KR FL (upd (upd (upd (upd (upd (upd (upd (upd SU 0 ((SU 0) + (rnds SU WO 64 0))) 1 (((upd SU 0 ((SU 0) + (rnds SU WO 64 0))) 1) + (rnds SU WO 64 1))) 2 (((upd (upd SU 0 ((SU 0) + (rnds SU WO 64 0))) 1 (((upd SU 0 ((SU 0) + (rnds SU WO 64 0))) 1) + (rnds SU WO 64 1))) 2) + (rnds SU WO 64 2))) 3 (((upd (upd (upd SU 0 ((SU 0) + (rnds SU WO 64 0))) 1 (((upd SU 0 ((SU 0) + (rnds SU WO 64 0))) 1) + (rnds SU WO 64 1))) 2 (((upd (upd SU 0 ((SU 0) + (rnds SU WO 64 0))) 1 (((upd SU 0 ((SU 0) + (rnds SU WO 64 0))) 1) + (rnds SU WO 64 1))) 2) + (rnds SU WO 64 2))) 3) + (rnds SU WO 64 3))) 4 (((upd (upd (upd (upd SU 0 ((SU 0) + (rnds SU WO 64 0))) 1 (((upd SU 0 ((SU 0) + (rnds SU WO 64 0))) 1) + (rnds SU WO 64 1))) 2 (((upd (upd SU 0 ((SU 0) + (rnds SU WO 64 0))) 1 (((upd SU 0 ((SU 0) + (rnds SU WO 64 0))) 1) + (rnds SU WO 64 1))) 2) + (rnds SU WO 64 2))) 3 (((upd (upd (upd SU 0 ((SU 0) + (rnds SU WO 64 0))) 1 (((upd SU 0 ((SU 0) + (rnds SU WO 64 0))) 1) + (rnds SU WO 64 1))) 2 (((upd (upd SU 0 ((SU 0) + (rnds SU WO 64 0))) 1 (((upd SU 0 ((SU 0) + (rnds SU WO 64 0))) 1) + (rnds SU WO 64 1))) 2) + (rnds SU WO 64 2))) 3) + (rnds SU WO 64 3))) 4) + (rnds SU WO 64 4))) 5 (((upd (upd (upd (upd (upd SU 0 ((SU 0) + (rnds SU WO 64 0))) 1 (((upd SU 0 ((SU 0) + (rnds SU WO 64 0))) 1) + (rnds SU WO 64 1))) 2 (((upd (upd SU 0 ((SU 0) + (rnds SU WO 64 0))) 1 (((upd SU 0 ((SU 0) + (rnds SU WO 64 0))) 1) + (rnds SU WO 64 1))) 2) + (rnds SU WO 64 2))) 3 (((upd (upd (upd SU 0 ((SU 0) + (rnds SU WO 64 0))) 1 (((upd SU 0 ((SU 0) + (rnds SU WO 64 0))) 1) + (rnds SU WO 64 1))) 2 (((upd (upd SU 0 ((SU 0) + (rnds SU WO 64 0))) 1 (((upd SU 0 ((SU 0) + (rnds SU WO 64 0))) 1) + (rnds SU WO 64 1))) 2) + (rnds SU WO 64 2))) 3) + (rnds SU WO 64 3))) 4 (((upd (upd (upd (upd SU 0 ((SU 0) + (rnds SU WO 64 0))) 1 (((upd SU 0 ((SU 0) + (rnds SU WO 64 0))) 1) + (rnds SU WO 64 1))) 2 (((upd (upd SU 0 ((SU 0) + (rnds SU WO 64 0))) 1 (((upd SU 0 ((SU 0) + (rnds SU WO 64 0))) 1) + (rnds SU WO 64 1))) 2) + (rnds SU WO 64 2))) 3 (((upd (upd (upd SU 0 ((SU 0) + (rnds SU WO 64 0))) 1 (((upd SU 0 ((SU 0) + (rnds SU WO 64 0))) 1) + (rnds SU WO 64 1))) 2 (((upd (upd SU 0 ((SU 0) + (rnds SU WO 64 0))) 1 (((upd SU 0 ((SU 0) + (rnds SU WO 64 0))) 1) + (rnds SU WO 64 1))) 2) + (rnds SU WO 64 2))) 3) + (rnds SU WO 64 3))) 4) + (rnds SU WO 64 4))) 5) + (rnds SU WO 64 5))) 6 (((upd (upd (upd (upd (upd (upd SU 0 ((SU 0) + (rnds SU WO 64 0))) 1 (((upd SU 0 ((SU 0) + (rnds SU WO 64 0))) 1) + (rnds SU WO 64 1))) 2 (((upd (upd SU 0 ((SU 0) + (rnds SU WO 64 0))) 1 (((upd SU 0 ((SU 0) + (rnds SU WO 64 0))) 1) + (rnds SU WO 64 1))) 2) + (rnds SU WO 64 2))) 3 (((upd (upd (upd SU 0 ((SU 0) + (rnds SU WO 64 0))) 1 (((upd SU 0 ((SU 0) + (rnds SU WO 64 0))) 1) + (rnds SU WO 64 1))) 2 (((upd (upd SU 0 ((SU 0) + (rnds SU WO 64 0))) 1 (((upd SU 0 ((SU 0) + (rnds SU WO 64 0))) 1) + (rnds SU WO 64 1))) 2) + (rnds SU WO 64 2))) 3) + (rnds SU WO 64 3))) 4 (((upd (upd (upd (upd SU 0 ((SU 0) + (rnds SU WO 64 0))) 1 (((upd SU 0 ((SU 0) + (rnds SU WO 64 0))) 1) + (rnds SU WO 64 1))) 2 (((upd (upd SU 0 ((SU 0) + (rnds SU WO 64 0))) 1 (((upd SU 0 ((SU 0) + (rnds SU WO 64 0))) 1) + (rnds SU WO 64 1))) 2) + (rnds SU WO 64 2))) 3 (((upd (upd (upd SU 0 ((SU 0) + (rnds SU WO 64 0))) 1 (((upd SU 0 ((SU 0) + (rnds SU WO 64 0))) 1) + (rnds SU WO 64 1))) 2 (((upd (upd SU 0 ((SU 0) + (rnds SU WO 64 0))) 1 (((upd SU 0 ((SU 0) + (rnds SU WO 64 0))) 1) + (rnds SU WO 64 1))) 2) + (rnds SU WO 64 2))) 3) + (rnds SU WO 64 3))) 4) + (rnds SU WO 64 4))) 5 (((upd (upd (upd (upd (upd SU 0 ((SU 0) + (rnds SU WO 64 0))) 1 (((upd SU 0 ((SU 0) + (rnds SU WO 64 0))) 1) + (rnds SU WO 64 1))) 2 (((upd (upd SU 0 ((SU 0) + (rnds SU WO 64 0))) 1 (((upd SU 0 ((SU 0) + (rnds SU WO 64 0))) 1) + (rnds SU WO 64 1))) 2) + (rnds SU WO 64 2))) 3 (((upd (upd (upd SU 0 ((SU 0) + (rnds SU WO 64 0))) 1 (((upd SU 0 ((SU 0) + (rnds SU WO 64 0))) 1) + (rnds SU WO 64 1))) 2 (((upd (upd SU 0 ((SU 0) + (rnds SU WO 64 0))) 1 (((upd SU 0 ((SU 0) + (rnds SU WO 64 0))) 1) + (rnds SU WO 64 1))) 2) + (rnds SU WO 64 2))) 3) + (rnds SU WO 64 3))) 4 (((upd (upd (upd (upd SU 0 ((SU 0) + (rnds SU WO 64 0))) 1 (((upd SU 0 ((SU 0) + (rnds SU WO 64 0))) 1) + (rnds SU WO 64 1))) 2 (((upd (upd SU 0 ((SU 0) + (rnds SU WO 64 0))) 1 (((upd SU 0 ((SU 0) + (rnds SU WO 64 0))) 1) + (rnds SU WO 64 1))) 2) + (rnds SU WO 64 2))) 3 (((upd (upd (upd SU 0 ((SU 0) + (rnds SU WO 64 0))) 1 (((upd SU 0 ((SU 0) + (rnds SU WO 64 0))) 1) + (rnds SU WO 64 1))) 2 (((upd (upd SU 0 ((SU 0) + (rnds SU WO 64 0))) 1 (((upd SU 0 ((SU 0) + (rnds SU WO 64 0))) 1) + (rnds SU WO 64 1))) 2) + (rnds SU WO 64 2))) 3) + (rnds SU WO 64 3))) 4) + (rnds SU WO 64 4))) 5) + (rnds SU WO 64 5))) 6) + (rnds SU WO 64 6))) 7 (((upd (upd (upd (upd (upd (upd (upd SU 0 ((SU 0) + (rnds SU WO 64 0))) 1 (((upd SU 0 ((SU 0) + (rnds SU WO 64 0))) 1) + (rnds SU WO 64 1))) 2 (((upd (upd SU 0 ((SU 0) + (rnds SU WO 64 0))) 1 (((upd SU 0 ((SU 0) + (rnds SU WO 64 0))) 1) + (rnds SU WO 64 1))) 2) + (rnds SU WO 64 2))) 3 (((upd (upd (upd SU 0 ((SU 0) + (rnds SU WO 64 0))) 1 (((upd SU 0 ((SU 0) + (rnds SU WO 64 0))) 1) + (rnds SU WO 64 1))) 2 (((upd (upd SU 0 ((SU 0) + (rnds SU WO 64 0))) 1 (((upd SU 0 ((SU 0) + (rnds SU WO 64 0))) 1) + (rnds SU WO 64 1))) 2) + (rnds SU WO 64 2))) 3) + (rnds SU WO 64 3))) 4 (((upd (upd (upd (upd SU 0 ((SU 0) + (rnds SU WO 64 0))) 1 (((upd SU 0 ((SU 0) + (rnds SU WO 64 0))) 1) + (rnds SU WO 64 1))) 2 (((upd (upd SU 0 ((SU 0) + (rnds SU WO 64 0))) 1 (((upd SU 0 ((SU 0) + (rnds SU WO 64 0))) 1) + (rnds SU WO 64 1))) 2) + (rnds SU WO 64 2))) 3 (((upd (upd (upd SU 0 ((SU 0) + (rnds SU WO 64 0))) 1 (((upd SU 0 ((SU 0) + (rnds SU WO 64 0))) 1) + (rnds SU WO 64 1))) 2 (((upd (upd SU 0 ((SU 0) + (rnds SU WO 64 0))) 1 (((upd SU 0 ((SU 0) + (rnds SU WO 64 0))) 1) + (rnds SU WO 64 1))) 2) + (rnds SU WO 64 2))) 3) + (rnds SU WO 64 3))) 4) + (rnds SU WO 64 4))) 5 (((upd (upd (upd (upd (upd SU 0 ((SU 0) + (rnds SU WO 64 0))) 1 (((upd SU 0 ((SU 0) + (rnds SU WO 64 0))) 1) + (rnds SU WO 64 1))) 2 (((upd (upd SU 0 ((SU 0) + (rnds SU WO 64 0))) 1 (((upd SU 0 ((SU 0) + (rnds SU WO 64 0))) 1) + (rnds SU WO 64 1))) 2) + (rnds SU WO 64 2))) 3 (((upd (upd (upd SU 0 ((SU 0) + (rnds SU WO 64 0))) 1 (((upd SU 0 ((SU 0) + (rnds SU WO 64 0))) 1) + (rnds SU WO 64 1))) 2 (((upd (upd SU 0 ((SU 0) + (rnds SU WO 64 0))) 1 (((upd SU 0 ((SU 0) + (rnds SU WO 64 0))) 1) + (rnds SU WO 64 1))) 2) + (rnds SU WO 64 2))) 3) + (rnds SU WO 64 3))) 4 (((upd (upd (upd (upd SU 0 ((SU 0) + (rnds SU WO 64 0))) 1 (((upd SU 0 ((SU 0) + (rnds SU WO 64 0))) 1) + (rnds SU WO 64 1))) 2 (((upd (upd SU 0 ((SU 0) + (rnds SU WO 64 0))) 1 (((upd SU 0 ((SU 0) + (rnds SU WO 64 0))) 1) + (rnds SU WO 64 1))) 2) + (rnds SU WO 64 2))) 3 (((upd (upd (upd SU 0 ((SU 0) + (rnds SU WO 64 0))) 1 (((upd SU 0 ((SU 0) + (rnds SU WO 64 0))) 1) + (rnds SU WO 64 1))) 2 (((upd (upd SU 0 ((SU 0) + (rnds SU WO 64 0))) 1 (((upd SU 0 ((SU 0) + (rnds SU WO 64 0))) 1) + (rnds SU WO 64 1))) 2) + (rnds SU WO 64 2))) 3) + (rnds SU WO 64 3))) 4) + (rnds SU WO 64 4))) 5) + (rnds SU WO 64 5))) 6 (((upd (upd (upd (upd (upd (upd SU 0 ((SU 0) + (rnds SU WO 64 0))) 1 (((upd SU 0 ((SU 0) + (rnds SU WO 64 0))) 1) + (rnds SU WO 64 1))) 2 (((upd (upd SU 0 ((SU 0) + (rnds SU WO 64 0))) 1 (((upd SU 0 ((SU 0) + (rnds SU WO 64 0))) 1) + (rnds SU WO 64 1))) 2) + (rnds SU WO 64 2))) 3 (((upd (upd (upd SU 0 ((SU 0) + (rnds SU WO 64 0))) 1 (((upd SU 0 ((SU 0) + (rnds SU WO 64 0))) 1) + (rnds SU WO 64 1))) 2 (((upd (upd SU 0 ((SU 0) + (rnds SU WO 64 0))) 1 (((upd SU 0 ((SU 0) + (rnds SU WO 64 0))) 1) + (rnds SU WO 64 1))) 2) + (rnds SU WO 64 2))) 3) + (rnds SU WO 64 3))) 4 (((upd (upd (upd (upd SU 0 ((SU 0) + (rnds SU WO 64 0))) 1 (((upd SU 0 ((SU 0) + (rnds SU WO 64 0))) 1) + (rnds SU WO 64 1))) 2 (((upd (upd SU 0 ((SU 0) + (rnds SU WO 64 0))) 1 (((upd SU 0 ((SU 0) + (rnds SU WO 64 0))) 1) + (rnds SU WO 64 1))) 2) + (rnds SU WO 64 2))) 3 (((upd (upd (upd SU 0 ((SU 0) + (rnds SU WO 64 0))) 1 (((upd SU 0 ((SU 0) + (rnds SU WO 64 0))) 1) + (rnds SU WO 64 1))) 2 (((upd (upd SU 0 ((SU 0) + (rnds SU WO 64 0))) 1 (((upd SU 0 ((SU 0) + (rnds SU WO 64 0))) 1) + (rnds SU WO 64 1))) 2) + (rnds SU WO 64 2))) 3) + (rnds SU WO 64 3))) 4) + (rnds SU WO 64 4))) 5 (((upd (upd (upd (upd (upd SU 0 ((SU 0) + (rnds SU WO 64 0))) 1 (((upd SU 0 ((SU 0) + (rnds SU WO 64 0))) 1) + (rnds SU WO 64 1))) 2 (((upd (upd SU 0 ((SU 0) + (rnds SU WO 64 0))) 1 (((upd SU 0 ((SU 0) + (rnds SU WO 64 0))) 1) + (rnds SU WO 64 1))) 2) + (rnds SU WO 64 2))) 3 (((upd (upd (upd SU 0 ((SU 0) + (rnds SU WO 64 0))) 1 (((upd SU 0 ((SU 0) + (rnds SU WO 64 0))) 1) + (rnds SU WO 64 1))) 2 (((upd (upd SU 0 ((SU 0) + (rnds SU WO 64 0))) 1 (((upd SU 0 ((SU 0) + (rnds SU WO 64 0))) 1) + (rnds SU WO 64 1))) 2) + (rnds SU WO 64 2))) 3) + (rnds SU WO 64 3))) 4 (((upd (upd (upd (upd SU 0 ((SU 0) + (rnds SU WO 64 0))) 1 (((upd SU 0 ((SU 0) + (rnds SU WO 64 0))) 1) + (rnds SU WO 64 1))) 2 (((upd (upd SU 0 ((SU 0) + (rnds SU WO 64 0))) 1 (((upd SU 0 ((SU 0) + (rnds SU WO 64 0))) 1) + (rnds SU WO 64 1))) 2) + (rnds SU WO 64 2))) 3 (((upd (upd (upd SU 0 ((SU 0) + (rnds SU WO 64 0))) 1 (((upd SU 0 ((SU 0) + (rnds SU WO 64 0))) 1) + (rnds SU WO 64 1))) 2 (((upd (upd SU 0 ((SU 0) + (rnds SU WO 64 0))) 1 (((upd SU 0 ((SU 0) + (rnds SU WO 64 0))) 1) + (rnds SU WO 64 1))) 2) + (rnds SU WO 64 2))) 3) + (rnds SU WO 64 3))) 4) + (rnds SU WO 64 4))) 5) + (rnds SU WO 64 5))) 6) + (rnds SU WO 64 6))) 7) + (rnds SU WO 64 7))) WO ln kp rd wr ft) := hD
        exact hret (upd (upd (upd (upd (upd (upd (upd (upd SU 0 ((SU 0) + (rnds SU WO 64 0))) 1 (((upd SU 0 ((SU 0) + (rnds SU WO 64 0))) 1) + (rnds SU WO 64 1))) 2 (((upd (upd SU 0 ((SU 0) + (rnds SU WO 64 0))) 1 (((upd SU 0 ((SU 0) + (rnds SU WO 64 0))) 1) + (rnds SU WO 64 1))) 2) + (rnds SU WO 64 2))) 3 (((upd (upd (upd SU 0 ((SU 0) + (rnds SU WO 64 0))) 1 (((upd SU 0 ((SU 0) + (rnds SU WO 64 0))) 1) + (rnds SU WO 64 1))) 2 (((upd (upd SU 0 ((SU 0) + (rnds SU WO 64 0))) 1 (((upd SU 0 ((SU 0) + (rnds SU WO 64 0))) 1) + (rnds SU WO 64 1))) 2) + (rnds SU WO 64 2))) 3) + (rnds SU WO 64 3))) 4 (((upd (upd (upd (upd SU 0 ((SU 0) + (rnds SU WO 64 0))) 1 (((upd SU 0 ((SU 0) + (rnds SU WO 64 0))) 1) + (rnds SU WO 64 1))) 2 (((upd (upd SU 0 ((SU 0) + (rnds SU WO 64 0))) 1 (((upd SU 0 ((SU 0) + (rnds SU WO 64 0))) 1) + (rnds SU WO 64 1))) 2) + (rnds SU WO 64 2))) 3 (((upd (upd (upd SU 0 ((SU 0) + (rnds SU WO 64 0))) 1 (((upd SU 0 ((SU 0) + (rnds SU WO 64 0))) 1) + (rnds SU WO 64 1))) 2 (((upd (upd SU 0 ((SU 0) + (rnds SU WO 64 0))) 1 (((upd SU 0 ((SU 0) + (rnds SU WO 64 0))) 1) + (rnds SU WO 64 1))) 2) + (rnds SU WO 64 2))) 3) + (rnds SU WO 64 3))) 4) + (rnds SU WO 64 4))) 5 (((upd (upd (upd (upd (upd SU 0 ((SU 0) + (rnds SU WO 64 0))) 1 (((upd SU 0 ((SU 0) + (rnds SU WO 64 0))) 1) + (rnds SU WO 64 1))) 2 (((upd (upd SU 0 ((SU 0) + (rnds SU WO 64 0))) 1 (((upd SU 0 ((SU 0) + (rnds SU WO 64 0))) 1) + (rnds SU WO 64 1))) 2) + (rnds SU WO 64 2))) 3 (((upd (upd (upd SU 0 ((SU 0) + (rnds SU WO 64 0))) 1 (((upd SU 0 ((SU 0) + (rnds SU WO 64 0))) 1) + (rnds SU WO 64 1))) 2 (((upd (upd SU 0 ((SU 0) + (rnds SU WO 64 0))) 1 (((upd SU 0 ((SU 0) + (rnds SU WO 64 0))) 1) + (rnds SU WO 64 1))) 2) + (rnds SU WO 64 2))) 3) + (rnds SU WO 64 3))) 4 (((upd (upd (upd (upd SU 0 ((SU 0) + (rnds SU WO 64 0))) 1 (((upd SU 0 ((SU 0) + (rnds SU WO 64 0))) 1) + (rnds SU WO 64 1))) 2 (((upd (upd SU 0 ((SU 0) + (rnds SU WO 64 0))) 1 (((upd SU 0 ((SU 0) + (rnds SU WO 64 0))) 1) + (rnds SU WO 64 1))) 2) + (rnds SU WO 64 2))) 3 (((upd (upd (upd SU 0 ((SU 0) + (rnds SU WO 64 0))) 1 (((upd SU 0 ((SU 0) + (rnds SU WO 64 0))) 1) + (rnds SU WO 64 1))) 2 (((upd (upd SU 0 ((SU 0) + (rnds SU WO 64 0))) 1 (((upd SU 0 ((SU 0) + (rnds SU WO 64 0))) 1) + (rnds SU WO 64 1))) 2) + (rnds SU WO 64 2))) 3) + (rnds SU WO 64 3))) 4) + (rnds SU WO 64 4))) 5) + (rnds SU WO 64 5))) 6 (((upd (upd (upd (upd (upd (upd SU 0 ((SU 0) + (rnds SU WO 64 0))) 1 (((upd SU 0 ((SU 0) + (rnds SU WO 64 0))) 1) + (rnds SU WO 64 1))) 2 (((upd (upd SU 0 ((SU 0) + (rnds SU WO 64 0))) 1 (((upd SU 0 ((SU 0) + (rnds SU WO 64 0))) 1) + (rnds SU WO 64 1))) 2) + (rnds SU WO 64 2))) 3 (((upd (upd (upd SU 0 ((SU 0) + (rnds SU WO 64 0))) 1 (((upd SU 0 ((SU 0) + (rnds SU WO 64 0))) 1) + (rnds SU WO 64 1))) 2 (((upd (upd SU 0 ((SU 0) + (rnds SU WO 64 0))) 1 (((upd SU 0 ((SU 0) + (rnds SU WO 64 0))) 1) + (rnds SU WO 64 1))) 2) + (rnds SU WO 64 2))) 3) + (rnds SU WO 64 3))) 4 (((upd (upd (upd (upd SU 0 ((SU 0) + (rnds SU WO 64 0))) 1 (((upd SU 0 ((SU 0) + (rnds SU WO 64 0))) 1) + (rnds SU WO 64 1))) 2 (((upd (upd SU 0 ((SU 0) + (rnds SU WO 64 0))) 1 (((upd SU 0 ((SU 0) + (rnds SU WO 64 0))) 1) + (rnds SU WO 64 1))) 2) + (rnds SU WO 64 2))) 3 (((upd (upd (upd SU 0 ((SU 0) + (rnds SU WO 64 0))) 1 (((upd SU 0 ((SU 0) + (rnds SU WO 64 0))) 1) + (rnds SU WO 64 1))) 2 (((upd (upd SU 0 ((SU 0) + (rnds SU WO 64 0))) 1 (((upd SU 0 ((SU 0) + (rnds SU WO 64 0))) 1) + (rnds SU WO 64 1))) 2) + (rnds SU WO 64 2))) 3) + (rnds SU WO 64 3))) 4) + (rnds SU WO 64 4))) 5 (((upd (upd (upd (upd (upd SU 0 ((SU 0) + (rnds SU WO 64 0))) 1 (((upd SU 0 ((SU 0) + (rnds SU WO 64 0))) 1) + (rnds SU WO 64 1))) 2 (((upd (upd SU 0 ((SU 0) + (rnds SU WO 64 0))) 1 (((upd SU 0 ((SU 0) + (rnds SU WO 64 0))) 1) + (rnds SU WO 64 1))) 2) + (rnds SU WO 64 2))) 3 (((upd (upd (upd SU 0 ((SU 0) + (rnds SU WO 64 0))) 1 (((upd SU 0 ((SU 0) + (rnds SU WO 64 0))) 1) + (rnds SU WO 64 1))) 2 (((upd (upd SU 0 ((SU 0) + (rnds SU WO 64 0))) 1 (((upd SU 0 ((SU 0) + (rnds SU WO 64 0))) 1) + (rnds SU WO 64 1))) 2) + (rnds SU WO 64 2))) 3) + (rnds SU WO 64 3))) 4 (((upd (upd (upd (upd SU 0 ((SU 0) + (rnds SU WO 64 0))) 1 (((upd SU 0 ((SU 0) + (rnds SU WO 64 0))) 1) + (rnds SU WO 64 1))) 2 (((upd (upd SU 0 ((SU 0) + (rnds SU WO 64 0))) 1 (((upd SU 0 ((SU 0) + (rnds SU WO 64 0))) 1) + (rnds SU WO 64 1))) 2) + (rnds SU WO 64 2))) 3 (((upd (upd (upd SU 0 ((SU 0) + (rnds SU WO 64 0))) 1 (((upd SU 0 ((SU 0) + (rnds SU WO 64 0))) 1) + (rnds SU WO 64 1))) 2 (((upd (upd SU 0 ((SU 0) + (rnds SU WO 64 0))) 1 (((upd SU 0 ((SU 0) + (rnds SU WO 64 0))) 1) + (rnds SU WO 64 1))) 2) + (rnds SU WO 64 2))) 3) + (rnds SU WO 64 3))) 4) + (rnds SU WO 64 4))) 5) + (rnds SU WO 64 5))) 6) + (rnds SU WO 64 6))) 7 (((upd (upd (upd (upd (upd (upd (upd SU 0 ((SU 0) + (rnds SU WO 64 0))) 1 (((upd SU 0 ((SU 0) + (rnds SU WO 64 0))) 1) + (rnds SU WO 64 1))) 2 (((upd (upd SU 0 ((SU 0) + (rnds SU WO 64 0))) 1 (((upd SU 0 ((SU 0) + (rnds SU WO 64 0))) 1) + (rnds SU WO 64 1))) 2) + (rnds SU WO 64 2))) 3 (((upd (upd (upd SU 0 ((SU 0) + (rnds SU WO 64 0))) 1 (((upd SU 0 ((SU 0) + (rnds SU WO 64 0))) 1) + (rnds SU WO 64 1))) 2 (((upd (upd SU 0 ((SU 0) + (rnds SU WO 64 0))) 1 (((upd SU 0 ((SU 0) + (rnds SU WO 64 0))) 1) + (rnds SU WO 64 1))) 2) + (rnds SU WO 64 2))) 3) + (rnds SU WO 64 3))) 4 (((upd (upd (upd (upd SU 0 ((SU 0) + (rnds SU WO 64 0))) 1 (((upd SU 0 ((SU 0) + (rnds SU WO 64 0))) 1) + (rnds SU WO 64 1))) 2 (((upd (upd SU 0 ((SU 0) + (rnds SU WO 64 0))) 1 (((upd SU 0 ((SU 0) + (rnds SU WO 64 0))) 1) + (rnds SU WO 64 1))) 2) + (rnds SU WO 64 2))) 3 (((upd (upd (upd SU 0 ((SU 0) + (rnds SU WO 64 0))) 1 (((upd SU 0 ((SU 0) + (rnds SU WO 64 0))) 1) + (rnds SU WO 64 1))) 2 (((upd (upd SU 0 ((SU 0) + (rnds SU WO 64 0))) 1 (((upd SU 0 ((SU 0) + (rnds SU WO 64 0))) 1) + (rnds SU WO 64 1))) 2) + (rnds SU WO 64 2))) 3) + (rnds SU WO 64 3))) 4) + (rnds SU WO 64 4))) 5 (((upd (upd (upd (upd (upd SU 0 ((SU 0) + (rnds SU WO 64 0))) 1 (((upd SU 0 ((SU 0) + (rnds SU WO 64 0))) 1) + (rnds SU WO 64 1))) 2 (((upd (upd SU 0 ((SU 0) + (rnds SU WO 64 0))) 1 (((upd SU 0 ((SU 0) + (rnds SU WO 64 0))) 1) + (rnds SU WO 64 1))) 2) + (rnds SU WO 64 2))) 3 (((upd (upd (upd SU 0 ((SU 0) + (rnds SU WO 64 0))) 1 (((upd SU 0 ((SU 0) + (rnds SU WO 64 0))) 1) + (rnds SU WO 64 1))) 2 (((upd (upd SU 0 ((SU 0) + (rnds SU WO 64 0))) 1 (((upd SU 0 ((SU 0) + (rnds SU WO 64 0))) 1) + (rnds SU WO 64 1))) 2) + (rnds SU WO 64 2))) 3) + (rnds SU WO 64 3))) 4 (((upd (upd (upd (upd SU 0 ((SU 0) + (rnds SU WO 64 0))) 1 (((upd SU 0 ((SU 0) + (rnds SU WO 64 0))) 1) + (rnds SU WO 64 1))) 2 (((upd (upd SU 0 ((SU 0) + (rnds SU WO 64 0))) 1 (((upd SU 0 ((SU 0) + (rnds SU WO 64 0))) 1) + (rnds SU WO 64 1))) 2) + (rnds SU WO 64 2))) 3 (((upd (upd (upd SU 0 ((SU 0) + (rnds SU WO 64 0))) 1 (((upd SU 0 ((SU 0) + (rnds SU WO 64 0))) 1) + (rnds SU WO 64 1))) 2 (((upd (upd SU 0 ((SU 0) + (rnds SU WO 64 0))) 1 (((upd SU 0 ((SU 0) + (rnds SU WO 64 0))) 1) + (rnds SU WO 64 1))) 2) + (rnds SU WO 64 2))) 3) + (rnds SU WO 64 3))) 4) + (rnds SU WO 64 4))) 5) + (rnds SU WO 64 5))) 6 (((upd (upd (upd (upd (upd (upd SU 0 ((SU 0) + (rnds SU WO 64 0))) 1 (((upd SU 0 ((SU 0) + (rnds SU WO 64 0))) 1) + (rnds SU WO 64 1))) 2 (((upd (upd SU 0 ((SU 0) + (rnds SU WO 64 0))) 1 (((upd SU 0 ((SU 0) + (rnds SU WO 64 0))) 1) + (rnds SU WO 64 1))) 2) + (rnds SU WO 64 2))) 3 (((upd (upd (upd SU 0 ((SU 0) + (rnds SU WO 64 0))) 1 (((upd SU 0 ((SU 0) + (rnds SU WO 64 0))) 1) + (rnds SU WO 64 1))) 2 (((upd (upd SU 0 ((SU 0) + (rnds SU WO 64 0))) 1 (((upd SU 0 ((SU 0) + (rnds SU WO 64 0))) 1) + (rnds SU WO 64 1))) 2) + (rnds SU WO 64 2))) 3) + (rnds SU WO 64 3))) 4 (((upd (upd (upd (upd SU 0 ((SU 0) + (rnds SU WO 64 0))) 1 (((upd SU 0 ((SU 0) + (rnds SU WO 64 0))) 1) + (rnds SU WO 64 1))) 2 (((upd (upd SU 0 ((SU 0) + (rnds SU WO 64 0))) 1 (((upd SU 0 ((SU 0) + (rnds SU WO 64 0))) 1) + (rnds SU WO 64 1))) 2) + (rnds SU WO 64 2))) 3 (((upd (upd (upd SU 0 ((SU 0) + (rnds SU WO 64 0))) 1 (((upd SU 0 ((SU 0) + (rnds SU WO 64 0))) 1) + (rnds SU WO 64 1))) 2 (((upd (upd SU 0 ((SU 0) + (rnds SU WO 64 0))) 1 (((upd SU 0 ((SU 0) + (rnds SU WO 64 0))) 1) + (rnds SU WO 64 1))) 2) + (rnds SU WO 64 2))) 3) + (rnds SU WO 64 3))) 4) + (rnds SU WO 64 4))) 5 (((upd (upd (upd (upd (upd SU 0 ((SU 0) + (rnds SU WO 64 0))) 1 (((upd SU 0 ((SU 0) + (rnds SU WO 64 0))) 1) + (rnds SU WO 64 1))) 2 (((upd (upd SU 0 ((SU 0) + (rnds SU WO 64 0))) 1 (((upd SU 0 ((SU 0) + (rnds SU WO 64 0))) 1) + (rnds SU WO 64 1))) 2) + (rnds SU WO 64 2))) 3 (((upd (upd (upd SU 0 ((SU 0) + (rnds SU WO 64 0))) 1 (((upd SU 0 ((SU 0) + (rnds SU WO 64 0))) 1) + (rnds SU WO 64 1))) 2 (((upd (upd SU 0 ((SU 0) + (rnds SU WO 64 0))) 1 (((upd SU 0 ((SU 0) + (rnds SU WO 64 0))) 1) + (rnds SU WO 64 1))) 2) + (rnds SU WO 64 2))) 3) + (rnds SU WO 64 3))) 4 (((upd (upd (upd (upd SU 0 ((SU 0) + (rnds SU WO 64 0))) 1 (((upd SU 0 ((SU 0) + (rnds SU WO 64 0))) 1) + (rnds SU WO 64 1))) 2 (((upd (upd SU 0 ((SU 0) + (rnds SU WO 64 0))) 1 (((upd SU 0 ((SU 0) + (rnds SU WO 64 0))) 1) + (rnds SU WO 64 1))) 2) + (rnds SU WO 64 2))) 3 (((upd (upd (upd SU 0 ((SU 0) + (rnds SU WO 64 0))) 1 (((upd SU 0 ((SU 0) + (rnds SU WO 64 0))) 1) + (rnds SU WO 64 1))) 2 (((upd (upd SU 0 ((SU 0) + (rnds SU WO 64 0))) 1 (((upd SU 0 ((SU 0) + (rnds SU WO 64 0))) 1) + (rnds SU WO 64 1))) 2) + (rnds SU WO 64 2))) 3) + (rnds SU WO 64 3))) 4) + (rnds SU WO 64 4))) 5) + (rnds SU WO 64 5))) 6) + (rnds SU WO 64 6))) 7) + (rnds SU WO 64 7))) _ _ _ _ dX0_mixBlock_317 hP hD hS (by
            intro zj hj
            rcases (show zj = 0 ∨ zj = 1 ∨ zj = 2 ∨ zj = 3 ∨ zj = 4 ∨ zj = 5 ∨ zj = 6 ∨ zj = 7 by omega) with h | h | h | h | h | h | h | h <;> subst h <;> simp [upd, cmp])
      · skip
        have c_1 : ¬ 64 ≤ zt := fun z => c_1 ((nI_leI (a := 64) (b := zt) (by omega) (by omega)).mpr z)
        refine lv_iload hx hb dX0_mixBlock_73 (lv_at hl 5 rfl) ?_
        refine lv_bipush (v := 6) hx hb dX0_mixBlock_75 (by decide) ?_
        refine lv_iushr (v := us (rnds SU WO zt 4) 6) hx hb dX0_mixBlock_77 rfl ?_
        refine lv_iload hx hb dX0_mixBlock_78 (lv_at hl 5 rfl) ?_
        refine lv_bipush (v := 26) hx hb dX0_mixBlock_80 (by decide) ?_
        refine lv_ishl hx hb dX0_mixBlock_82 ?_
        refine x_eqi (y := sl (rnds SU WO zt 4) 26) rfl ?_
        refine lv_ior hx hb dX0_mixBlock_83 ?_
        refine lv_iload hx hb dX0_mixBlock_84 (lv_at hl 5 rfl) ?_
        refine lv_bipush (v := 11) hx hb dX0_mixBlock_86 (by decide) ?_
        refine lv_iushr (v := us (rnds SU WO zt 4) 11) hx hb dX0_mixBlock_88 rfl ?_
        refine lv_iload hx hb dX0_mixBlock_89 (lv_at hl 5 rfl) ?_
        refine lv_bipush (v := 21) hx hb dX0_mixBlock_91 (by decide) ?_
        refine lv_ishl hx hb dX0_mixBlock_93 ?_
        refine x_eqi (y := sl (rnds SU WO zt 4) 21) rfl ?_
        refine lv_ior hx hb dX0_mixBlock_94 ?_
        refine lv_ixor hx hb dX0_mixBlock_95 ?_
        refine lv_iload hx hb dX0_mixBlock_96 (lv_at hl 5 rfl) ?_
        refine lv_bipush (v := 25) hx hb dX0_mixBlock_98 (by decide) ?_
        refine lv_iushr (v := us (rnds SU WO zt 4) 25) hx hb dX0_mixBlock_100 rfl ?_
        refine lv_iload hx hb dX0_mixBlock_101 (lv_at hl 5 rfl) ?_
        refine lv_bipush (v := 7) hx hb dX0_mixBlock_103 (by decide) ?_
        refine lv_ishl hx hb dX0_mixBlock_105 ?_
        refine x_eqi (y := sl (rnds SU WO zt 4) 7) rfl ?_
        refine lv_ior hx hb dX0_mixBlock_106 ?_
        refine lv_ixor hx hb dX0_mixBlock_107 ?_
        refine lv_topi (fun x10_2 ex10_2 => ?_)
        refine lv_istore (lv' := [(10, .int x10_2), (0, .ref (g 2)), (1, .int (rnds SU WO zt 0)), (2, .int (rnds SU WO zt 1)), (3, .int (rnds SU WO zt 2)), (4, .int (rnds SU WO zt 3)), (5, .int (rnds SU WO zt 4)), (6, .int (rnds SU WO zt 5)), (7, .int (rnds SU WO zt 6)), (8, .int (rnds SU WO zt 7)), (9, .int (nI zt))]) hx hb dX0_mixBlock_108 hl (by decide) rfl (fun ls hl => ?_)
        refine lv_iload_n hx hb dX0_mixBlock_110 rfl (lv_at hl 2 rfl) ?_
        refine lv_iconst (v := 2) hx hb dX0_mixBlock_111 (by decide) ?_
        refine lv_iushr (v := us (rnds SU WO zt 0) 2) hx hb dX0_mixBlock_112 rfl ?_
        refine lv_iload_n hx hb dX0_mixBlock_113 rfl (lv_at hl 2 rfl) ?_
        refine lv_bipush (v := 30) hx hb dX0_mixBlock_114 (by decide) ?_
        refine lv_ishl hx hb dX0_mixBlock_116 ?_
        refine x_eqi (y := sl (rnds SU WO zt 0) 30) rfl ?_
        refine lv_ior hx hb dX0_mixBlock_117 ?_
        refine lv_iload_n hx hb dX0_mixBlock_118 rfl (lv_at hl 2 rfl) ?_
        refine lv_bipush (v := 13) hx hb dX0_mixBlock_119 (by decide) ?_
        refine lv_iushr (v := us (rnds SU WO zt 0) 13) hx hb dX0_mixBlock_121 rfl ?_
        refine lv_iload_n hx hb dX0_mixBlock_122 rfl (lv_at hl 2 rfl) ?_
        refine lv_bipush (v := 19) hx hb dX0_mixBlock_123 (by decide) ?_
        refine lv_ishl hx hb dX0_mixBlock_125 ?_
        refine x_eqi (y := sl (rnds SU WO zt 0) 19) rfl ?_
        refine lv_ior hx hb dX0_mixBlock_126 ?_
        refine lv_ixor hx hb dX0_mixBlock_127 ?_
        refine lv_iload_n hx hb dX0_mixBlock_128 rfl (lv_at hl 2 rfl) ?_
        refine lv_bipush (v := 22) hx hb dX0_mixBlock_129 (by decide) ?_
        refine lv_iushr (v := us (rnds SU WO zt 0) 22) hx hb dX0_mixBlock_131 rfl ?_
        refine lv_iload_n hx hb dX0_mixBlock_132 rfl (lv_at hl 2 rfl) ?_
        refine lv_bipush (v := 10) hx hb dX0_mixBlock_133 (by decide) ?_
        refine lv_ishl hx hb dX0_mixBlock_135 ?_
        refine x_eqi (y := sl (rnds SU WO zt 0) 10) rfl ?_
        refine lv_ior hx hb dX0_mixBlock_136 ?_
        refine lv_ixor hx hb dX0_mixBlock_137 ?_
        refine lv_topi (fun x11_3 ex11_3 => ?_)
        refine lv_istore (lv' := [(11, .int x11_3), (10, .int x10_2), (0, .ref (g 2)), (1, .int (rnds SU WO zt 0)), (2, .int (rnds SU WO zt 1)), (3, .int (rnds SU WO zt 2)), (4, .int (rnds SU WO zt 3)), (5, .int (rnds SU WO zt 4)), (6, .int (rnds SU WO zt 5)), (7, .int (rnds SU WO zt 6)), (8, .int (rnds SU WO zt 7)), (9, .int (nI zt))]) hx hb dX0_mixBlock_138 hl (by decide) rfl (fun ls hl => ?_)
        refine lv_iload hx hb dX0_mixBlock_140 (lv_at hl 10 rfl) ?_
        refine lv_iload hx hb dX0_mixBlock_142 (lv_at hl 1 rfl) ?_
        refine lv_iadd hx hb dX0_mixBlock_144 ?_
        refine lv_iload hx hb dX0_mixBlock_145 (lv_at hl 7 rfl) ?_
        refine lv_iload hx hb dX0_mixBlock_147 (lv_at hl 8 rfl) ?_
        refine lv_iand hx hb dX0_mixBlock_149 ?_
        refine lv_iload hx hb dX0_mixBlock_150 (lv_at hl 7 rfl) ?_
        refine lv_iconst (v := (-1)) hx hb dX0_mixBlock_152 (by decide) ?_
        refine lv_ixor hx hb dX0_mixBlock_153 ?_
        refine lv_iload hx hb dX0_mixBlock_154 (lv_at hl 9 rfl) ?_
        refine lv_iand hx hb dX0_mixBlock_156 ?_
        refine lv_ixor hx hb dX0_mixBlock_157 ?_
        refine lv_iadd hx hb dX0_mixBlock_158 ?_
        refine va_gets (v := .ref tC) hx hb hT.2.2.1 hS hown (hts (.fieldLink RX0 47 "SealedPages$Hasher" "CONSTANTS" "[I") (by decide +kernel)) (fun _ h => h) dX0_mixBlock_159 ?_
        refine lv_iload hx hb dX0_mixBlock_162 (lv_at hl 11 rfl) ?_
        refine x_tld (i := zt) hx hb hT.2.2.2.1 hS (by omega) (by decide) dX0_mixBlock_164 ?_
        refine lv_iadd hx hb dX0_mixBlock_165 ?_
        refine lv_aload_n hx hb dX0_mixBlock_166 rfl (lv_at hl 2 rfl) ?_
        refine va_get (D := G) (ci := 0) (v := .ref (g 12)) (C := RX0) (T := TX0) (N := 3) hx hb hts hinX0 hown hK hP 2 rfl rfl 1 (by decide) (hts (.fieldLink RX0 15 "SealedPages$Hasher" "words" "[I") (by decide +kernel)) (fun _ h => h) rfl dX0_mixBlock_167 ?_
        refine lv_iload hx hb dX0_mixBlock_170 (lv_at hl 11 rfl) ?_
        refine x_ald (i := zt) hx hb hK hP 12 0 rfl rfl (by omega) (by decide) dX0_mixBlock_172 ?_
        refine lv_iadd hx hb dX0_mixBlock_173 ?_
        refine x_eqi (y := rT1 (rnds SU WO zt) (kC zt) (WO zt)) (by subst_vars; unfold rT1; rw [r_6, r_11, r_25]) ?_
        refine lv_topi (fun x12_4 ex12_4 => ?_)
        refine lv_istore (lv' := [(12, .int x12_4), (11, .int x11_3), (10, .int x10_2), (0, .ref (g 2)), (1, .int (rnds SU WO zt 0)), (2, .int (rnds SU WO zt 1)), (3, .int (rnds SU WO zt 2)), (4, .int (rnds SU WO zt 3)), (5, .int (rnds SU WO zt 4)), (6, .int (rnds SU WO zt 5)), (7, .int (rnds SU WO zt 6)), (8, .int (rnds SU WO zt 7)), (9, .int (nI zt))]) hx hb dX0_mixBlock_174 hl (by decide) rfl (fun ls hl => ?_)
        refine lv_iload hx hb dX0_mixBlock_176 (lv_at hl 1 rfl) ?_
        refine lv_iload_n hx hb dX0_mixBlock_178 rfl (lv_at hl 4 rfl) ?_
        refine lv_iload_n hx hb dX0_mixBlock_179 rfl (lv_at hl 5 rfl) ?_
        refine lv_iand hx hb dX0_mixBlock_180 ?_
        refine lv_iload_n hx hb dX0_mixBlock_181 rfl (lv_at hl 4 rfl) ?_
        refine lv_iload_n hx hb dX0_mixBlock_182 rfl (lv_at hl 6 rfl) ?_
        refine lv_iand hx hb dX0_mixBlock_183 ?_
        refine lv_ixor hx hb dX0_mixBlock_184 ?_
        refine lv_iload_n hx hb dX0_mixBlock_185 rfl (lv_at hl 5 rfl) ?_
        refine lv_iload_n hx hb dX0_mixBlock_186 rfl (lv_at hl 6 rfl) ?_
        refine lv_iand hx hb dX0_mixBlock_187 ?_
        refine lv_ixor hx hb dX0_mixBlock_188 ?_
        refine lv_iadd hx hb dX0_mixBlock_189 ?_
        refine x_eqi (y := rT2 (rnds SU WO zt)) (by subst_vars; unfold rT2; rw [r_2, r_13, r_22]) ?_
        refine lv_topi (fun x13_5 ex13_5 => ?_)
        refine lv_istore (lv' := [(13, .int x13_5), (12, .int x12_4), (11, .int x11_3), (10, .int x10_2), (0, .ref (g 2)), (1, .int (rnds SU WO zt 0)), (2, .int (rnds SU WO zt 1)), (3, .int (rnds SU WO zt 2)), (4, .int (rnds SU WO zt 3)), (5, .int (rnds SU WO zt 4)), (6, .int (rnds SU WO zt 5)), (7, .int (rnds SU WO zt 6)), (8, .int (rnds SU WO zt 7)), (9, .int (nI zt))]) hx hb dX0_mixBlock_190 hl (by decide) rfl (fun ls hl => ?_)
        refine lv_iload hx hb dX0_mixBlock_192 (lv_at hl 11 rfl) ?_
        refine lv_topi (fun x8_6 ex8_6 => ?_)
        refine lv_istore (lv' := [(8, .int x8_6), (13, .int x13_5), (12, .int x12_4), (11, .int x11_3), (10, .int x10_2), (0, .ref (g 2)), (1, .int (rnds SU WO zt 0)), (2, .int (rnds SU WO zt 1)), (3, .int (rnds SU WO zt 2)), (4, .int (rnds SU WO zt 3)), (5, .int (rnds SU WO zt 4)), (6, .int (rnds SU WO zt 5)), (7, .int (rnds SU WO zt 6)), (9, .int (nI zt))]) hx hb dX0_mixBlock_194 hl (by decide) rfl (fun ls hl => ?_)
        refine lv_iload hx hb dX0_mixBlock_196 (lv_at hl 11 rfl) ?_
        refine lv_topi (fun x7_7 ex7_7 => ?_)
        refine lv_istore (lv' := [(7, .int x7_7), (8, .int x8_6), (13, .int x13_5), (12, .int x12_4), (11, .int x11_3), (10, .int x10_2), (0, .ref (g 2)), (1, .int (rnds SU WO zt 0)), (2, .int (rnds SU WO zt 1)), (3, .int (rnds SU WO zt 2)), (4, .int (rnds SU WO zt 3)), (5, .int (rnds SU WO zt 4)), (6, .int (rnds SU WO zt 5)), (9, .int (nI zt))]) hx hb dX0_mixBlock_198 hl (by decide) rfl (fun ls hl => ?_)
        refine lv_iload hx hb dX0_mixBlock_200 (lv_at hl 11 rfl) ?_
        refine lv_topi (fun x6_8 ex6_8 => ?_)
        refine lv_istore (lv' := [(6, .int x6_8), (7, .int x7_7), (8, .int x8_6), (13, .int x13_5), (12, .int x12_4), (11, .int x11_3), (10, .int x10_2), (0, .ref (g 2)), (1, .int (rnds SU WO zt 0)), (2, .int (rnds SU WO zt 1)), (3, .int (rnds SU WO zt 2)), (4, .int (rnds SU WO zt 3)), (5, .int (rnds SU WO zt 4)), (9, .int (nI zt))]) hx hb dX0_mixBlock_202 hl (by decide) rfl (fun ls hl => ?_)
        refine lv_iload hx hb dX0_mixBlock_204 (lv_at hl 11 rfl) ?_
        refine lv_iload hx hb dX0_mixBlock_206 (lv_at hl 4 rfl) ?_
        refine lv_iadd hx hb dX0_mixBlock_208 ?_
        refine x_eqi (y := rnds SU WO (zt + 1) 4) (by subst_vars; rfl) ?_
        refine lv_topi (fun x5_9 ex5_9 => ?_)
        refine lv_istore (lv' := [(5, .int x5_9), (6, .int x6_8), (7, .int x7_7), (8, .int x8_6), (13, .int x13_5), (12, .int x12_4), (11, .int x11_3), (10, .int x10_2), (0, .ref (g 2)), (1, .int (rnds SU WO zt 0)), (2, .int (rnds SU WO zt 1)), (3, .int (rnds SU WO zt 2)), (4, .int (rnds SU WO zt 3)), (9, .int (nI zt))]) hx hb dX0_mixBlock_209 hl (by decide) rfl (fun ls hl => ?_)
        refine lv_iload_n hx hb dX0_mixBlock_211 rfl (lv_at hl 11 rfl) ?_
        refine lv_topi (fun x4_10 ex4_10 => ?_)
        refine lv_istore (lv' := [(4, .int x4_10), (5, .int x5_9), (6, .int x6_8), (7, .int x7_7), (8, .int x8_6), (13, .int x13_5), (12, .int x12_4), (11, .int x11_3), (10, .int x10_2), (0, .ref (g 2)), (1, .int (rnds SU WO zt 0)), (2, .int (rnds SU WO zt 1)), (3, .int (rnds SU WO zt 2)), (9, .int (nI zt))]) hx hb dX0_mixBlock_212 hl (by decide) rfl (fun ls hl => ?_)
        refine lv_iload_n hx hb dX0_mixBlock_214 rfl (lv_at hl 11 rfl) ?_
        refine lv_topi (fun x3_11 ex3_11 => ?_)
        refine lv_istore_n (lv' := [(3, .int x3_11), (4, .int x4_10), (5, .int x5_9), (6, .int x6_8), (7, .int x7_7), (8, .int x8_6), (13, .int x13_5), (12, .int x12_4), (11, .int x11_3), (10, .int x10_2), (0, .ref (g 2)), (1, .int (rnds SU WO zt 0)), (2, .int (rnds SU WO zt 1)), (9, .int (nI zt))]) hx hb dX0_mixBlock_215 rfl hl (by decide) rfl (fun ls hl => ?_)
        refine lv_iload_n hx hb dX0_mixBlock_216 rfl (lv_at hl 11 rfl) ?_
        refine lv_topi (fun x2_12 ex2_12 => ?_)
        refine lv_istore_n (lv' := [(2, .int x2_12), (3, .int x3_11), (4, .int x4_10), (5, .int x5_9), (6, .int x6_8), (7, .int x7_7), (8, .int x8_6), (13, .int x13_5), (12, .int x12_4), (11, .int x11_3), (10, .int x10_2), (0, .ref (g 2)), (1, .int (rnds SU WO zt 0)), (9, .int (nI zt))]) hx hb dX0_mixBlock_217 rfl hl (by decide) rfl (fun ls hl => ?_)
        refine lv_iload hx hb dX0_mixBlock_218 (lv_at hl 8 rfl) ?_
        refine lv_iload hx hb dX0_mixBlock_220 (lv_at hl 7 rfl) ?_
        refine lv_iadd hx hb dX0_mixBlock_222 ?_
        refine x_eqi (y := rnds SU WO (zt + 1) 0) (by subst_vars; rfl) ?_
        refine lv_topi (fun x1_13 ex1_13 => ?_)
        refine lv_istore_n (lv' := [(1, .int x1_13), (2, .int x2_12), (3, .int x3_11), (4, .int x4_10), (5, .int x5_9), (6, .int x6_8), (7, .int x7_7), (8, .int x8_6), (13, .int x13_5), (12, .int x12_4), (11, .int x11_3), (10, .int x10_2), (0, .ref (g 2)), (9, .int (nI zt))]) hx hb dX0_mixBlock_223 rfl hl (by decide) rfl (fun ls hl => ?_)
        refine lv_iinc (v := nI (zt + 1)) (lv' := [(9, .int (nI (zt + 1))), (1, .int x1_13), (2, .int x2_12), (3, .int x3_11), (4, .int x4_10), (5, .int x5_9), (6, .int x6_8), (7, .int x7_7), (8, .int x8_6), (13, .int x13_5), (12, .int x12_4), (11, .int x11_3), (10, .int x10_2), (0, .ref (g 2))]) hx hb dX0_mixBlock_224 hl (k := 13) rfl (nI_1 _) (by decide) rfl (fun ls hl => ?_)
        refine lv_goto (tgt := 66) hx hb dX0_mixBlock_227 (by decide) ?_
        subst_vars
        exact ih_66 (zt + 1) (by omega) (by omega) _ _ _ hP hD hS (lv_sub hl [13, 1, 2, 3, 4, 5, 6, 7, 8, 0] rfl)
  exact loop_66 _ 0 (Nat.lt_succ_self _) (by omega) _ _ _ hP hD hS (lv_sub hl [9, 8, 7, 6, 5, 4, 3, 2, 1, 0] rfl)

set_option maxHeartbeats 4000000 in
set_option maxRecDepth 100000 in
/-- one byte more of zf -/
theorem c_X0_addByte (l : Launch) (G : va_G) (cA : ClassId) (tF tC : Nat) (g : Nat → Nat) (sz N : Nat) (hN : 1 ≤ N ∧ N ≤ 64) (D R F KD KR FL SU WO : Nat → Int32) (kp rd wr ft : Int32) (zL : Nat) (zf : Nat → Int32) (zb : Int32) (hSt : Str zf SU WO zL) (hbb : zb &&& 255 = zf zL &&& 255) (hL : zL < 1000) : CV l yX0_addByte wsX0_addByte 1 33 G cA tF tC g 13 sz (xW g cA N D R F KD KR FL SU WO (nI zL) kp rd wr ft) [.ref (g 2), .int zb] (fun (u : (Nat → Int32) × (Nat → Int32)) => xW g cA N D R F KD KR FL u.1 u.2 (nI (zL + 1)) kp rd wr ft) (fun u => Str zf u.1 u.2 (zL + 1)) := by
  refine x_entryV (cc := cX0_addByte) (maxL := 3) (by decide) rfl (fun _ => rfl) (Nat.le_of_ble_eq_true rfl) ?_
  intro p e s m args below meth c Q hx hb hml hown hts hK hP hD hS hT hret ls hl
  have hown : s.vm.findClass RX0 = some m.cls := hown
  have hl : lv_has ls 3 [(0, .ref (g 2)), (1, .int zb)] := hl
  have hinX0 : ∀ w ∈ wsX00, w ∈ wsX0_addByte := by decide +kernel
  refine lv_aload_n hx hb dX0_addByte_0 rfl (lv_at hl 0 rfl) ?_
  refine va_get (D := G) (ci := 0) (v := .int (nI zL)) (C := RX0) (T := TX0) (N := 3) hx hb hts hinX0 hown hK hP 2 rfl rfl 2 (by decide) (hts (.fieldLink RX0 27 "SealedPages$Hasher" "length" "I") (by decide +kernel)) (fun _ h => h) rfl dX0_addByte_1 ?_
  refine lv_bipush (v := 63) hx hb dX0_addByte_4 (by decide) ?_
  refine lv_iand hx hb dX0_addByte_6 ?_
  refine x_eqi (y := nI (zL % 64)) (pk_andN (n := zL) (by omega) 6 (by decide)) ?_
  refine lv_iconst (v := 2) hx hb dX0_addByte_7 (by decide) ?_
  refine lv_ishr hx hb dX0_addByte_8 ?_
  refine x_eqi (y := nI ((zL % 64) / 4)) (pk_shrN (n := zL % 64) (by omega) _ 2 (by decide)) ?_
  refine lv_istore_n (lv' := [(2, .int (nI ((zL % 64) / 4))), (0, .ref (g 2)), (1, .int zb)]) hx hb dX0_addByte_9 rfl hl (by decide) rfl (fun ls hl => ?_)
  refine lv_aload_n hx hb dX0_addByte_10 rfl (lv_at hl 1 rfl) ?_
  refine va_get (D := G) (ci := 0) (v := .ref (g 12)) (C := RX0) (T := TX0) (N := 3) hx hb hts hinX0 hown hK hP 2 rfl rfl 1 (by decide) (hts (.fieldLink RX0 15 "SealedPages$Hasher" "words" "[I") (by decide +kernel)) (fun _ h => h) rfl dX0_addByte_11 ?_
  refine lv_iload_n hx hb dX0_addByte_14 rfl (lv_at hl 0 rfl) ?_
  refine lv_aload_n hx hb dX0_addByte_15 rfl (lv_at hl 1 rfl) ?_
  refine va_get (D := G) (ci := 0) (v := .ref (g 12)) (C := RX0) (T := TX0) (N := 3) hx hb hts hinX0 hown hK hP 2 rfl rfl 1 (by decide) (hts (.fieldLink RX0 15 "SealedPages$Hasher" "words" "[I") (by decide +kernel)) (fun _ h => h) rfl dX0_addByte_16 ?_
  refine lv_iload_n hx hb dX0_addByte_19 rfl (lv_at hl 0 rfl) ?_
  refine x_ald (i := (zL % 64) / 4) hx hb hK hP 12 0 rfl rfl (by omega) (by decide) dX0_addByte_20 ?_
  refine lv_bipush (v := 8) hx hb dX0_addByte_21 (by decide) ?_
  refine lv_ishl hx hb dX0_addByte_23 ?_
  refine x_eqi (y := sl (WO ((zL % 64) / 4)) 8) rfl ?_
  refine lv_iload_n hx hb dX0_addByte_24 rfl (lv_at hl 2 rfl) ?_
  refine lv_sipush (v := 255) hx hb dX0_addByte_25 (by decide) ?_
  refine lv_iand hx hb dX0_addByte_28 ?_
  refine lv_ior hx hb dX0_addByte_29 ?_
  refine x_ast (i := (zL % 64) / 4) hx hb hK hP hD hS 12 0 rfl rfl (by omega) (by decide) dX0_addByte_30 (fun H locs hP hD hS => ?_)
  have hP : va_P G vwCl (xW g cA N D R F KD KR FL SU (upd WO ((zL % 64) / 4) ((sl (WO ((zL % 64) / 4)) 8) ||| (zb &&& 255))) (nI zL) kp rd wr ft) _ := hP
  have hD : va_D _ (xW g cA N D R F KD KR FL SU (upd WO ((zL % 64) / 4) ((sl (WO ((zL % 64) / 4)) 8) ||| (zb &&& 255))) (nI zL) kp rd wr ft) := hD
  refine lv_aload_n hx hb dX0_addByte_31 rfl (lv_at hl 1 rfl) ?_
  refine lv_dup hx hb dX0_addByte_32 rfl ?_
  refine va_get (D := G) (ci := 0) (v := .int (nI zL)) (C := RX0) (T := TX0) (N := 3) hx hb hts hinX0 hown hK hP 2 rfl rfl 2 (by decide) (hts (.fieldLink RX0 27 "SealedPages$Hasher" "length" "I") (by decide +kernel)) (fun _ h => h) rfl dX0_addByte_33 ?_
  refine lv_iconst (v := 1) hx hb dX0_addByte_36 (by decide) ?_
  refine lv_iadd hx hb dX0_addByte_37 ?_
  refine x_eqi (y := nI (zL + 1)) (nI_add zL 1) ?_
  refine va_put (D := G) (ci := 0) (v := .int (nI (zL + 1))) (ty := .int) (C := RX0) (T := TX0) (N := 3) hx hb hts hinX0 tyX0 tyX0_ok nmX0 hown hK hP hD hS 2 rfl rfl 2 (by decide) (hts (.fieldLink RX0 27 "SealedPages$Hasher" "length" "I") (by decide +kernel)) (fun _ h => h) rfl (by decide +kernel) rfl rfl (Nat.le_of_ble_eq_true rfl) dX0_addByte_38 (fun H locs hP hD hS => ?_)
  have hP : va_P G vwCl (xW g cA N D R F KD KR FL SU (upd WO ((zL % 64) / 4) ((sl (WO ((zL % 64) / 4)) 8) ||| (zb &&& 255))) (nI (zL + 1)) kp rd wr ft) _ := hP
  have hD : va_D _ (xW g cA N D R F KD KR FL SU (upd WO ((zL % 64) / 4) ((sl (WO ((zL % 64) / 4)) 8) ||| (zb &&& 255))) (nI (zL + 1)) kp rd wr ft) := hD
  refine lv_aload_n hx hb dX0_addByte_41 rfl (lv_at hl 1 rfl) ?_
  refine va_get (D := G) (ci := 0) (v := .int (nI (zL + 1))) (C := RX0) (T := TX0) (N := 3) hx hb hts hinX0 hown hK hP 2 rfl rfl 2 (by decide) (hts (.fieldLink RX0 27 "SealedPages$Hasher" "length" "I") (by decide +kernel)) (fun _ h => h) rfl dX0_addByte_42 ?_
  refine lv_bipush (v := 63) hx hb dX0_addByte_45 (by decide) ?_
  refine lv_iand hx hb dX0_addByte_47 ?_
  refine x_eqi (y := nI ((zL + 1) % 64)) (pk_andN (n := zL + 1) (by omega) 6 (by decide)) ?_
  refine lv_if_ne (tgt := 59) hx hb dX0_addByte_48 (by decide) (fun c_1 => ?_) (fun c_1 => ?_)
  · skip
    have c_1 : ¬ ((zL + 1) % 64) = 0 := fun z => c_1 ((nI_eq (a := ((zL + 1) % 64)) (b := 0) (by omega) (by omega)).mpr z)
    exact hret (SU, upd WO ((zL % 64) / 4) ((sl (WO ((zL % 64) / 4)) 8) ||| (zb &&& 255))) _ _ _ _ dX0_addByte_59 hP hD hS (by first | exact Str_in hSt hbb (by assumption) | exact Str_next hSt hbb (by assumption) (by assumption))
  · skip
    have c_1 : ((zL + 1) % 64) = 0 := (nI_eq (a := ((zL + 1) % 64)) (b := 0) (by omega) (by omega)).mp c_1
    refine lv_aload_n hx hb dX0_addByte_51 rfl (lv_at hl 1 rfl) ?_
    refine x_vv ⟨hx, hb, hml, hown, hts⟩ (c_X0_spreadWords l G cA tF tC g _ N hN D R F KD KR FL SU (upd WO ((zL % 64) / 4) ((sl (WO ((zL % 64) / 4)) 8) ||| (zb &&& 255))) (nI (zL + 1)) kp rd wr ft ) (cwV 0 hts gX0_addByte_X0_spreadWords rfl rfl rfl (by decide +kernel) ⟨Nat.le_of_ble_eq_true rfl, Nat.le_of_ble_eq_true rfl⟩) hK hP hD hS hT rfl 2 0 rfl rfl rfl hl.1 rfl (Nat.le_of_ble_eq_true rfl) dX0_addByte_52 ⟨Nat.le_refl _, Nat.le_refl _⟩ (fun u H locs hp_2 hP hD hS => ?_)
    have hP : va_P G vwCl (xW g cA N D R F KD KR FL SU (spr (upd WO ((zL % 64) / 4) ((sl (WO ((zL % 64) / 4)) 8) ||| (zb &&& 255))) 48) (nI (zL + 1)) kp rd wr ft) _ := hP
    have hD : va_D _ (xW g cA N D R F KD KR FL SU (spr (upd WO ((zL % 64) / 4) ((sl (WO ((zL % 64) / 4)) 8) ||| (zb &&& 255))) 48) (nI (zL + 1)) kp rd wr ft) := hD
    refine lv_aload_n hx hb dX0_addByte_55 rfl (lv_at hl 1 rfl) ?_
    refine x_vv ⟨hx, hb, hml, hown, hts⟩ (c_X0_mixBlock l G cA tF tC g _ N hN D R F KD KR FL SU (spr (upd WO ((zL % 64) / 4) ((sl (WO ((zL % 64) / 4)) 8) ||| (zb &&& 255))) 48) (nI (zL + 1)) kp rd wr ft ) (cwV 0 hts gX0_addByte_X0_mixBlock rfl rfl rfl (by decide +kernel) ⟨Nat.le_of_ble_eq_true rfl, Nat.le_of_ble_eq_true rfl⟩) hK hP hD hS hT rfl 2 0 rfl rfl rfl hl.1 rfl (Nat.le_of_ble_eq_true rfl) dX0_addByte_56 ⟨Nat.le_refl _, Nat.le_refl _⟩ (fun u H locs hp_4 hP hD hS => ?_)
    obtain ⟨SU2, rfl⟩ : ∃ z, z = u := ⟨_, rfl⟩
    have hP : va_P G vwCl (xW g cA N D R F KD KR FL SU2 (spr (upd WO ((zL % 64) / 4) ((sl (WO ((zL % 64) / 4)) 8) ||| (zb &&& 255))) 48) (nI (zL + 1)) kp rd wr ft) _ := hP
    have hD : va_D _ (xW g cA N D R F KD KR FL SU2 (spr (upd WO ((zL % 64) / 4) ((sl (WO ((zL % 64) / 4)) 8) ||| (zb &&& 255))) 48) (nI (zL + 1)) kp rd wr ft) := hD
    exact hret (SU2, spr (upd WO ((zL % 64) / 4) ((sl (WO ((zL % 64) / 4)) 8) ||| (zb &&& 255))) 48) _ _ _ _ dX0_addByte_59 hP hD hS (by first | exact Str_in hSt hbb (by assumption) | exact Str_next hSt hbb (by assumption) (by assumption))

set_option maxHeartbeats 4000000 in
set_option maxRecDepth 100000 in
/-- nothing hashed yet -/
theorem c_X0_begin (l : Launch) (G : va_G) (cA : ClassId) (tF tC : Nat) (g : Nat → Nat) (sz N : Nat) (hN : 1 ≤ N ∧ N ≤ 64) (D R F KD KR FL SU WO : Nat → Int32) (ln kp rd wr ft : Int32)  : CV l yX0_begin wsX0_begin 1 60 G cA tF tC g 13 sz (xW g cA N D R F KD KR FL SU WO ln kp rd wr ft) [.ref (g 2)] (fun (u : Unit) => xW g cA N D R F KD KR FL (va_cpy hC SU 0 0 8) WO 0 kp rd wr ft) (fun _ => True) := by
  refine x_entryV (cc := cX0_begin) (maxL := 1) (by decide) rfl (fun _ => rfl) (Nat.le_of_ble_eq_true rfl) ?_
  intro p e s m args below meth c Q hx hb hml hown hts hK hP hD hS hT hret ls hl
  have hown : s.vm.findClass RX0 = some m.cls := hown
  have hl : lv_has ls 1 [(0, .ref (g 2))] := hl
  have hinX0 : ∀ w ∈ wsX00, w ∈ wsX0_begin := by decide +kernel
  refine va_gets (v := .ref tF) hx hb hT.1 hS hown (hts (.fieldLink RX0 18 "SealedPages$Hasher" "FIRST_SUMS" "[I") (by decide +kernel)) (fun _ h => h) dX0_begin_0 ?_
  refine lv_iconst (v := 0) hx hb dX0_begin_3 (by decide) ?_
  refine lv_aload_n hx hb dX0_begin_4 rfl (lv_at hl 0 rfl) ?_
  refine va_get (D := G) (ci := 0) (v := .ref (g 11)) (C := RX0) (T := TX0) (N := 3) hx hb hts hinX0 hown hK hP 2 rfl rfl 0 (by decide) (hts (.fieldLink RX0 9 "SealedPages$Hasher" "sums" "[I") (by decide +kernel)) (fun _ h => h) rfl dX0_begin_5 ?_
  refine lv_iconst (v := 0) hx hb dX0_begin_8 (by decide) ?_
  refine lv_bipush (v := 8) hx hb dX0_begin_9 (by decide) ?_
  refine x_cpT (n0 := 8) (f := hC) (spN := 0) (dpN := 0) (nN := 8) hx hb (by rw [hml]; exact hl.1.symm) hown (hts (.methodLink RX0 21 arraycopyName) (by decide +kernel)) (hts (.native arraycopyName) (by decide +kernel)) (hts (.static arraycopyName) (by decide +kernel)) (hts (.initialized "java/lang/System") (by decide +kernel)) hK hP hD hS hT.2.1 11 0 rfl rfl (by decide) (by decide) (by decide) (Nat.le_of_ble_eq_true rfl) (Nat.le_of_ble_eq_true rfl) dX0_begin_11 (fun H locs hP hD hS => ?_)
  have hP : va_P G vwCl (xW g cA N D R F KD KR FL (va_cpy hC SU 0 0 8) WO ln kp rd wr ft) _ := hP
  have hD : va_D _ (xW g cA N D R F KD KR FL (va_cpy hC SU 0 0 8) WO ln kp rd wr ft) := hD
  refine lv_aload_n hx hb dX0_begin_14 rfl (lv_at hl 0 rfl) ?_
  refine lv_iconst (v := 0) hx hb dX0_begin_15 (by decide) ?_
  refine va_put (D := G) (ci := 0) (v := .int 0) (ty := .int) (C := RX0) (T := TX0) (N := 3) hx hb hts hinX0 tyX0 tyX0_ok nmX0 hown hK hP hD hS 2 rfl rfl 2 (by decide) (hts (.fieldLink RX0 27 "SealedPages$Hasher" "length" "I") (by decide +kernel)) (fun _ h => h) rfl (by decide +kernel) rfl rfl (Nat.le_of_ble_eq_true rfl) dX0_begin_16 (fun H locs hP hD hS => ?_)
  have hP : va_P G vwCl (xW g cA N D R F KD KR FL (va_cpy hC SU 0 0 8) WO 0 kp rd wr ft) _ := hP
  have hD : va_D _ (xW g cA N D R F KD KR FL (va_cpy hC SU 0 0 8) WO 0 kp rd wr ft) := hD
  exact hret () _ _ _ _ dX0_begin_19 hP hD hS trivial

set_option maxHeartbeats 4000000 in
set_option maxRecDepth 100000 in
/-- zn bytes of za row -/
theorem c_X0_addRow_D (l : Launch) (G : va_G) (cA : ClassId) (tF tC : Nat) (g : Nat → Nat) (sz N : Nat) (hN : 1 ≤ N ∧ N ≤ 64) (D R F KD KR FL SU WO : Nat → Int32) (kp rd wr ft : Int32) (zL : Nat) (zf : Nat → Int32) (za zn : Nat) (hSt : Str zf SU WO zL) (han : za + zn ≤ siz N) (hrow : ∀ zi, zi < zn → D (za + zi) &&& 255 = zf (zL + zi) &&& 255) (hL : zL + zn < 900) : CV l yX0_addRow wsX0_addRow 2 55 G cA tF tC g 13 sz (xW g cA N D R F KD KR FL SU WO (nI zL) kp rd wr ft) [.ref (g 2), .ref (g 3), .int (nI za), .int (nI zn)] (fun (u : (Nat → Int32) × (Nat → Int32)) => xW g cA N D R F KD KR FL u.1 u.2 (nI (zL + zn)) kp rd wr ft) (fun u => Str zf u.1 u.2 (zL + zn)) := by
  refine x_entryV (cc := cX0_addRow) (maxL := 5) (by decide) rfl (fun _ => rfl) (Nat.le_of_ble_eq_true rfl) ?_
  intro p e s m args below meth c Q hx hb hml hown hts hK hP hD hS hT hret ls hl
  have hown : s.vm.findClass RX0 = some m.cls := hown
  have hl : lv_has ls 5 [(0, .ref (g 2)), (1, .ref (g 3)), (2, .int (nI za)), (3, .int (nI zn))] := hl
  have hz := siz_le hN
  refine lv_iconst (v := 0) hx hb dX0_addRow_0 (by decide) ?_
  refine lv_istore (lv' := [(4, .int 0), (0, .ref (g 2)), (1, .ref (g 3)), (2, .int (nI za)), (3, .int (nI zn))]) hx hb dX0_addRow_1 hl (by decide) rfl (fun ls hl => ?_)
  have loop_3 : ∀ (n_3 : Nat) (zi : Nat) (SUi : Nat → Int32) (WOi : Nat → Int32), (zn - zi) < n_3 → zi ≤ zn → Str zf SUi WOi (zL + zi) → ∀ (H : Heap) (locs : List Loc) (ls : Array Slot), va_P G vwCl (xW g cA N D R F KD KR FL SUi WOi (nI (zL + zi)) kp rd wr ft) H → va_D (wA g 13 s.heap.size) (xW g cA N D R F KD KR FL SUi WOi (nI (zL + zi)) kp rd wr ft) → va_S (wA g 13 s.heap.size) s.heap H locs → lv_has ls 5 [(0, .ref (g 2)), (1, .ref (g 3)), (2, .int (nI za)), (3, .int (nI zn)), (4, .int (nI zi))] → W p l e { frames := 2, cells := 0, slots := 0, locals := 55 } s m args below meth c H locs 0 0 Q (F0 m 3 ls []) := by
    intro n_3
    induction n_3 with
    | zero => intro zi SUi WOi hm_3; exact absurd hm_3 (Nat.not_lt_zero _)
    | succ n_3 ih_3 =>
      intro zi SUi WOi hm_3 hi hs H locs ls hP hD hS hl
      refine lv_iload hx hb dX0_addRow_3 (lv_at hl 4 rfl) ?_
      refine lv_iload_n hx hb dX0_addRow_5 rfl (lv_at hl 3 rfl) ?_
      refine lv_icmp_ge (tgt := 25) hx hb dX0_addRow_6 (by decide) (fun c_1 => ?_) (fun c_1 => ?_)
      · skip
        have c_1 : zn ≤ zi := (nI_leI (a := zn) (b := zi) (by omega) (by omega)).mp c_1
        obtain rfl : zn = zi := by omega
        have hl : lv_has ls 5 [(0, .ref (g 2)), (1, .ref (g 3)), (2, .int (nI za)), (3, .int (nI zn)), (4, .int (nI zn))] := hl
        exact hret (SUi, WOi) _ _ _ _ dX0_addRow_25 hP hD hS hs
      · skip
        have c_1 : ¬ zn ≤ zi := fun z => c_1 ((nI_leI (a := zn) (b := zi) (by omega) (by omega)).mpr z)
        refine lv_aload_n hx hb dX0_addRow_9 rfl (lv_at hl 0 rfl) ?_
        refine lv_aload_n hx hb dX0_addRow_10 rfl (lv_at hl 1 rfl) ?_
        refine lv_iload_n hx hb dX0_addRow_11 rfl (lv_at hl 2 rfl) ?_
        refine lv_iload hx hb dX0_addRow_12 (lv_at hl 4 rfl) ?_
        refine lv_iadd hx hb dX0_addRow_14 ?_
        refine x_eqi (y := nI (za + zi)) (nI_add za zi) ?_
        refine x_ald (i := za + zi) hx hb hK hP 3 0 rfl rfl (by omega) (by have := siz_le hN; have := nds_le hN; omega) dX0_addRow_15 ?_
        refine x_vv ⟨hx, hb, hml, hown, hts⟩ (c_X0_addByte l G cA tF tC g _ N hN D R F KD KR FL SUi WOi kp rd wr ft (zL + zi) zf (D (za + zi)) hs (hrow zi (by omega)) (by omega)) (cwV 1 hts gX0_addRow_X0_addByte rfl rfl rfl (by decide +kernel) ⟨Nat.le_of_ble_eq_true rfl, Nat.le_of_ble_eq_true rfl⟩) hK hP hD hS hT rfl 2 0 rfl rfl rfl hl.1 rfl (Nat.le_of_ble_eq_true rfl) dX0_addRow_16 ⟨Nat.le_refl _, Nat.le_refl _⟩ (fun u H locs hs3 hP hD hS => ?_)
        obtain ⟨SU3, WO3⟩ := u
        have hP : va_P G vwCl (xW g cA N D R F KD KR FL SU3 WO3 (nI (zL + (zi + 1))) kp rd wr ft) _ := hP
        have hD : va_D _ (xW g cA N D R F KD KR FL SU3 WO3 (nI (zL + (zi + 1))) kp rd wr ft) := hD
        refine lv_iinc (v := nI (zi + 1)) (lv' := [(4, .int (nI (zi + 1))), (0, .ref (g 2)), (1, .ref (g 3)), (2, .int (nI za)), (3, .int (nI zn))]) hx hb dX0_addRow_19 hl (k := 4) rfl (nI_1 _) (by decide) rfl (fun ls hl => ?_)
        refine lv_goto (tgt := 3) hx hb dX0_addRow_22 (by decide) ?_
        exact ih_3 (zi + 1) SU3 WO3 (by omega) (by omega) hs3 _ _ _ hP hD hS (lv_sub hl [1, 2, 3, 4, 0] rfl)
  exact loop_3 _ 0 SU WO (Nat.lt_succ_self _) (by omega) hSt _ _ _ hP hD hS (lv_sub hl [1, 2, 3, 4, 0] rfl)

set_option maxHeartbeats 4000000 in
set_option maxRecDepth 100000 in
/-- zn bytes of za row -/
theorem c_X0_addRow_F (l : Launch) (G : va_G) (cA : ClassId) (tF tC : Nat) (g : Nat → Nat) (sz N : Nat) (hN : 1 ≤ N ∧ N ≤ 64) (D R F KD KR FL SU WO : Nat → Int32) (kp rd wr ft : Int32) (zL : Nat) (zf : Nat → Int32) (za zn : Nat) (hSt : Str zf SU WO zL) (han : za + zn ≤ 64) (hrow : ∀ zi, zi < zn → F (za + zi) &&& 255 = zf (zL + zi) &&& 255) (hL : zL + zn < 900) : CV l yX0_addRow wsX0_addRow 2 55 G cA tF tC g 13 sz (xW g cA N D R F KD KR FL SU WO (nI zL) kp rd wr ft) [.ref (g 2), .ref (g 5), .int (nI za), .int (nI zn)] (fun (u : (Nat → Int32) × (Nat → Int32)) => xW g cA N D R F KD KR FL u.1 u.2 (nI (zL + zn)) kp rd wr ft) (fun u => Str zf u.1 u.2 (zL + zn)) := by
  refine x_entryV (cc := cX0_addRow) (maxL := 5) (by decide) rfl (fun _ => rfl) (Nat.le_of_ble_eq_true rfl) ?_
  intro p e s m args below meth c Q hx hb hml hown hts hK hP hD hS hT hret ls hl
  have hown : s.vm.findClass RX0 = some m.cls := hown
  have hl : lv_has ls 5 [(0, .ref (g 2)), (1, .ref (g 5)), (2, .int (nI za)), (3, .int (nI zn))] := hl
  have hz := siz_le hN
  refine lv_iconst (v := 0) hx hb dX0_addRow_0 (by decide) ?_
  refine lv_istore (lv' := [(4, .int 0), (0, .ref (g 2)), (1, .ref (g 5)), (2, .int (nI za)), (3, .int (nI zn))]) hx hb dX0_addRow_1 hl (by decide) rfl (fun ls hl => ?_)
  have loop_3 : ∀ (n_3 : Nat) (zi : Nat) (SUi : Nat → Int32) (WOi : Nat → Int32), (zn - zi) < n_3 → zi ≤ zn → Str zf SUi WOi (zL + zi) → ∀ (H : Heap) (locs : List Loc) (ls : Array Slot), va_P G vwCl (xW g cA N D R F KD KR FL SUi WOi (nI (zL + zi)) kp rd wr ft) H → va_D (wA g 13 s.heap.size) (xW g cA N D R F KD KR FL SUi WOi (nI (zL + zi)) kp rd wr ft) → va_S (wA g 13 s.heap.size) s.heap H locs → lv_has ls 5 [(0, .ref (g 2)), (1, .ref (g 5)), (2, .int (nI za)), (3, .int (nI zn)), (4, .int (nI zi))] → W p l e { frames := 2, cells := 0, slots := 0, locals := 55 } s m args below meth c H locs 0 0 Q (F0 m 3 ls []) := by
    intro n_3
    induction n_3 with
    | zero => intro zi SUi WOi hm_3; exact absurd hm_3 (Nat.not_lt_zero _)
    | succ n_3 ih_3 =>
      intro zi SUi WOi hm_3 hi hs H locs ls hP hD hS hl
      refine lv_iload hx hb dX0_addRow_3 (lv_at hl 4 rfl) ?_
      refine lv_iload_n hx hb dX0_addRow_5 rfl (lv_at hl 3 rfl) ?_
      refine lv_icmp_ge (tgt := 25) hx hb dX0_addRow_6 (by decide) (fun c_1 => ?_) (fun c_1 => ?_)
      · skip
        have c_1 : zn ≤ zi := (nI_leI (a := zn) (b := zi) (by omega) (by omega)).mp c_1
        obtain rfl : zn = zi := by omega
        have hl : lv_has ls 5 [(0, .ref (g 2)), (1, .ref (g 5)), (2, .int (nI za)), (3, .int (nI zn)), (4, .int (nI zn))] := hl
        exact hret (SUi, WOi) _ _ _ _ dX0_addRow_25 hP hD hS hs
      · skip
        have c_1 : ¬ zn ≤ zi := fun z => c_1 ((nI_leI (a := zn) (b := zi) (by omega) (by omega)).mpr z)
        refine lv_aload_n hx hb dX0_addRow_9 rfl (lv_at hl 0 rfl) ?_
        refine lv_aload_n hx hb dX0_addRow_10 rfl (lv_at hl 1 rfl) ?_
        refine lv_iload_n hx hb dX0_addRow_11 rfl (lv_at hl 2 rfl) ?_
        refine lv_iload hx hb dX0_addRow_12 (lv_at hl 4 rfl) ?_
        refine lv_iadd hx hb dX0_addRow_14 ?_
        refine x_eqi (y := nI (za + zi)) (nI_add za zi) ?_
        refine x_ald (i := za + zi) hx hb hK hP 5 0 rfl rfl (by omega) (by decide) dX0_addRow_15 ?_
        refine x_vv ⟨hx, hb, hml, hown, hts⟩ (c_X0_addByte l G cA tF tC g _ N hN D R F KD KR FL SUi WOi kp rd wr ft (zL + zi) zf (F (za + zi)) hs (hrow zi (by omega)) (by omega)) (cwV 1 hts gX0_addRow_X0_addByte rfl rfl rfl (by decide +kernel) ⟨Nat.le_of_ble_eq_true rfl, Nat.le_of_ble_eq_true rfl⟩) hK hP hD hS hT rfl 2 0 rfl rfl rfl hl.1 rfl (Nat.le_of_ble_eq_true rfl) dX0_addRow_16 ⟨Nat.le_refl _, Nat.le_refl _⟩ (fun u H locs hs3 hP hD hS => ?_)
        obtain ⟨SU3, WO3⟩ := u
        have hP : va_P G vwCl (xW g cA N D R F KD KR FL SU3 WO3 (nI (zL + (zi + 1))) kp rd wr ft) _ := hP
        have hD : va_D _ (xW g cA N D R F KD KR FL SU3 WO3 (nI (zL + (zi + 1))) kp rd wr ft) := hD
        refine lv_iinc (v := nI (zi + 1)) (lv' := [(4, .int (nI (zi + 1))), (0, .ref (g 2)), (1, .ref (g 5)), (2, .int (nI za)), (3, .int (nI zn))]) hx hb dX0_addRow_19 hl (k := 4) rfl (nI_1 _) (by decide) rfl (fun ls hl => ?_)
        refine lv_goto (tgt := 3) hx hb dX0_addRow_22 (by decide) ?_
        exact ih_3 (zi + 1) SU3 WO3 (by omega) (by omega) hs3 _ _ _ hP hD hS (lv_sub hl [1, 2, 3, 4, 0] rfl)
  exact loop_3 _ 0 SU WO (Nat.lt_succ_self _) (by omega) hSt _ _ _ hP hD hS (lv_sub hl [1, 2, 3, 4, 0] rfl)

set_option maxHeartbeats 4000000 in
set_option maxRecDepth 100000 in
/-- the row is lengthened; the sums are its hash -/
theorem c_X0_finish (l : Launch) (G : va_G) (cA : ClassId) (tF tC : Nat) (g : Nat → Nat) (sz N : Nat) (hN : 1 ≤ N ∧ N ≤ 64) (D R F KD KR FL SU WO : Nat → Int32) (kp rd wr ft : Int32) (zL : Nat) (m0 : Nat → Int32) (hSt : Str (pad m0 zL) SU WO zL) (hL : zL < 67) : CV l yX0_finish wsX0_finish 2 55 G cA tF tC g 13 sz (xW g cA N D R F KD KR FL SU WO (nI zL) kp rd wr ft) [.ref (g 2)] (fun (u : (Nat → Int32) × (Nat → Int32)) => xW g cA N D R F KD KR FL u.1 u.2 (nI (64 * nbk zL)) kp rd wr ft) (fun u => ag 8 u.1 (blk (pad m0 zL) (nbk zL))) := by
  refine x_entryV (cc := cX0_finish) (maxL := 5) (by decide) rfl (fun _ => rfl) (Nat.le_of_ble_eq_true rfl) ?_
  intro p e s m args below meth c Q hx hb hml hown hts hK hP hD hS hT hret ls hl
  have hown : s.vm.findClass RX0 = some m.cls := hown
  have hl : lv_has ls 5 [(0, .ref (g 2))] := hl
  have hinX0 : ∀ w ∈ wsX00, w ∈ wsX0_finish := by decide +kernel
  have hzr := zrs_lt zL hL
  refine lv_ldc2 (v := 8) hx hb hown (hts (.constantLong RX0 41 (8)) (by decide +kernel)) dX0_finish_0 ?_
  refine lv_aload_n hx hb dX0_finish_3 rfl (lv_at hl 0 rfl) ?_
  refine va_get (D := G) (ci := 0) (v := .int (nI zL)) (C := RX0) (T := TX0) (N := 3) hx hb hts hinX0 hown hK hP 2 rfl rfl 2 (by decide) (hts (.fieldLink RX0 27 "SealedPages$Hasher" "length" "I") (by decide +kernel)) (fun _ h => h) rfl dX0_finish_4 ?_
  refine lv_i2l (v := (nI zL).toInt64) hx hb dX0_finish_7 rfl ?_
  refine lv_lmul hx hb dX0_finish_8 ?_
  refine lv_lstore_n (lv' := [(1, .long (8 * ((nI zL).toInt64))), (0, .ref (g 2))]) hx hb dX0_finish_9 rfl hl (by decide) rfl (fun ls hl => ?_)
  refine lv_aload_n hx hb dX0_finish_10 rfl (lv_at hl 1 rfl) ?_
  refine lv_sipush (v := 128) hx hb dX0_finish_11 (by decide) ?_
  refine x_vv ⟨hx, hb, hml, hown, hts⟩ (c_X0_addByte l G cA tF tC g _ N hN D R F KD KR FL SU WO kp rd wr ft (zL) (pad m0 zL) 128 hSt (by rw [pad_128]) (by omega)) (cwV 1 hts gX0_finish_X0_addByte rfl rfl rfl (by decide +kernel) ⟨Nat.le_of_ble_eq_true rfl, Nat.le_of_ble_eq_true rfl⟩) hK hP hD hS hT rfl 2 0 rfl rfl rfl hl.1 rfl (Nat.le_of_ble_eq_true rfl) dX0_finish_14 ⟨Nat.le_refl _, Nat.le_refl _⟩ (fun u H locs hs3 hP hD hS => ?_)
  obtain ⟨SU3, WO3⟩ := u
  have hP : va_P G vwCl (xW g cA N D R F KD KR FL SU3 WO3 (nI (zL + 1)) kp rd wr ft) _ := hP
  have hD : va_D _ (xW g cA N D R F KD KR FL SU3 WO3 (nI (zL + 1)) kp rd wr ft) := hD
  refine lv_bipush (v := 56) hx hb dX0_finish_17 (by decide) ?_
  refine lv_aload_n hx hb dX0_finish_19 rfl (lv_at hl 1 rfl) ?_
  refine va_get (D := G) (ci := 0) (v := .int (nI (zL + 1))) (C := RX0) (T := TX0) (N := 3) hx hb hts hinX0 hown hK hP 2 rfl rfl 2 (by decide) (hts (.fieldLink RX0 27 "SealedPages$Hasher" "length" "I") (by decide +kernel)) (fun _ h => h) rfl dX0_finish_20 ?_
  refine lv_isub hx hb dX0_finish_23 ?_
  refine lv_bipush (v := 63) hx hb dX0_finish_24 (by decide) ?_
  refine lv_iand hx hb dX0_finish_26 ?_
  refine x_eqi (y := nI (zrs zL)) (zrs_eq zL hL) ?_
  refine lv_istore_n (lv' := [(3, .int (nI (zrs zL))), (1, .long (8 * ((nI zL).toInt64))), (0, .ref (g 2))]) hx hb dX0_finish_27 rfl hl (by decide) rfl (fun ls hl => ?_)
  refine lv_iconst (v := 0) hx hb dX0_finish_28 (by decide) ?_
  refine lv_istore (lv' := [(4, .int 0), (3, .int (nI (zrs zL))), (1, .long (8 * ((nI zL).toInt64))), (0, .ref (g 2))]) hx hb dX0_finish_29 hl (by decide) rfl (fun ls hl => ?_)
  have loop_31 : ∀ (n_31 : Nat) (zi : Nat) (SUi : Nat → Int32) (WOi : Nat → Int32), (zrs zL - zi) < n_31 → zi ≤ zrs zL → Str (pad m0 zL) SUi WOi (zL + 1 + zi) → ∀ (H : Heap) (locs : List Loc) (ls : Array Slot), va_P G vwCl (xW g cA N D R F KD KR FL SUi WOi (nI (zL + 1 + zi)) kp rd wr ft) H → va_D (wA g 13 s.heap.size) (xW g cA N D R F KD KR FL SUi WOi (nI (zL + 1 + zi)) kp rd wr ft) → va_S (wA g 13 s.heap.size) s.heap H locs → lv_has ls 5 [(0, .ref (g 2)), (1, .long (8 * ((nI zL).toInt64))), (3, .int (nI (zrs zL))), (4, .int (nI zi))] → W p l e { frames := 2, cells := 0, slots := 0, locals := 55 } s m args below meth c H locs 0 0 Q (F0 m 31 ls []) := by
    intro n_31
    induction n_31 with
    | zero => intro zi SUi WOi hm_31; exact absurd hm_31 (Nat.not_lt_zero _)
    | succ n_31 ih_31 =>
      intro zi SUi WOi hm_31 hi hs H locs ls hP hD hS hl
      refine lv_iload hx hb dX0_finish_31 (lv_at hl 3 rfl) ?_
      refine lv_iload_n hx hb dX0_finish_33 rfl (lv_at hl 2 rfl) ?_
      refine lv_icmp_ge (tgt := 48) hx hb dX0_finish_34 (by decide) (fun c_2 => ?_) (fun c_2 => ?_)
      · skip
        have c_2 : (zrs zL) ≤ zi := (nI_leI (a := (zrs zL)) (b := zi) (by omega) (by omega)).mp c_2
        obtain rfl : zi = zrs zL := by omega
        have hl : lv_has ls 5 [(0, .ref (g 2)), (1, .long (8 * ((nI zL).toInt64))), (3, .int (nI (zrs zL))), (4, .int (nI (zrs zL)))] := hl
        refine lv_iconst (v := 0) hx hb dX0_finish_48 (by decide) ?_
        refine lv_istore (lv' := [(4, .int 0), (0, .ref (g 2)), (1, .long (8 * ((nI zL).toInt64))), (3, .int (nI (zrs zL)))]) hx hb dX0_finish_49 hl (by decide) rfl (fun ls hl => ?_)
        have loop_51 : ∀ (n_51 : Nat) (zk : Nat) (SUk : Nat → Int32) (WOk : Nat → Int32), (8 - zk) < n_51 → zk ≤ 8 → Str (pad m0 zL) SUk WOk (zL + 1 + zrs zL + zk) → ∀ (H : Heap) (locs : List Loc) (ls : Array Slot), va_P G vwCl (xW g cA N D R F KD KR FL SUk WOk (nI (zL + 1 + zrs zL + zk)) kp rd wr ft) H → va_D (wA g 13 s.heap.size) (xW g cA N D R F KD KR FL SUk WOk (nI (zL + 1 + zrs zL + zk)) kp rd wr ft) → va_S (wA g 13 s.heap.size) s.heap H locs → lv_has ls 5 [(0, .ref (g 2)), (1, .long (8 * ((nI zL).toInt64))), (3, .int (nI (zrs zL))), (4, .int (nI zk))] → W p l e { frames := 2, cells := 0, slots := 0, locals := 55 } s m args below meth c H locs 0 0 Q (F0 m 51 ls []) := by
          intro n_51
          induction n_51 with
          | zero => intro zk SUk WOk hm_51; exact absurd hm_51 (Nat.not_lt_zero _)
          | succ n_51 ih_51 =>
            intro zk SUk WOk hm_51 hk hs H locs ls hP hD hS hl
            refine lv_iload hx hb dX0_finish_51 (lv_at hl 3 rfl) ?_
            refine lv_bipush (v := 8) hx hb dX0_finish_53 (by decide) ?_
            refine lv_icmp_ge (tgt := 79) hx hb dX0_finish_55 (by decide) (fun c_3 => ?_) (fun c_3 => ?_)
            · skip
              have c_3 : 8 ≤ zk := (nI_leI (a := 8) (b := zk) (by omega) (by omega)).mp c_3
              obtain rfl : zk = 8 := by omega
              rw [hzr.2] at hs hP hD
              have hl : lv_has ls 5 [(0, .ref (g 2)), (1, .long (8 * ((nI zL).toInt64))), (3, .int (nI (zrs zL))), (4, .int (nI 8))] := hl
              exact hret (SUk, WOk) _ _ _ _ dX0_finish_79 hP hD hS (by have h1 := hs.1; rwa [show 64 * nbk zL / 64 = nbk zL by omega] at h1)
            · skip
              have c_3 : ¬ 8 ≤ zk := fun z => c_3 ((nI_leI (a := 8) (b := zk) (by omega) (by omega)).mpr z)
              refine lv_aload_n hx hb dX0_finish_58 rfl (lv_at hl 0 rfl) ?_
              refine lv_lload_n hx hb dX0_finish_59 rfl (lv_at hl 1 rfl) ?_
              refine lv_bipush (v := 56) hx hb dX0_finish_60 (by decide) ?_
              refine lv_bipush (v := 8) hx hb dX0_finish_62 (by decide) ?_
              refine lv_iload hx hb dX0_finish_64 (lv_at hl 3 rfl) ?_
              refine lv_imul hx hb dX0_finish_66 ?_
              refine x_eqi (y := nI (8 * zk)) (pk_mul 8 zk) ?_
              refine lv_isub hx hb dX0_finish_67 ?_
              refine x_eqi (y := nI (56 - (8 * zk))) (pk_sub (a := 56) (b := 8 * zk) (by omega)) ?_
              refine lv_lushr (v := lus (8 * ((nI zL).toInt64)) (nI (56 - (8 * zk)))) hx hb dX0_finish_68 rfl ?_
              refine lv_l2i (v := (lus (8 * ((nI zL).toInt64)) (nI (56 - (8 * zk)))).toInt32) hx hb dX0_finish_69 rfl ?_
              refine x_vv ⟨hx, hb, hml, hown, hts⟩ (c_X0_addByte l G cA tF tC g _ N hN D R F KD KR FL SUk WOk kp rd wr ft (zL + 1 + zrs zL + zk) (pad m0 zL) ((lus (8 * (nI zL).toInt64) (nI (56 - 8 * zk))).toInt32) hs (by rw [pad_e m0 hL (by omega)]; exact fin_b zL hL zk (by omega)) (by omega)) (cwV 1 hts gX0_finish_X0_addByte rfl rfl rfl (by decide +kernel) ⟨Nat.le_of_ble_eq_true rfl, Nat.le_of_ble_eq_true rfl⟩) hK hP hD hS hT rfl 2 0 rfl rfl rfl hl.1 rfl (Nat.le_of_ble_eq_true rfl) dX0_finish_70 ⟨Nat.le_refl _, Nat.le_refl _⟩ (fun u H locs hs3 hP hD hS => ?_)
              obtain ⟨SU3, WO3⟩ := u
              have hP : va_P G vwCl (xW g cA N D R F KD KR FL SU3 WO3 (nI (zL + 1 + zrs zL + (zk + 1))) kp rd wr ft) _ := hP
              have hD : va_D _ (xW g cA N D R F KD KR FL SU3 WO3 (nI (zL + 1 + zrs zL + (zk + 1))) kp rd wr ft) := hD
              refine lv_iinc (v := nI (zk + 1)) (lv' := [(4, .int (nI (zk + 1))), (0, .ref (g 2)), (1, .long (8 * ((nI zL).toInt64))), (3, .int (nI (zrs zL)))]) hx hb dX0_finish_73 hl (k := 3) rfl (nI_1 _) (by decide) rfl (fun ls hl => ?_)
              refine lv_goto (tgt := 51) hx hb dX0_finish_76 (by decide) ?_
              exact ih_51 (zk + 1) SU3 WO3 (by omega) (by omega) hs3 _ _ _ hP hD hS (lv_sub hl [1, 2, 3, 0] rfl)
        exact loop_51 _ 0 SUi WOi (Nat.lt_succ_self _) (by omega) hs _ _ _ hP hD hS (lv_sub hl [1, 2, 3, 0] rfl)
      · skip
        have c_2 : ¬ (zrs zL) ≤ zi := fun z => c_2 ((nI_leI (a := (zrs zL)) (b := zi) (by omega) (by omega)).mpr z)
        refine lv_aload_n hx hb dX0_finish_37 rfl (lv_at hl 0 rfl) ?_
        refine lv_iconst (v := 0) hx hb dX0_finish_38 (by decide) ?_
        refine x_vv ⟨hx, hb, hml, hown, hts⟩ (c_X0_addByte l G cA tF tC g _ N hN D R F KD KR FL SUi WOi kp rd wr ft (zL + 1 + zi) (pad m0 zL) 0 hs (by rw [pad_0 m0 (by omega) (by omega)]) (by omega)) (cwV 1 hts gX0_finish_X0_addByte rfl rfl rfl (by decide +kernel) ⟨Nat.le_of_ble_eq_true rfl, Nat.le_of_ble_eq_true rfl⟩) hK hP hD hS hT rfl 2 0 rfl rfl rfl hl.1 rfl (Nat.le_of_ble_eq_true rfl) dX0_finish_39 ⟨Nat.le_refl _, Nat.le_refl _⟩ (fun u H locs hs3 hP hD hS => ?_)
        obtain ⟨SU3, WO3⟩ := u
        have hP : va_P G vwCl (xW g cA N D R F KD KR FL SU3 WO3 (nI (zL + 1 + (zi + 1))) kp rd wr ft) _ := hP
        have hD : va_D _ (xW g cA N D R F KD KR FL SU3 WO3 (nI (zL + 1 + (zi + 1))) kp rd wr ft) := hD
        refine lv_iinc (v := nI (zi + 1)) (lv' := [(4, .int (nI (zi + 1))), (0, .ref (g 2)), (1, .long (8 * ((nI zL).toInt64))), (3, .int (nI (zrs zL)))]) hx hb dX0_finish_42 hl (k := 3) rfl (nI_1 _) (by decide) rfl (fun ls hl => ?_)
        refine lv_goto (tgt := 31) hx hb dX0_finish_45 (by decide) ?_
        exact ih_31 (zi + 1) SU3 WO3 (by omega) (by omega) hs3 _ _ _ hP hD hS (lv_sub hl [1, 2, 3, 0] rfl)
  exact loop_31 _ 0 SU3 WO3 (Nat.lt_succ_self _) (by omega) hs3 _ _ _ hP hD hS (lv_sub hl [3, 2, 1, 0] rfl)

set_option maxHeartbeats 4000000 in
set_option maxRecDepth 100000 in
/-- byte zi of the hash -/
theorem c_X0_resultByte (l : Launch) (G : va_G) (cA : ClassId) (tF tC : Nat) (g : Nat → Nat) (sz N : Nat) (hN : 1 ≤ N ∧ N ≤ 64) (D R F KD KR FL SU WO : Nat → Int32) (ln kp rd wr ft : Int32) (zi : Nat) (hi : zi < 32) : CI l yX0_resultByte wsX0_resultByte 0 0 G cA tF tC g 13 sz (xW g cA N D R F KD KR FL SU WO ln kp rd wr ft) [.ref (g 2), .int (nI zi)] (fun (u : Unit) => xW g cA N D R F KD KR FL SU WO ln kp rd wr ft) (fun r _ => r = hby SU zi) := by
  refine x_entryI (cc := cX0_resultByte) (maxL := 2) (by decide) rfl (fun _ => rfl) (Nat.le_of_ble_eq_true rfl) ?_
  intro p e s m args below meth c Q hx hb hml hown hts hK hP hD hS hT hret ls hl
  have hown : s.vm.findClass RX0 = some m.cls := hown
  have hl : lv_has ls 2 [(0, .ref (g 2)), (1, .int (nI zi))] := hl
  have hinX0 : ∀ w ∈ wsX00, w ∈ wsX0_resultByte := by decide +kernel
  refine lv_aload_n hx hb dX0_resultByte_0 rfl (lv_at hl 0 rfl) ?_
  refine va_get (D := G) (ci := 0) (v := .ref (g 11)) (C := RX0) (T := TX0) (N := 3) hx hb hts hinX0 hown hK hP 2 rfl rfl 0 (by decide) (hts (.fieldLink RX0 9 "SealedPages$Hasher" "sums" "[I") (by decide +kernel)) (fun _ h => h) rfl dX0_resultByte_1 ?_
  refine lv_iload_n hx hb dX0_resultByte_4 rfl (lv_at hl 1 rfl) ?_
  refine lv_iconst (v := 2) hx hb dX0_resultByte_5 (by decide) ?_
  refine lv_ishr hx hb dX0_resultByte_6 ?_
  refine x_eqi (y := nI (zi / 4)) (pk_shrN (n := zi) (by omega) _ 2 (by decide)) ?_
  refine lv_bipush (v := 7) hx hb dX0_resultByte_7 (by decide) ?_
  refine lv_iand hx hb dX0_resultByte_9 ?_
  refine x_eqi (y := nI (zi / 4)) (by rw [pk_andN (by omega) 3 (by decide), show zi / 4 % 2 ^ 3 = zi / 4 by omega]) ?_
  refine x_ald (i := zi / 4) hx hb hK hP 11 0 rfl rfl (by omega) (by decide) dX0_resultByte_10 ?_
  refine lv_bipush (v := 24) hx hb dX0_resultByte_11 (by decide) ?_
  refine lv_bipush (v := 8) hx hb dX0_resultByte_13 (by decide) ?_
  refine lv_iload_n hx hb dX0_resultByte_15 rfl (lv_at hl 1 rfl) ?_
  refine lv_iconst (v := 3) hx hb dX0_resultByte_16 (by decide) ?_
  refine lv_iand hx hb dX0_resultByte_17 ?_
  refine x_eqi (y := nI (zi % 4)) (pk_andN (n := zi) (by omega) 2 (by decide)) ?_
  refine lv_imul hx hb dX0_resultByte_18 ?_
  refine x_eqi (y := nI (8 * (zi % 4))) (pk_mul 8 (zi % 4)) ?_
  refine lv_isub hx hb dX0_resultByte_19 ?_
  refine x_eqi (y := nI (24 - (8 * (zi % 4)))) (pk_sub (a := 24) (b := 8 * (zi % 4)) (by omega)) ?_
  refine lv_iushr (v := us (SU (zi / 4)) (nI (24 - (8 * (zi % 4))))) hx hb dX0_resultByte_20 rfl ?_
  refine lv_sipush (v := 255) hx hb dX0_resultByte_21 (by decide) ?_
  refine lv_iand hx hb dX0_resultByte_24 ?_
  exact hret _ () _ _ _ _ dX0_resultByte_25 hP hD hS rfl

set_option maxHeartbeats 4000000 in
set_option maxRecDepth 100000 in
/-- is the hash there -/
theorem c_X0_resultIsAt_D (l : Launch) (G : va_G) (cA : ClassId) (tF tC : Nat) (g : Nat → Nat) (sz N : Nat) (hN : 1 ≤ N ∧ N ≤ 64) (D R F KD KR FL SU WO : Nat → Int32) (ln kp rd wr ft : Int32) (za : Nat) (ha : za + 32 ≤ siz N) : CI l yX0_resultIsAt wsX0_resultIsAt 1 21 G cA tF tC g 13 sz (xW g cA N D R F KD KR FL SU WO ln kp rd wr ft) [.ref (g 2), .ref (g 3), .int (nI za)] (fun (u : Unit) => xW g cA N D R F KD KR FL SU WO ln kp rd wr ft) (fun r _ => r = bI (eqN (fun zi => D (za + zi)) (hby SU) 32)) := by
  refine x_entryZ (cc := cX0_resultIsAt) (maxL := 4) (by decide) rfl (fun _ => rfl) (Nat.le_of_ble_eq_true rfl) ?_
  intro p e s m args below meth c Q hx hb hml hown hts hK hP hD hS hT hret ls hl
  have hown : s.vm.findClass RX0 = some m.cls := hown
  have hl : lv_has ls 4 [(0, .ref (g 2)), (1, .ref (g 3)), (2, .int (nI za))] := hl
  have hz := siz_le hN
  refine lv_iconst (v := 0) hx hb dX0_resultIsAt_0 (by decide) ?_
  refine lv_istore_n (lv' := [(3, .int 0), (0, .ref (g 2)), (1, .ref (g 3)), (2, .int (nI za))]) hx hb dX0_resultIsAt_1 rfl hl (by decide) rfl (fun ls hl => ?_)
  have loop_2 : ∀ (n_2 : Nat) (zi : Nat), (32 - zi) < n_2 → zi ≤ 32 → eqN (fun zi => D (za + zi)) (hby SU) zi = true → ∀ (H : Heap) (locs : List Loc) (ls : Array Slot), va_P G vwCl (xW g cA N D R F KD KR FL SU WO ln kp rd wr ft) H → va_D (wA g 13 s.heap.size) (xW g cA N D R F KD KR FL SU WO ln kp rd wr ft) → va_S (wA g 13 s.heap.size) s.heap H locs → lv_has ls 4 [(0, .ref (g 2)), (1, .ref (g 3)), (2, .int (nI za)), (3, .int (nI zi))] → W p l e { frames := 1, cells := 0, slots := 0, locals := 21 } s m args below meth c H locs 0 0 Q (F0 m 2 ls []) := by
    intro n_2
    induction n_2 with
    | zero => intro zi hm_2; exact absurd hm_2 (Nat.not_lt_zero _)
    | succ n_2 ih_2 =>
      intro zi hm_2 hi he H locs ls hP hD hS hl
      refine lv_iload_n hx hb dX0_resultIsAt_2 rfl (lv_at hl 3 rfl) ?_
      refine lv_bipush (v := 32) hx hb dX0_resultIsAt_3 (by decide) ?_
      refine lv_icmp_ge (tgt := 29) hx hb dX0_resultIsAt_5 (by decide) (fun c_1 => ?_) (fun c_1 => ?_)
      · skip
        have c_1 : 32 ≤ zi := (nI_leI (a := 32) (b := zi) (by omega) (by omega)).mp c_1
        obtain rfl : zi = 32 := by omega
        have hl : lv_has ls 4 [(0, .ref (g 2)), (1, .ref (g 3)), (2, .int (nI za)), (3, .int (nI 32))] := hl
        refine lv_iconst (v := 1) hx hb dX0_resultIsAt_29 (by decide) ?_
        exact hret _ () _ _ _ _ dX0_resultIsAt_30 hP hD hS rfl (by rw [he]; rfl)
      · skip
        have c_1 : ¬ 32 ≤ zi := fun z => c_1 ((nI_leI (a := 32) (b := zi) (by omega) (by omega)).mpr z)
        refine lv_aload_n hx hb dX0_resultIsAt_8 rfl (lv_at hl 1 rfl) ?_
        refine lv_iload_n hx hb dX0_resultIsAt_9 rfl (lv_at hl 2 rfl) ?_
        refine lv_iload_n hx hb dX0_resultIsAt_10 rfl (lv_at hl 3 rfl) ?_
        refine lv_iadd hx hb dX0_resultIsAt_11 ?_
        refine x_eqi (y := nI (za + zi)) (nI_add za zi) ?_
        refine x_ald (i := za + zi) hx hb hK hP 3 0 rfl rfl (by omega) (by have := siz_le hN; have := nds_le hN; omega) dX0_resultIsAt_12 ?_
        refine lv_aload_n hx hb dX0_resultIsAt_13 rfl (lv_at hl 0 rfl) ?_
        refine lv_iload_n hx hb dX0_resultIsAt_14 rfl (lv_at hl 3 rfl) ?_
        refine x_vi ⟨hx, hb, hml, hown, hts⟩ (c_X0_resultByte l G cA tF tC g _ N hN D R F KD KR FL SU WO ln kp rd wr ft zi (by omega)) (cwV 1 hts gX0_resultIsAt_X0_resultByte rfl rfl rfl (by decide +kernel) ⟨Nat.le_of_ble_eq_true rfl, Nat.le_of_ble_eq_true rfl⟩) hK hP hD hS hT rfl 2 0 rfl rfl rfl hl.1 rfl (Nat.le_of_ble_eq_true rfl) dX0_resultIsAt_15 ⟨Nat.le_refl _, Nat.le_refl _⟩ (fun r_3 u H locs hp_2 hP hD hS => ?_)
        have hP : va_P G vwCl (xW g cA N D R F KD KR FL SU WO ln kp rd wr ft) _ := hP
        have hD : va_D _ (xW g cA N D R F KD KR FL SU WO ln kp rd wr ft) := hD
        have hp_2 : r_3 = hby SU zi := hp_2
        subst hp_2
        refine lv_icmp_eq (tgt := 23) hx hb dX0_resultIsAt_18 (by decide) (fun c_4 => ?_) (fun c_4 => ?_)
        · skip
          have hc := c_4
          refine lv_iinc (v := nI (zi + 1)) (lv' := [(3, .int (nI (zi + 1))), (0, .ref (g 2)), (1, .ref (g 3)), (2, .int (nI za))]) hx hb dX0_resultIsAt_23 hl (k := 3) rfl (nI_1 _) (by decide) rfl (fun ls hl => ?_)
          refine lv_goto (tgt := 2) hx hb dX0_resultIsAt_26 (by decide) ?_
          exact ih_2 (zi + 1) (by omega) (by omega) (by rw [eqN_s, he]; simp [hc]) _ _ _ hP hD hS (lv_sub hl [1, 2, 3, 0] rfl)
        · skip
          have hc := c_4
          refine lv_iconst (v := 0) hx hb dX0_resultIsAt_21 (by decide) ?_
          exact hret _ () _ _ _ _ dX0_resultIsAt_22 hP hD hS rfl (by rw [eqN_no (f := fun zi => D (za + zi)) (h := hby SU) hc (show zi < 32 by omega)]; rfl)
  exact loop_2 _ 0 (Nat.lt_succ_self _) (by omega) rfl _ _ _ hP hD hS (lv_sub hl [1, 2, 3, 0] rfl)

set_option maxHeartbeats 4000000 in
set_option maxRecDepth 100000 in
/-- the hash is laid there -/
theorem c_X0_copyResult_D (l : Launch) (G : va_G) (cA : ClassId) (tF tC : Nat) (g : Nat → Nat) (sz N : Nat) (hN : 1 ≤ N ∧ N ≤ 64) (D R F KD KR FL SU WO : Nat → Int32) (ln kp rd wr ft : Int32) (za : Nat) (ha : za + 32 ≤ siz N) : CV l yX0_copyResult wsX0_copyResult 1 21 G cA tF tC g 13 sz (xW g cA N D R F KD KR FL SU WO ln kp rd wr ft) [.ref (g 2), .ref (g 3), .int (nI za)] (fun (u : Unit) => xW g cA N (va_cpy (hby SU) D 0 za 32) R F KD KR FL SU WO ln kp rd wr ft) (fun _ => True) := by
  refine x_entryV (cc := cX0_copyResult) (maxL := 4) (by decide) rfl (fun _ => rfl) (Nat.le_of_ble_eq_true rfl) ?_
  intro p e s m args below meth c Q hx hb hml hown hts hK hP hD hS hT hret ls hl
  have hown : s.vm.findClass RX0 = some m.cls := hown
  have hl : lv_has ls 4 [(0, .ref (g 2)), (1, .ref (g 3)), (2, .int (nI za))] := hl
  have hz := siz_le hN
  refine lv_iconst (v := 0) hx hb dX0_copyResult_0 (by decide) ?_
  refine lv_istore_n (lv' := [(3, .int 0), (0, .ref (g 2)), (1, .ref (g 3)), (2, .int (nI za))]) hx hb dX0_copyResult_1 rfl hl (by decide) rfl (fun ls hl => ?_)
  have loop_2 : ∀ (n_2 : Nat) (zi : Nat), (32 - zi) < n_2 → zi ≤ 32 → ∀ (H : Heap) (locs : List Loc) (ls : Array Slot), va_P G vwCl (xW g cA N (va_cpy (hby SU) D 0 za zi) R F KD KR FL SU WO ln kp rd wr ft) H → va_D (wA g 13 s.heap.size) (xW g cA N (va_cpy (hby SU) D 0 za zi) R F KD KR FL SU WO ln kp rd wr ft) → va_S (wA g 13 s.heap.size) s.heap H locs → lv_has ls 4 [(0, .ref (g 2)), (1, .ref (g 3)), (2, .int (nI za)), (3, .int (nI zi))] → W p l e { frames := 1, cells := 0, slots := 0, locals := 21 } s m args below meth c H locs 0 0 Q (F0 m 2 ls []) := by
    intro n_2
    induction n_2 with
    | zero => intro zi hm_2; exact absurd hm_2 (Nat.not_lt_zero _)
    | succ n_2 ih_2 =>
      intro zi hm_2 hi H locs ls hP hD hS hl
      refine lv_iload_n hx hb dX0_copyResult_2 rfl (lv_at hl 3 rfl) ?_
      refine lv_bipush (v := 32) hx hb dX0_copyResult_3 (by decide) ?_
      refine lv_icmp_ge (tgt := 24) hx hb dX0_copyResult_5 (by decide) (fun c_1 => ?_) (fun c_1 => ?_)
      · skip
        have c_1 : 32 ≤ zi := (nI_leI (a := 32) (b := zi) (by omega) (by omega)).mp c_1
        obtain rfl : zi = 32 := by omega
        have hl : lv_has ls 4 [(0, .ref (g 2)), (1, .ref (g 3)), (2, .int (nI za)), (3, .int (nI 32))] := hl
        exact hret () _ _ _ _ dX0_copyResult_24 hP hD hS trivial
      · skip
        have c_1 : ¬ 32 ≤ zi := fun z => c_1 ((nI_leI (a := 32) (b := zi) (by omega) (by omega)).mpr z)
        refine lv_aload_n hx hb dX0_copyResult_8 rfl (lv_at hl 1 rfl) ?_
        refine lv_iload_n hx hb dX0_copyResult_9 rfl (lv_at hl 2 rfl) ?_
        refine lv_iload_n hx hb dX0_copyResult_10 rfl (lv_at hl 3 rfl) ?_
        refine lv_iadd hx hb dX0_copyResult_11 ?_
        refine x_eqi (y := nI (za + zi)) (nI_add za zi) ?_
        refine lv_aload_n hx hb dX0_copyResult_12 rfl (lv_at hl 0 rfl) ?_
        refine lv_iload_n hx hb dX0_copyResult_13 rfl (lv_at hl 3 rfl) ?_
        refine x_vi ⟨hx, hb, hml, hown, hts⟩ (c_X0_resultByte l G cA tF tC g _ N hN (va_cpy (hby SU) D 0 za zi) R F KD KR FL SU WO ln kp rd wr ft zi (by omega)) (cwV 1 hts gX0_copyResult_X0_resultByte rfl rfl rfl (by decide +kernel) ⟨Nat.le_of_ble_eq_true rfl, Nat.le_of_ble_eq_true rfl⟩) hK hP hD hS hT rfl 2 0 rfl rfl rfl hl.1 rfl (Nat.le_of_ble_eq_true rfl) dX0_copyResult_14 ⟨Nat.le_refl _, Nat.le_refl _⟩ (fun r_3 u H locs hp_2 hP hD hS => ?_)
        have hP : va_P G vwCl (xW g cA N (va_cpy (hby SU) D 0 za zi) R F KD KR FL SU WO ln kp rd wr ft) _ := hP
        have hD : va_D _ (xW g cA N (va_cpy (hby SU) D 0 za zi) R F KD KR FL SU WO ln kp rd wr ft) := hD
        have hp_2 : r_3 = hby SU zi := hp_2
        subst hp_2
        refine x_ast (i := za + zi) hx hb hK hP hD hS 3 0 rfl rfl (by omega) (by have := siz_le hN; have := nds_le hN; omega) dX0_copyResult_17 (fun H locs hP hD hS => ?_)
        have hP : va_P G vwCl (xW g cA N (upd (va_cpy (hby SU) D 0 za zi) (za + zi) (hby SU zi)) R F KD KR FL SU WO ln kp rd wr ft) _ := hP
        have hD : va_D _ (xW g cA N (upd (va_cpy (hby SU) D 0 za zi) (za + zi) (hby SU zi)) R F KD KR FL SU WO ln kp rd wr ft) := hD
        have ec_4 : upd (va_cpy (hby SU) D 0 za zi) (za + zi) (hby SU zi) = va_cpy (hby SU) D 0 za (zi + 1) := by have h := cpy_s (hby SU) D 0 za zi; rwa [Nat.zero_add] at h
        rw [ec_4] at hP hD
        refine lv_iinc (v := nI (zi + 1)) (lv' := [(3, .int (nI (zi + 1))), (0, .ref (g 2)), (1, .ref (g 3)), (2, .int (nI za))]) hx hb dX0_copyResult_18 hl (k := 3) rfl (nI_1 _) (by decide) rfl (fun ls hl => ?_)
        refine lv_goto (tgt := 2) hx hb dX0_copyResult_21 (by decide) ?_
        exact ih_2 (zi + 1) (by omega) (by omega) _ _ _ hP hD hS (lv_sub hl [1, 2, 3, 0] rfl)
  rw [← cpy_0 (hby SU) D 0 za] at hP hD
  exact loop_2 _ 0 (Nat.lt_succ_self _) (by omega) _ _ _ hP hD hS (lv_sub hl [1, 2, 3, 0] rfl)

set_option maxHeartbeats 4000000 in
set_option maxRecDepth 100000 in
/-- is the hash there -/
theorem c_X0_resultIsAt_R (l : Launch) (G : va_G) (cA : ClassId) (tF tC : Nat) (g : Nat → Nat) (sz N : Nat) (hN : 1 ≤ N ∧ N ≤ 64) (D R F KD KR FL SU WO : Nat → Int32) (ln kp rd wr ft : Int32) (za : Nat) (ha : za + 32 ≤ 32) : CI l yX0_resultIsAt wsX0_resultIsAt 1 21 G cA tF tC g 13 sz (xW g cA N D R F KD KR FL SU WO ln kp rd wr ft) [.ref (g 2), .ref (g 4), .int (nI za)] (fun (u : Unit) => xW g cA N D R F KD KR FL SU WO ln kp rd wr ft) (fun r _ => r = bI (eqN (fun zi => R (za + zi)) (hby SU) 32)) := by
  refine x_entryZ (cc := cX0_resultIsAt) (maxL := 4) (by decide) rfl (fun _ => rfl) (Nat.le_of_ble_eq_true rfl) ?_
  intro p e s m args below meth c Q hx hb hml hown hts hK hP hD hS hT hret ls hl
  have hown : s.vm.findClass RX0 = some m.cls := hown
  have hl : lv_has ls 4 [(0, .ref (g 2)), (1, .ref (g 4)), (2, .int (nI za))] := hl
  have hz := siz_le hN
  refine lv_iconst (v := 0) hx hb dX0_resultIsAt_0 (by decide) ?_
  refine lv_istore_n (lv' := [(3, .int 0), (0, .ref (g 2)), (1, .ref (g 4)), (2, .int (nI za))]) hx hb dX0_resultIsAt_1 rfl hl (by decide) rfl (fun ls hl => ?_)
  have loop_2 : ∀ (n_2 : Nat) (zi : Nat), (32 - zi) < n_2 → zi ≤ 32 → eqN (fun zi => R (za + zi)) (hby SU) zi = true → ∀ (H : Heap) (locs : List Loc) (ls : Array Slot), va_P G vwCl (xW g cA N D R F KD KR FL SU WO ln kp rd wr ft) H → va_D (wA g 13 s.heap.size) (xW g cA N D R F KD KR FL SU WO ln kp rd wr ft) → va_S (wA g 13 s.heap.size) s.heap H locs → lv_has ls 4 [(0, .ref (g 2)), (1, .ref (g 4)), (2, .int (nI za)), (3, .int (nI zi))] → W p l e { frames := 1, cells := 0, slots := 0, locals := 21 } s m args below meth c H locs 0 0 Q (F0 m 2 ls []) := by
    intro n_2
    induction n_2 with
    | zero => intro zi hm_2; exact absurd hm_2 (Nat.not_lt_zero _)
    | succ n_2 ih_2 =>
      intro zi hm_2 hi he H locs ls hP hD hS hl
      refine lv_iload_n hx hb dX0_resultIsAt_2 rfl (lv_at hl 3 rfl) ?_
      refine lv_bipush (v := 32) hx hb dX0_resultIsAt_3 (by decide) ?_
      refine lv_icmp_ge (tgt := 29) hx hb dX0_resultIsAt_5 (by decide) (fun c_1 => ?_) (fun c_1 => ?_)
      · skip
        have c_1 : 32 ≤ zi := (nI_leI (a := 32) (b := zi) (by omega) (by omega)).mp c_1
        obtain rfl : zi = 32 := by omega
        have hl : lv_has ls 4 [(0, .ref (g 2)), (1, .ref (g 4)), (2, .int (nI za)), (3, .int (nI 32))] := hl
        refine lv_iconst (v := 1) hx hb dX0_resultIsAt_29 (by decide) ?_
        exact hret _ () _ _ _ _ dX0_resultIsAt_30 hP hD hS rfl (by rw [he]; rfl)
      · skip
        have c_1 : ¬ 32 ≤ zi := fun z => c_1 ((nI_leI (a := 32) (b := zi) (by omega) (by omega)).mpr z)
        refine lv_aload_n hx hb dX0_resultIsAt_8 rfl (lv_at hl 1 rfl) ?_
        refine lv_iload_n hx hb dX0_resultIsAt_9 rfl (lv_at hl 2 rfl) ?_
        refine lv_iload_n hx hb dX0_resultIsAt_10 rfl (lv_at hl 3 rfl) ?_
        refine lv_iadd hx hb dX0_resultIsAt_11 ?_
        refine x_eqi (y := nI (za + zi)) (nI_add za zi) ?_
        refine x_ald (i := za + zi) hx hb hK hP 4 0 rfl rfl (by omega) (by decide) dX0_resultIsAt_12 ?_
        refine lv_aload_n hx hb dX0_resultIsAt_13 rfl (lv_at hl 0 rfl) ?_
        refine lv_iload_n hx hb dX0_resultIsAt_14 rfl (lv_at hl 3 rfl) ?_
        refine x_vi ⟨hx, hb, hml, hown, hts⟩ (c_X0_resultByte l G cA tF tC g _ N hN D R F KD KR FL SU WO ln kp rd wr ft zi (by omega)) (cwV 1 hts gX0_resultIsAt_X0_resultByte rfl rfl rfl (by decide +kernel) ⟨Nat.le_of_ble_eq_true rfl, Nat.le_of_ble_eq_true rfl⟩) hK hP hD hS hT rfl 2 0 rfl rfl rfl hl.1 rfl (Nat.le_of_ble_eq_true rfl) dX0_resultIsAt_15 ⟨Nat.le_refl _, Nat.le_refl _⟩ (fun r_3 u H locs hp_2 hP hD hS => ?_)
        have hP : va_P G vwCl (xW g cA N D R F KD KR FL SU WO ln kp rd wr ft) _ := hP
        have hD : va_D _ (xW g cA N D R F KD KR FL SU WO ln kp rd wr ft) := hD
        have hp_2 : r_3 = hby SU zi := hp_2
        subst hp_2
        refine lv_icmp_eq (tgt := 23) hx hb dX0_resultIsAt_18 (by decide) (fun c_4 => ?_) (fun c_4 => ?_)
        · skip
          have hc := c_4
          refine lv_iinc (v := nI (zi + 1)) (lv' := [(3, .int (nI (zi + 1))), (0, .ref (g 2)), (1, .ref (g 4)), (2, .int (nI za))]) hx hb dX0_resultIsAt_23 hl (k := 3) rfl (nI_1 _) (by decide) rfl (fun ls hl => ?_)
          refine lv_goto (tgt := 2) hx hb dX0_resultIsAt_26 (by decide) ?_
          exact ih_2 (zi + 1) (by omega) (by omega) (by rw [eqN_s, he]; simp [hc]) _ _ _ hP hD hS (lv_sub hl [1, 2, 3, 0] rfl)
        · skip
          have hc := c_4
          refine lv_iconst (v := 0) hx hb dX0_resultIsAt_21 (by decide) ?_
          exact hret _ () _ _ _ _ dX0_resultIsAt_22 hP hD hS rfl (by rw [eqN_no (f := fun zi => R (za + zi)) (h := hby SU) hc (show zi < 32 by omega)]; rfl)
  exact loop_2 _ 0 (Nat.lt_succ_self _) (by omega) rfl _ _ _ hP hD hS (lv_sub hl [1, 2, 3, 0] rfl)

set_option maxHeartbeats 4000000 in
set_option maxRecDepth 100000 in
/-- the hash is laid there -/
theorem c_X0_copyResult_R (l : Launch) (G : va_G) (cA : ClassId) (tF tC : Nat) (g : Nat → Nat) (sz N : Nat) (hN : 1 ≤ N ∧ N ≤ 64) (D R F KD KR FL SU WO : Nat → Int32) (ln kp rd wr ft : Int32) (za : Nat) (ha : za + 32 ≤ 32) : CV l yX0_copyResult wsX0_copyResult 1 21 G cA tF tC g 13 sz (xW g cA N D R F KD KR FL SU WO ln kp rd wr ft) [.ref (g 2), .ref (g 4), .int (nI za)] (fun (u : Unit) => xW g cA N D (va_cpy (hby SU) R 0 za 32) F KD KR FL SU WO ln kp rd wr ft) (fun _ => True) := by
  refine x_entryV (cc := cX0_copyResult) (maxL := 4) (by decide) rfl (fun _ => rfl) (Nat.le_of_ble_eq_true rfl) ?_
  intro p e s m args below meth c Q hx hb hml hown hts hK hP hD hS hT hret ls hl
  have hown : s.vm.findClass RX0 = some m.cls := hown
  have hl : lv_has ls 4 [(0, .ref (g 2)), (1, .ref (g 4)), (2, .int (nI za))] := hl
  have hz := siz_le hN
  refine lv_iconst (v := 0) hx hb dX0_copyResult_0 (by decide) ?_
  refine lv_istore_n (lv' := [(3, .int 0), (0, .ref (g 2)), (1, .ref (g 4)), (2, .int (nI za))]) hx hb dX0_copyResult_1 rfl hl (by decide) rfl (fun ls hl => ?_)
  have loop_2 : ∀ (n_2 : Nat) (zi : Nat), (32 - zi) < n_2 → zi ≤ 32 → ∀ (H : Heap) (locs : List Loc) (ls : Array Slot), va_P G vwCl (xW g cA N D (va_cpy (hby SU) R 0 za zi) F KD KR FL SU WO ln kp rd wr ft) H → va_D (wA g 13 s.heap.size) (xW g cA N D (va_cpy (hby SU) R 0 za zi) F KD KR FL SU WO ln kp rd wr ft) → va_S (wA g 13 s.heap.size) s.heap H locs → lv_has ls 4 [(0, .ref (g 2)), (1, .ref (g 4)), (2, .int (nI za)), (3, .int (nI zi))] → W p l e { frames := 1, cells := 0, slots := 0, locals := 21 } s m args below meth c H locs 0 0 Q (F0 m 2 ls []) := by
    intro n_2
    induction n_2 with
    | zero => intro zi hm_2; exact absurd hm_2 (Nat.not_lt_zero _)
    | succ n_2 ih_2 =>
      intro zi hm_2 hi H locs ls hP hD hS hl
      refine lv_iload_n hx hb dX0_copyResult_2 rfl (lv_at hl 3 rfl) ?_
      refine lv_bipush (v := 32) hx hb dX0_copyResult_3 (by decide) ?_
      refine lv_icmp_ge (tgt := 24) hx hb dX0_copyResult_5 (by decide) (fun c_1 => ?_) (fun c_1 => ?_)
      · skip
        have c_1 : 32 ≤ zi := (nI_leI (a := 32) (b := zi) (by omega) (by omega)).mp c_1
        obtain rfl : zi = 32 := by omega
        have hl : lv_has ls 4 [(0, .ref (g 2)), (1, .ref (g 4)), (2, .int (nI za)), (3, .int (nI 32))] := hl
        exact hret () _ _ _ _ dX0_copyResult_24 hP hD hS trivial
      · skip
        have c_1 : ¬ 32 ≤ zi := fun z => c_1 ((nI_leI (a := 32) (b := zi) (by omega) (by omega)).mpr z)
        refine lv_aload_n hx hb dX0_copyResult_8 rfl (lv_at hl 1 rfl) ?_
        refine lv_iload_n hx hb dX0_copyResult_9 rfl (lv_at hl 2 rfl) ?_
        refine lv_iload_n hx hb dX0_copyResult_10 rfl (lv_at hl 3 rfl) ?_
        refine lv_iadd hx hb dX0_copyResult_11 ?_
        refine x_eqi (y := nI (za + zi)) (nI_add za zi) ?_
        refine lv_aload_n hx hb dX0_copyResult_12 rfl (lv_at hl 0 rfl) ?_
        refine lv_iload_n hx hb dX0_copyResult_13 rfl (lv_at hl 3 rfl) ?_
        refine x_vi ⟨hx, hb, hml, hown, hts⟩ (c_X0_resultByte l G cA tF tC g _ N hN D (va_cpy (hby SU) R 0 za zi) F KD KR FL SU WO ln kp rd wr ft zi (by omega)) (cwV 1 hts gX0_copyResult_X0_resultByte rfl rfl rfl (by decide +kernel) ⟨Nat.le_of_ble_eq_true rfl, Nat.le_of_ble_eq_true rfl⟩) hK hP hD hS hT rfl 2 0 rfl rfl rfl hl.1 rfl (Nat.le_of_ble_eq_true rfl) dX0_copyResult_14 ⟨Nat.le_refl _, Nat.le_refl _⟩ (fun r_3 u H locs hp_2 hP hD hS => ?_)
        have hP : va_P G vwCl (xW g cA N D (va_cpy (hby SU) R 0 za zi) F KD KR FL SU WO ln kp rd wr ft) _ := hP
        have hD : va_D _ (xW g cA N D (va_cpy (hby SU) R 0 za zi) F KD KR FL SU WO ln kp rd wr ft) := hD
        have hp_2 : r_3 = hby SU zi := hp_2
        subst hp_2
        refine x_ast (i := za + zi) hx hb hK hP hD hS 4 0 rfl rfl (by omega) (by decide) dX0_copyResult_17 (fun H locs hP hD hS => ?_)
        have hP : va_P G vwCl (xW g cA N D (upd (va_cpy (hby SU) R 0 za zi) (za + zi) (hby SU zi)) F KD KR FL SU WO ln kp rd wr ft) _ := hP
        have hD : va_D _ (xW g cA N D (upd (va_cpy (hby SU) R 0 za zi) (za + zi) (hby SU zi)) F KD KR FL SU WO ln kp rd wr ft) := hD
        have ec_4 : upd (va_cpy (hby SU) R 0 za zi) (za + zi) (hby SU zi) = va_cpy (hby SU) R 0 za (zi + 1) := by have h := cpy_s (hby SU) R 0 za zi; rwa [Nat.zero_add] at h
        rw [ec_4] at hP hD
        refine lv_iinc (v := nI (zi + 1)) (lv' := [(3, .int (nI (zi + 1))), (0, .ref (g 2)), (1, .ref (g 4)), (2, .int (nI za))]) hx hb dX0_copyResult_18 hl (k := 3) rfl (nI_1 _) (by decide) rfl (fun ls hl => ?_)
        refine lv_goto (tgt := 2) hx hb dX0_copyResult_21 (by decide) ?_
        exact ih_2 (zi + 1) (by omega) (by omega) _ _ _ hP hD hS (lv_sub hl [1, 2, 3, 0] rfl)
  rw [← cpy_0 (hby SU) R 0 za] at hP hD
  exact loop_2 _ 0 (Nat.lt_succ_self _) (by omega) _ _ _ hP hD hS (lv_sub hl [1, 2, 3, 0] rfl)
