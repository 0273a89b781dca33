theorem ge1 {q : Nat} (h : ¬ q % 2 = 0) : 1 ≤ q := by omega
set_option maxHeartbeats 4000000 in
set_option maxRecDepth 100000 in
theorem c_X3_turned (l : Launch) (G : va_G) (cA : ClassId) (tF tC : Nat) (g : Nat → Nat) (sz N : Nat) (hN : 1 ≤ N ∧ N ≤ 64) (zz : Int32) (D R F KD KR RW OU WO ST WK CA : Nat → Int32) (ln kp rd wr ft : Int32) (x y : Int32) : CI l yX3_turned wsX3_turned 0 0 G cA tF tC g 14 sz (mW g cA N zz D R F KD KR RW OU WO ST WK CA ln kp rd wr ft) [.int x, .int y] (fun (u : Unit) => mW g cA N zz D R F KD KR RW OU WO ST WK CA ln kp rd wr ft) (fun r _ => r = rot x y) := by
  refine x_entryI (cc := cX3_turned) (maxL := 2) (by decide) rfl (fun _ => rfl) (Nat.le_of_ble_eq_true rfl) ?_
  intro p e s m args below meth c Q hx hb hml hown hts hK hP hD hS hT hret ls hl
  have hown : s.vm.findClass RX3 = some m.cls := hown
  have hl : lv_has ls 2 [(0, .int x), (1, .int y)] := hl
  refine lv_iload_n hx hb dX3_turned_0 rfl (lv_at hl 0 rfl) ?_
  refine lv_iload_n hx hb dX3_turned_1 rfl (lv_at hl 1 rfl) ?_
  refine lv_iushr (v := us x y) hx hb dX3_turned_2 rfl ?_
  refine lv_iload_n hx hb dX3_turned_3 rfl (lv_at hl 0 rfl) ?_
  refine lv_bipush (v := 32) hx hb dX3_turned_4 (by decide) ?_
  refine lv_iload_n hx hb dX3_turned_6 rfl (lv_at hl 1 rfl) ?_
  refine lv_isub hx hb dX3_turned_7 ?_
  refine lv_ishl hx hb dX3_turned_8 ?_
  refine x_eqi (y := sl x (32 - y)) rfl ?_
  refine lv_ior hx hb dX3_turned_9 ?_
  exact hret _ () _ _ _ _ dX3_turned_10 hP hD hS rfl

set_option maxHeartbeats 4000000 in
set_option maxRecDepth 100000 in
theorem c_X3_add (l : Launch) (G : va_G) (cA : ClassId) (tF tC : Nat) (g : Nat → Nat) (sz N : Nat) (hN : 1 ≤ N ∧ N ≤ 64) (zz : Int32) (D R F KD KR RW OU WO ST WK CA : Nat → Int32) (kp rd wr ft : Int32) (zL : Nat) (zf : Nat → Int32) (zb : Int32) (hRo : Mrow zf RW zL) (hbb : zb &&& 255 = zf zL &&& 255) (hL : zL < 256) : CV l yX3_add wsX3_add 0 0 G cA tF tC g 14 sz (mW g cA N zz D R F KD KR RW OU WO ST WK CA (nI zL) kp rd wr ft) [.ref (g 0), .int zb] (fun (u : Nat → Int32) => mW g cA N zz D R F KD KR u OU WO ST WK CA (nI (zL + 1)) kp rd wr ft) (fun u => Mrow zf u (zL + 1)) := by
  refine x_entryV (cc := cX3_add) (maxL := 2) (by decide) rfl (fun _ => rfl) (Nat.le_of_ble_eq_true rfl) ?_
  intro p e s m args below meth c Q hx hb hml hown hts hK hP hD hS hT hret ls hl
  have hown : s.vm.findClass RX3 = some m.cls := hown
  have hl : lv_has ls 2 [(0, .ref (g 0)), (1, .int zb)] := hl
  have hinX3 : ∀ w ∈ wsX30, w ∈ wsX3_add := by decide +kernel
  refine lv_aload_n hx hb dX3_add_0 rfl (lv_at hl 0 rfl) ?_
  refine va_get (D := G) (ci := 3) (v := .ref (g 8)) (C := RX3) (T := TX3) (N := 20) hx hb hts hinX3 hown hK hP 0 rfl rfl 13 (by decide) (hts (.fieldLink RX3 103 "SealedPagesModel" "row" "[I") (by decide +kernel)) (fun _ h => h) rfl dX3_add_1 ?_
  refine lv_aload_n hx hb dX3_add_4 rfl (lv_at hl 0 rfl) ?_
  refine va_get (D := G) (ci := 3) (v := .int (nI zL)) (C := RX3) (T := TX3) (N := 20) hx hb hts hinX3 hown hK hP 0 rfl rfl 14 (by decide) (hts (.fieldLink RX3 139 "SealedPagesModel" "length" "I") (by decide +kernel)) (fun _ h => h) rfl dX3_add_5 ?_
  refine lv_iload_n hx hb dX3_add_8 rfl (lv_at hl 1 rfl) ?_
  refine lv_sipush (v := 255) hx hb dX3_add_9 (by decide) ?_
  refine lv_iand hx hb dX3_add_12 ?_
  refine x_ast (i := zL) hx hb hK hP hD hS 8 0 rfl rfl (by omega) (by decide) dX3_add_13 (fun H locs hP hD hS => ?_)
  have hP : va_P G vwCl (mW g cA N zz D R F KD KR (upd RW zL (zb &&& 255)) OU WO ST WK CA (nI zL) kp rd wr ft) _ := hP
  have hD : va_D _ (mW g cA N zz D R F KD KR (upd RW zL (zb &&& 255)) OU WO ST WK CA (nI zL) kp rd wr ft) := hD
  refine lv_aload_n hx hb dX3_add_14 rfl (lv_at hl 0 rfl) ?_
  refine lv_dup hx hb dX3_add_15 rfl ?_
  refine va_get (D := G) (ci := 3) (v := .int (nI zL)) (C := RX3) (T := TX3) (N := 20) hx hb hts hinX3 hown hK hP 0 rfl rfl 14 (by decide) (hts (.fieldLink RX3 139 "SealedPagesModel" "length" "I") (by decide +kernel)) (fun _ h => h) rfl dX3_add_16 ?_
  refine lv_iconst (v := 1) hx hb dX3_add_19 (by decide) ?_
  refine lv_iadd hx hb dX3_add_20 ?_
  refine x_eqi (y := nI (zL + 1)) (nI_add zL 1) ?_
  refine va_put (D := G) (ci := 3) (v := .int (nI (zL + 1))) (ty := .int) (C := RX3) (T := TX3) (N := 20) hx hb hts hinX3 tyX3 tyX3_ok nmX3 hown hK hP hD hS 0 rfl rfl 14 (by decide) (hts (.fieldLink RX3 139 "SealedPagesModel" "length" "I") (by decide +kernel)) (fun _ h => h) rfl (by decide +kernel) rfl rfl (Nat.le_of_ble_eq_true rfl) dX3_add_21 (fun H locs hP hD hS => ?_)
  have hP : va_P G vwCl (mW g cA N zz D R F KD KR (upd RW zL (zb &&& 255)) OU WO ST WK CA (nI (zL + 1)) kp rd wr ft) _ := hP
  have hD : va_D _ (mW g cA N zz D R F KD KR (upd RW zL (zb &&& 255)) OU WO ST WK CA (nI (zL + 1)) kp rd wr ft) := hD
  exact hret (upd RW zL (zb &&& 255)) _ _ _ _ dX3_add_24 hP hD hS (Mrow_s hRo hbb)

set_option maxHeartbeats 4000000 in
set_option maxRecDepth 100000 in
theorem c_X3_round (l : Launch) (G : va_G) (cA : ClassId) (tF tC : Nat) (g : Nat → Nat) (sz N : Nat) (hN : 1 ≤ N ∧ N ≤ 64) (zz : Int32) (D R F KD KR RW OU WO ST WK CA : Nat → Int32) (ln kp rd wr ft : Int32) (zt : Nat) (ht : zt < 64) : CV l yX3_round wsX3_round 1 21 G cA tF tC g 14 sz (mW g cA N zz D R F KD KR RW OU WO ST WK CA ln kp rd wr ft) [.ref (g 0), .int (nI zt)] (fun (u : Nat → Int32) => mW g cA N zz D R F KD KR RW OU WO ST u CA ln kp rd wr ft) (fun u => ag 8 u (rnd WK (kC zt) (WO zt))) := by
  refine x_entryV (cc := cX3_round) (maxL := 9) (by decide) rfl (fun _ => rfl) (Nat.le_of_ble_eq_true rfl) ?_
  intro p e s m args below meth c Q hx hb hml hown hts hK hP hD hS hT hret ls hl
  have hown : s.vm.findClass RX3 = some m.cls := hown
  have hl : lv_has ls 9 [(0, .ref (g 0)), (1, .int (nI zt))] := hl
  have hinX3 : ∀ w ∈ wsX30, w ∈ wsX3_round := by decide +kernel
  refine lv_aload_n hx hb dX3_round_0 rfl (lv_at hl 0 rfl) ?_
  refine va_get (D := G) (ci := 3) (v := .ref (g 12)) (C := RX3) (T := TX3) (N := 20) hx hb hts hinX3 hown hK hP 0 rfl rfl 18 (by decide) (hts (.fieldLink RX3 115 "SealedPagesModel" "work" "[I") (by decide +kernel)) (fun _ h => h) rfl dX3_round_1 ?_
  refine lv_iconst (v := 0) hx hb dX3_round_4 (by decide) ?_
  refine x_ald (i := 0) hx hb hK hP 12 0 rfl rfl (by omega) (by decide) dX3_round_5 ?_
  refine lv_istore_n (lv' := [(2, .int (WK 0)), (0, .ref (g 0)), (1, .int (nI zt))]) hx hb dX3_round_6 rfl hl (by decide) rfl (fun ls hl => ?_)
  refine lv_aload_n hx hb dX3_round_7 rfl (lv_at hl 1 rfl) ?_
  refine va_get (D := G) (ci := 3) (v := .ref (g 12)) (C := RX3) (T := TX3) (N := 20) hx hb hts hinX3 hown hK hP 0 rfl rfl 18 (by decide) (hts (.fieldLink RX3 115 "SealedPagesModel" "work" "[I") (by decide +kernel)) (fun _ h => h) rfl dX3_round_8 ?_
  refine lv_iconst (v := 1) hx hb dX3_round_11 (by decide) ?_
  refine x_ald (i := 1) hx hb hK hP 12 0 rfl rfl (by omega) (by decide) dX3_round_12 ?_
  refine lv_istore_n (lv' := [(3, .int (WK 1)), (2, .int (WK 0)), (0, .ref (g 0)), (1, .int (nI zt))]) hx hb dX3_round_13 rfl hl (by decide) rfl (fun ls hl => ?_)
  refine lv_aload_n hx hb dX3_round_14 rfl (lv_at hl 2 rfl) ?_
  refine va_get (D := G) (ci := 3) (v := .ref (g 12)) (C := RX3) (T := TX3) (N := 20) hx hb hts hinX3 hown hK hP 0 rfl rfl 18 (by decide) (hts (.fieldLink RX3 115 "SealedPagesModel" "work" "[I") (by decide +kernel)) (fun _ h => h) rfl dX3_round_15 ?_
  refine lv_iconst (v := 2) hx hb dX3_round_18 (by decide) ?_
  refine x_ald (i := 2) hx hb hK hP 12 0 rfl rfl (by omega) (by decide) dX3_round_19 ?_
  refine lv_istore (lv' := [(4, .int (WK 2)), (3, .int (WK 1)), (2, .int (WK 0)), (0, .ref (g 0)), (1, .int (nI zt))]) hx hb dX3_round_20 hl (by decide) rfl (fun ls hl => ?_)
  refine lv_aload_n hx hb dX3_round_22 rfl (lv_at hl 3 rfl) ?_
  refine va_get (D := G) (ci := 3) (v := .ref (g 12)) (C := RX3) (T := TX3) (N := 20) hx hb hts hinX3 hown hK hP 0 rfl rfl 18 (by decide) (hts (.fieldLink RX3 115 "SealedPagesModel" "work" "[I") (by decide +kernel)) (fun _ h => h) rfl dX3_round_23 ?_
  refine lv_iconst (v := 4) hx hb dX3_round_26 (by decide) ?_
  refine x_ald (i := 4) hx hb hK hP 12 0 rfl rfl (by omega) (by decide) dX3_round_27 ?_
  refine lv_istore (lv' := [(5, .int (WK 4)), (4, .int (WK 2)), (3, .int (WK 1)), (2, .int (WK 0)), (0, .ref (g 0)), (1, .int (nI zt))]) hx hb dX3_round_28 hl (by decide) rfl (fun ls hl => ?_)
  refine lv_aload_n hx hb dX3_round_30 rfl (lv_at hl 4 rfl) ?_
  refine va_get (D := G) (ci := 3) (v := .ref (g 12)) (C := RX3) (T := TX3) (N := 20) hx hb hts hinX3 hown hK hP 0 rfl rfl 18 (by decide) (hts (.fieldLink RX3 115 "SealedPagesModel" "work" "[I") (by decide +kernel)) (fun _ h => h) rfl dX3_round_31 ?_
  refine lv_bipush (v := 7) hx hb dX3_round_34 (by decide) ?_
  refine x_ald (i := 7) hx hb hK hP 12 0 rfl rfl (by omega) (by decide) dX3_round_36 ?_
  refine lv_iload hx hb dX3_round_37 (lv_at hl 0 rfl) ?_
  refine lv_bipush (v := 6) hx hb dX3_round_39 (by decide) ?_
  refine x_si ⟨hx, hb, hml, hown, hts⟩ (c_X3_turned l G cA tF tC g _ N hN zz D R F KD KR RW OU WO ST WK CA ln kp rd wr ft (WK 4) 6) (va_cwS 2 hts gX3_round_X3_turned rfl rfl rfl (by decide +kernel) ⟨Nat.le_of_ble_eq_true rfl, Nat.le_of_ble_eq_true rfl⟩) hK hP hD hS hT rfl rfl hl.1 rfl (Nat.le_of_ble_eq_true rfl) dX3_round_41 ⟨Nat.le_refl _, Nat.le_refl _⟩ (fun r_2 u H locs hp_1 hP hD hS => ?_)
  have hP : va_P G vwCl (mW g cA N zz D R F KD KR RW OU WO ST WK CA ln kp rd wr ft) _ := hP
  have hD : va_D _ (mW g cA N zz D R F KD KR RW OU WO ST WK CA ln kp rd wr ft) := hD
  have hp_1 : r_2 = rot (WK 4) 6 := hp_1
  subst hp_1
  refine lv_iload hx hb dX3_round_44 (lv_at hl 0 rfl) ?_
  refine lv_bipush (v := 11) hx hb dX3_round_46 (by decide) ?_
  refine x_si ⟨hx, hb, hml, hown, hts⟩ (c_X3_turned l G cA tF tC g _ N hN zz D R F KD KR RW OU WO ST WK CA ln kp rd wr ft (WK 4) 11) (va_cwS 2 hts gX3_round_X3_turned rfl rfl rfl (by decide +kernel) ⟨Nat.le_of_ble_eq_true rfl, Nat.le_of_ble_eq_true rfl⟩) hK hP hD hS hT rfl rfl hl.1 rfl (Nat.le_of_ble_eq_true rfl) dX3_round_48 ⟨Nat.le_refl _, Nat.le_refl _⟩ (fun r_4 u H locs hp_3 hP hD hS => ?_)
  have hP : va_P G vwCl (mW g cA N zz D R F KD KR RW OU WO ST WK CA ln kp rd wr ft) _ := hP
  have hD : va_D _ (mW g cA N zz D R F KD KR RW OU WO ST WK CA ln kp rd wr ft) := hD
  have hp_3 : r_4 = rot (WK 4) 11 := hp_3
  subst hp_3
  refine lv_ixor hx hb dX3_round_51 ?_
  refine lv_iload hx hb dX3_round_52 (lv_at hl 0 rfl) ?_
  refine lv_bipush (v := 25) hx hb dX3_round_54 (by decide) ?_
  refine x_si ⟨hx, hb, hml, hown, hts⟩ (c_X3_turned l G cA tF tC g _ N hN zz D R F KD KR RW OU WO ST WK CA ln kp rd wr ft (WK 4) 25) (va_cwS 2 hts gX3_round_X3_turned rfl rfl rfl (by decide +kernel) ⟨Nat.le_of_ble_eq_true rfl, Nat.le_of_ble_eq_true rfl⟩) hK hP hD hS hT rfl rfl hl.1 rfl (Nat.le_of_ble_eq_true rfl) dX3_round_56 ⟨Nat.le_refl _, Nat.le_refl _⟩ (fun r_6 u H locs hp_5 hP hD hS => ?_)
  have hP : va_P G vwCl (mW g cA N zz D R F KD KR RW OU WO ST WK CA ln kp rd wr ft) _ := hP
  have hD : va_D _ (mW g cA N zz D R F KD KR RW OU WO ST WK CA ln kp rd wr ft) := hD
  have hp_5 : r_6 = rot (WK 4) 25 := hp_5
  subst hp_5
  refine lv_ixor hx hb dX3_round_59 ?_
  refine lv_iadd hx hb dX3_round_60 ?_
  refine lv_iload hx hb dX3_round_61 (lv_at hl 0 rfl) ?_
  refine lv_aload_n hx hb dX3_round_63 rfl (lv_at hl 4 rfl) ?_
  refine va_get (D := G) (ci := 3) (v := .ref (g 12)) (C := RX3) (T := TX3) (N := 20) hx hb hts hinX3 hown hK hP 0 rfl rfl 18 (by decide) (hts (.fieldLink RX3 115 "SealedPagesModel" "work" "[I") (by decide +kernel)) (fun _ h => h) rfl dX3_round_64 ?_
  refine lv_iconst (v := 5) hx hb dX3_round_67 (by decide) ?_
  refine x_ald (i := 5) hx hb hK hP 12 0 rfl rfl (by omega) (by decide) dX3_round_68 ?_
  refine lv_iand hx hb dX3_round_69 ?_
  refine lv_iload hx hb dX3_round_70 (lv_at hl 0 rfl) ?_
  refine lv_iconst (v := (-1)) hx hb dX3_round_72 (by decide) ?_
  refine lv_ixor hx hb dX3_round_73 ?_
  refine lv_aload_n hx hb dX3_round_74 rfl (lv_at hl 4 rfl) ?_
  refine va_get (D := G) (ci := 3) (v := .ref (g 12)) (C := RX3) (T := TX3) (N := 20) hx hb hts hinX3 hown hK hP 0 rfl rfl 18 (by decide) (hts (.fieldLink RX3 115 "SealedPagesModel" "work" "[I") (by decide +kernel)) (fun _ h => h) rfl dX3_round_75 ?_
  refine lv_bipush (v := 6) hx hb dX3_round_78 (by decide) ?_
  refine x_ald (i := 6) hx hb hK hP 12 0 rfl rfl (by omega) (by decide) dX3_round_80 ?_
  refine lv_iand hx hb dX3_round_81 ?_
  refine lv_ixor hx hb dX3_round_82 ?_
  refine lv_iadd hx hb dX3_round_83 ?_
  refine lv_aload_n hx hb dX3_round_84 rfl (lv_at hl 4 rfl) ?_
  refine va_get (D := G) (ci := 3) (v := .ref (g 1)) (C := RX3) (T := TX3) (N := 20) hx hb hts hinX3 hown hK hP 0 rfl rfl 0 (by decide) (hts (.fieldLink RX3 71 "SealedPagesModel" "k0" "[I") (by decide +kernel)) (fun _ h => h) rfl dX3_round_85 ?_
  refine lv_iload_n hx hb dX3_round_88 rfl (lv_at hl 5 rfl) ?_
  refine x_ald (i := zt) hx hb hK hP 1 0 rfl rfl (by omega) (by decide) dX3_round_89 ?_
  refine lv_iadd hx hb dX3_round_90 ?_
  refine lv_aload_n hx hb dX3_round_91 rfl (lv_at hl 4 rfl) ?_
  refine va_get (D := G) (ci := 3) (v := .ref (g 10)) (C := RX3) (T := TX3) (N := 20) hx hb hts hinX3 hown hK hP 0 rfl rfl 16 (by decide) (hts (.fieldLink RX3 109 "SealedPagesModel" "words" "[I") (by decide +kernel)) (fun _ h => h) rfl dX3_round_92 ?_
  refine lv_iload_n hx hb dX3_round_95 rfl (lv_at hl 5 rfl) ?_
  refine x_ald (i := zt) hx hb hK hP 10 0 rfl rfl (by omega) (by decide) dX3_round_96 ?_
  refine lv_iadd hx hb dX3_round_97 ?_
  refine x_eqi (y := rT1 WK (kC zt) (WO zt)) (by subst_vars; rfl) ?_
  refine lv_topi (fun x6_7 ex6_7 => ?_)
  refine lv_istore (lv' := [(6, .int x6_7), (5, .int (WK 4)), (4, .int (WK 2)), (3, .int (WK 1)), (2, .int (WK 0)), (0, .ref (g 0)), (1, .int (nI zt))]) hx hb dX3_round_98 hl (by decide) rfl (fun ls hl => ?_)
  refine lv_iload_n hx hb dX3_round_100 rfl (lv_at hl 4 rfl) ?_
  refine lv_iconst (v := 2) hx hb dX3_round_101 (by decide) ?_
  refine x_si ⟨hx, hb, hml, hown, hts⟩ (c_X3_turned l G cA tF tC g _ N hN zz D R F KD KR RW OU WO ST WK CA ln kp rd wr ft (WK 0) 2) (va_cwS 2 hts gX3_round_X3_turned rfl rfl rfl (by decide +kernel) ⟨Nat.le_of_ble_eq_true rfl, Nat.le_of_ble_eq_true rfl⟩) hK hP hD hS hT rfl rfl hl.1 rfl (Nat.le_of_ble_eq_true rfl) dX3_round_102 ⟨Nat.le_refl _, Nat.le_refl _⟩ (fun r_9 u H locs hp_8 hP hD hS => ?_)
  have hP : va_P G vwCl (mW g cA N zz D R F KD KR RW OU WO ST WK CA ln kp rd wr ft) _ := hP
  have hD : va_D _ (mW g cA N zz D R F KD KR RW OU WO ST WK CA ln kp rd wr ft) := hD
  have hp_8 : r_9 = rot (WK 0) 2 := hp_8
  subst hp_8
  refine lv_iload_n hx hb dX3_round_105 rfl (lv_at hl 4 rfl) ?_
  refine lv_bipush (v := 13) hx hb dX3_round_106 (by decide) ?_
  refine x_si ⟨hx, hb, hml, hown, hts⟩ (c_X3_turned l G cA tF tC g _ N hN zz D R F KD KR RW OU WO ST WK CA ln kp rd wr ft (WK 0) 13) (va_cwS 2 hts gX3_round_X3_turned rfl rfl rfl (by decide +kernel) ⟨Nat.le_of_ble_eq_true rfl, Nat.le_of_ble_eq_true rfl⟩) hK hP hD hS hT rfl rfl hl.1 rfl (Nat.le_of_ble_eq_true rfl) dX3_round_108 ⟨Nat.le_refl _, Nat.le_refl _⟩ (fun r_11 u H locs hp_10 hP hD hS => ?_)
  have hP : va_P G vwCl (mW g cA N zz D R F KD KR RW OU WO ST WK CA ln kp rd wr ft) _ := hP
  have hD : va_D _ (mW g cA N zz D R F KD KR RW OU WO ST WK CA ln kp rd wr ft) := hD
  have hp_10 : r_11 = rot (WK 0) 13 := hp_10
  subst hp_10
  refine lv_ixor hx hb dX3_round_111 ?_
  refine lv_iload_n hx hb dX3_round_112 rfl (lv_at hl 4 rfl) ?_
  refine lv_bipush (v := 22) hx hb dX3_round_113 (by decide) ?_
  refine x_si ⟨hx, hb, hml, hown, hts⟩ (c_X3_turned l G cA tF tC g _ N hN zz D R F KD KR RW OU WO ST WK CA ln kp rd wr ft (WK 0) 22) (va_cwS 2 hts gX3_round_X3_turned rfl rfl rfl (by decide +kernel) ⟨Nat.le_of_ble_eq_true rfl, Nat.le_of_ble_eq_true rfl⟩) hK hP hD hS hT rfl rfl hl.1 rfl (Nat.le_of_ble_eq_true rfl) dX3_round_115 ⟨Nat.le_refl _, Nat.le_refl _⟩ (fun r_13 u H locs hp_12 hP hD hS => ?_)
  have hP : va_P G vwCl (mW g cA N zz D R F KD KR RW OU WO ST WK CA ln kp rd wr ft) _ := hP
  have hD : va_D _ (mW g cA N zz D R F KD KR RW OU WO ST WK CA ln kp rd wr ft) := hD
  have hp_12 : r_13 = rot (WK 0) 22 := hp_12
  subst hp_12
  refine lv_ixor hx hb dX3_round_118 ?_
  refine lv_iload_n hx hb dX3_round_119 rfl (lv_at hl 4 rfl) ?_
  refine lv_iload_n hx hb dX3_round_120 rfl (lv_at hl 3 rfl) ?_
  refine lv_iand hx hb dX3_round_121 ?_
  refine lv_iload_n hx hb dX3_round_122 rfl (lv_at hl 4 rfl) ?_
  refine lv_iload hx hb dX3_round_123 (lv_at hl 2 rfl) ?_
  refine lv_iand hx hb dX3_round_125 ?_
  refine lv_ixor hx hb dX3_round_126 ?_
  refine lv_iload_n hx hb dX3_round_127 rfl (lv_at hl 3 rfl) ?_
  refine lv_iload hx hb dX3_round_128 (lv_at hl 2 rfl) ?_
  refine lv_iand hx hb dX3_round_130 ?_
  refine lv_ixor hx hb dX3_round_131 ?_
  refine lv_iadd hx hb dX3_round_132 ?_
  refine x_eqi (y := rT2 WK) (by subst_vars; rfl) ?_
  refine lv_istore (lv' := [(7, .int (rT2 WK)), (6, .int x6_7), (5, .int (WK 4)), (4, .int (WK 2)), (3, .int (WK 1)), (2, .int (WK 0)), (0, .ref (g 0)), (1, .int (nI zt))]) hx hb dX3_round_133 hl (by decide) rfl (fun ls hl => ?_)
  refine lv_bipush (v := 7) hx hb dX3_round_135 (by decide) ?_
  refine lv_istore (lv' := [(8, .int 7), (7, .int (rT2 WK)), (6, .int x6_7), (5, .int (WK 4)), (4, .int (WK 2)), (3, .int (WK 1)), (2, .int (WK 0)), (0, .ref (g 0)), (1, .int (nI zt))]) hx hb dX3_round_137 hl (by decide) rfl (fun ls hl => ?_)
  have loop_139 : ∀ (n_139 : Nat) (zk : Nat), zk < n_139 → (zk ≤ 7) → ∀ (H : Heap) (locs : List Loc) (ls : Array Slot), va_P G vwCl (mW g cA N zz D R F KD KR RW OU WO ST (shf WK zk) CA ln kp rd wr ft) H → va_D (wA g 14 s.heap.size) (mW g cA N zz D R F KD KR RW OU WO ST (shf WK zk) CA ln kp rd wr ft) → va_S (wA g 14 s.heap.size) s.heap H locs → lv_has ls 9 [(0, .ref (g 0)), (1, .int (nI zt)), (2, .int (WK 0)), (3, .int (WK 1)), (4, .int (WK 2)), (5, .int (WK 4)), (6, .int x6_7), (7, .int (rT2 WK)), (8, .int (nI zk))] → W p l e { frames := 1, cells := 0, slots := 0, locals := 21 } s m args below meth c H locs 0 0 Q (F0 m 139 ls []) := by
    intro n_139
    induction n_139 with
    | zero => intro zk hm_139; exact absurd hm_139 (Nat.not_lt_zero _)
    | succ n_139 ih_139 =>
      intro zk hm_139 hk H locs ls hP hD hS hl
      refine lv_iload hx hb dX3_round_139 (lv_at hl 8 rfl) ?_
      refine lv_if_le (tgt := 166) hx hb dX3_round_141 (by decide) (fun c_14 => ?_) (fun c_14 => ?_)
      · skip
        have c_14 : zk ≤ 0 := (nI_leI (a := zk) (b := 0) (by omega) (by omega)).mp c_14
        obtain rfl : zk = 0 := by omega
        have hl : lv_has ls 9 [(0, .ref (g 0)), (1, .int (nI zt)), (2, .int (WK 0)), (3, .int (WK 1)), (4, .int (WK 2)), (5, .int (WK 4)), (6, .int x6_7), (7, .int (rT2 WK)), (8, .int (nI 0))] := hl
        refine lv_aload_n hx hb dX3_round_166 rfl (lv_at hl 0 rfl) ?_
        refine va_get (D := G) (ci := 3) (v := .ref (g 12)) (C := RX3) (T := TX3) (N := 20) hx hb hts hinX3 hown hK hP 0 rfl rfl 18 (by decide) (hts (.fieldLink RX3 115 "SealedPagesModel" "work" "[I") (by decide +kernel)) (fun _ h => h) rfl dX3_round_167 ?_
        refine lv_iconst (v := 4) hx hb dX3_round_170 (by decide) ?_
        refine lv_dup2_11 hx hb dX3_round_171 rfl rfl ?_
        refine x_ald (i := 4) hx hb hK hP 12 0 rfl rfl (by omega) (by decide) dX3_round_172 ?_
        refine lv_iload hx hb dX3_round_173 (lv_at hl 6 rfl) ?_
        refine lv_iadd hx hb dX3_round_175 ?_
        refine x_ast (i := 4) hx hb hK hP hD hS 12 0 rfl rfl (by omega) (by decide) dX3_round_176 (fun H locs hP hD hS => ?_)
        have hP : va_P G vwCl (mW g cA N zz D R F KD KR RW OU WO ST (upd (shf WK 0) 4 (((shf WK 0) 4) + x6_7)) CA ln kp rd wr ft) _ := hP
        have hD : va_D _ (mW g cA N zz D R F KD KR RW OU WO ST (upd (shf WK 0) 4 (((shf WK 0) 4) + x6_7)) CA ln kp rd wr ft) := hD
        refine lv_aload_n hx hb dX3_round_177 rfl (lv_at hl 0 rfl) ?_
        refine va_get (D := G) (ci := 3) (v := .ref (g 12)) (C := RX3) (T := TX3) (N := 20) hx hb hts hinX3 hown hK hP 0 rfl rfl 18 (by decide) (hts (.fieldLink RX3 115 "SealedPagesModel" "work" "[I") (by decide +kernel)) (fun _ h => h) rfl dX3_round_178 ?_
        refine lv_iconst (v := 0) hx hb dX3_round_181 (by decide) ?_
        refine lv_iload hx hb dX3_round_182 (lv_at hl 6 rfl) ?_
        refine lv_iload hx hb dX3_round_184 (lv_at hl 7 rfl) ?_
        refine lv_iadd hx hb dX3_round_186 ?_
        refine x_ast (i := 0) hx hb hK hP hD hS 12 0 rfl rfl (by omega) (by decide) dX3_round_187 (fun H locs hP hD hS => ?_)
        have hP : va_P G vwCl (mW g cA N zz D R F KD KR RW OU WO ST (upd (upd (shf WK 0) 4 (((shf WK 0) 4) + x6_7)) 0 (x6_7 + (rT2 WK))) CA ln kp rd wr ft) _ := hP
        have hD : va_D _ (mW g cA N zz D R F KD KR RW OU WO ST (upd (upd (shf WK 0) 4 (((shf WK 0) 4) + x6_7)) 0 (x6_7 + (rT2 WK))) CA ln kp rd wr ft) := hD
        exact hret (upd (upd (shf WK 0) 4 (((shf WK 0) 4) + x6_7)) 0 (x6_7 + (rT2 WK))) _ _ _ _ dX3_round_188 hP hD hS (by
            intro zj hj
            subst_vars
            rcases (show zj = 0 ∨ zj = 1 ∨ zj = 2 ∨ zj = 3 ∨ zj = 4 ∨ zj = 5 ∨ zj = 6 ∨ zj = 7 by omega) with h | h | h | h | h | h | h | h <;> subst h <;> simp [upd, shf, rnd])
      · skip
        have c_14 : ¬ zk ≤ 0 := fun z => c_14 ((nI_leI (a := zk) (b := 0) (by omega) (by omega)).mpr z)
        refine lv_aload_n hx hb dX3_round_144 rfl (lv_at hl 0 rfl) ?_
        refine va_get (D := G) (ci := 3) (v := .ref (g 12)) (C := RX3) (T := TX3) (N := 20) hx hb hts hinX3 hown hK hP 0 rfl rfl 18 (by decide) (hts (.fieldLink RX3 115 "SealedPagesModel" "work" "[I") (by decide +kernel)) (fun _ h => h) rfl dX3_round_145 ?_
        refine lv_iload hx hb dX3_round_148 (lv_at hl 8 rfl) ?_
        refine lv_aload_n hx hb dX3_round_150 rfl (lv_at hl 0 rfl) ?_
        refine va_get (D := G) (ci := 3) (v := .ref (g 12)) (C := RX3) (T := TX3) (N := 20) hx hb hts hinX3 hown hK hP 0 rfl rfl 18 (by decide) (hts (.fieldLink RX3 115 "SealedPagesModel" "work" "[I") (by decide +kernel)) (fun _ h => h) rfl dX3_round_151 ?_
        refine lv_iload hx hb dX3_round_154 (lv_at hl 8 rfl) ?_
        refine lv_iconst (v := 1) hx hb dX3_round_156 (by decide) ?_
        refine lv_isub hx hb dX3_round_157 ?_
        refine x_eqi (y := nI (zk - 1)) (pk_sub (a := zk) (b := 1) (by omega)) ?_
        refine x_ald (i := zk - 1) hx hb hK hP 12 0 rfl rfl (by omega) (by decide) dX3_round_158 ?_
        refine x_ast (i := zk) hx hb hK hP hD hS 12 0 rfl rfl (by omega) (by decide) dX3_round_159 (fun H locs hP hD hS => ?_)
        have hP : va_P G vwCl (mW g cA N zz D R F KD KR RW OU WO ST (upd (shf WK zk) zk ((shf WK zk) (zk - 1))) CA ln kp rd wr ft) _ := hP
        have hD : va_D _ (mW g cA N zz D R F KD KR RW OU WO ST (upd (shf WK zk) zk ((shf WK zk) (zk - 1))) CA ln kp rd wr ft) := hD
        have ec_15 : upd (shf WK zk) zk ((shf WK zk) (zk - 1)) = shf WK (zk - 1) := shf_s (by omega) (by omega)
        rw [show mW g cA N zz D R F KD KR RW OU WO ST (upd (shf WK zk) zk ((shf WK zk) (zk - 1))) CA ln kp rd wr ft = mW g cA N zz D R F KD KR RW OU WO ST (shf WK (zk - 1)) CA ln kp rd wr ft from by rw [← ec_15]] at hP hD
        refine lv_iinc (v := nI (zk - 1)) (lv' := [(8, .int (nI (zk - 1))), (0, .ref (g 0)), (1, .int (nI zt)), (2, .int (WK 0)), (3, .int (WK 1)), (4, .int (WK 2)), (5, .int (WK 4)), (6, .int x6_7), (7, .int (rT2 WK))]) hx hb dX3_round_160 hl (k := 8) rfl (by rw [dec_1]; exact pk_sub (a := zk) (b := 1) (by omega)) (by decide) rfl (fun ls hl => ?_)
        refine lv_goto (tgt := 139) hx hb dX3_round_163 (by decide) ?_
        exact ih_139 (zk - 1) (by omega) (by omega) _ _ _ hP hD hS (lv_sub hl [1, 2, 3, 4, 5, 6, 7, 8, 0] rfl)
  rw [show WK = shf WK 7 from by funext zj; unfold shf; rw [if_neg (by omega)]] at hP hD
  exact loop_139 _ 7 (Nat.lt_succ_self _) (by omega) _ _ _ hP hD hS (lv_sub hl [7, 8, 6, 5, 4, 3, 2, 1, 0] rfl)

set_option maxHeartbeats 4000000 in
set_option maxRecDepth 100000 in
theorem c_X3_mix (l : Launch) (G : va_G) (cA : ClassId) (tF tC : Nat) (g : Nat → Nat) (sz N : Nat) (hN : 1 ≤ N ∧ N ≤ 64) (zz : Int32) (D R F KD KR RW OU WO ST WK CA : Nat → Int32) (ln kp rd wr ft : Int32) (b0 : Nat) (zf : Nat → Int32) (hb0 : b0 + 64 ≤ 256) (hRo : ∀ q, b0 ≤ q → q < b0 + 64 → RW q = zf q &&& 255) : CV l yX3_mix wsX3_mix 2 49 G cA tF tC g 14 sz (mW g cA N zz D R F KD KR RW OU WO ST WK CA ln kp rd wr ft) [.ref (g 0), .int (nI b0)] (fun (u : (Nat → Int32) × (Nat → Int32) × (Nat → Int32)) => mW g cA N zz D R F KD KR RW OU u.1 u.2.1 u.2.2 CA ln kp rd wr ft) (fun u => ag 8 u.2.1 (cmp ST (spr (fun q => wrd zf (b0 + 4 * q)) 48))) := by
  refine x_entryV (cc := cX3_mix) (maxL := 7) (by decide) rfl (fun _ => rfl) (Nat.le_of_ble_eq_true rfl) ?_
  intro p e s m args below meth c Q hx hb hml hown hts hK hP hD hS hT hret ls hl
  have hown : s.vm.findClass RX3 = some m.cls := hown
  have hl : lv_has ls 7 [(0, .ref (g 0)), (1, .int (nI b0))] := hl
  have hinX3 : ∀ w ∈ wsX30, w ∈ wsX3_mix := by decide +kernel
  refine lv_iconst (v := 0) hx hb dX3_mix_0 (by decide) ?_
  refine lv_istore_n (lv' := [(2, .int 0), (0, .ref (g 0)), (1, .int (nI b0))]) hx hb dX3_mix_1 rfl hl (by decide) rfl (fun ls hl => ?_)
  have loop_2 : ∀ (n_2 : Nat) (zk : Nat), (16 - zk) < n_2 → (zk ≤ 16) → ∀ (H : Heap) (locs : List Loc) (ls : Array Slot), va_P G vwCl (mW g cA N zz D R F KD KR RW OU (va_cpy (fun q => wrd zf (b0 + 4 * q)) WO 0 0 zk) ST WK CA ln kp rd wr ft) H → va_D (wA g 14 s.heap.size) (mW g cA N zz D R F KD KR RW OU (va_cpy (fun q => wrd zf (b0 + 4 * q)) WO 0 0 zk) ST WK CA ln kp rd wr ft) → va_S (wA g 14 s.heap.size) s.heap H locs → lv_has ls 7 [(0, .ref (g 0)), (1, .int (nI b0)), (2, .int (nI zk))] → W p l e { frames := 2, cells := 0, slots := 0, locals := 49 } s m args below meth c H locs 0 0 Q (F0 m 2 ls []) := by
    intro n_2
    induction n_2 with
    | zero => intro zk hm_2; exact absurd hm_2 (Nat.not_lt_zero _)
    | succ n_2 ih_2 =>
      intro zk hm_2 hk H locs ls hP hD hS hl
      refine lv_iload_n hx hb dX3_mix_2 rfl (lv_at hl 2 rfl) ?_
      refine lv_bipush (v := 16) hx hb dX3_mix_3 (by decide) ?_
      refine lv_icmp_ge (tgt := 68) hx hb dX3_mix_5 (by decide) (fun c_1 => ?_) (fun c_1 => ?_)
      · skip
        have c_1 : 16 ≤ zk := (nI_leI (a := 16) (b := zk) (by omega) (by omega)).mp c_1
        obtain rfl : zk = 16 := by omega
        have hl : lv_has ls 7 [(0, .ref (g 0)), (1, .int (nI b0)), (2, .int (nI 16))] := hl
        refine lv_bipush (v := 16) hx hb dX3_mix_68 (by decide) ?_
        refine lv_istore_n (lv' := [(2, .int 16), (0, .ref (g 0)), (1, .int (nI b0))]) hx hb dX3_mix_70 rfl hl (by decide) rfl (fun ls hl => ?_)
        have loop_71 : ∀ (n_71 : Nat) (zj : Nat), (48 - zj) < n_71 → (zj ≤ 48) → ∀ (H : Heap) (locs : List Loc) (ls : Array Slot), va_P G vwCl (mW g cA N zz D R F KD KR RW OU (spr (va_cpy (fun q => wrd zf (b0 + 4 * q)) WO 0 0 16) zj) ST WK CA ln kp rd wr ft) H → va_D (wA g 14 s.heap.size) (mW g cA N zz D R F KD KR RW OU (spr (va_cpy (fun q => wrd zf (b0 + 4 * q)) WO 0 0 16) zj) ST WK CA ln kp rd wr ft) → va_S (wA g 14 s.heap.size) s.heap H locs → lv_has ls 7 [(0, .ref (g 0)), (1, .int (nI b0)), (2, .int (nI (16 + zj)))] → W p l e { frames := 2, cells := 0, slots := 0, locals := 49 } s m args below meth c H locs 0 0 Q (F0 m 71 ls []) := by
          intro n_71
          induction n_71 with
          | zero => intro zj hm_71; exact absurd hm_71 (Nat.not_lt_zero _)
          | succ n_71 ih_71 =>
            intro zj hm_71 hj H locs ls hP hD hS hl
            refine lv_iload_n hx hb dX3_mix_71 rfl (lv_at hl 2 rfl) ?_
            refine lv_bipush (v := 64) hx hb dX3_mix_72 (by decide) ?_
            refine lv_icmp_ge (tgt := 176) hx hb dX3_mix_74 (by decide) (fun c_2 => ?_) (fun c_2 => ?_)
            · skip
              have c_2 : 64 ≤ (16 + zj) := (nI_leI (a := 64) (b := (16 + zj)) (by omega) (by omega)).mp c_2
              obtain rfl : zj = 48 := by omega
              have hl : lv_has ls 7 [(0, .ref (g 0)), (1, .int (nI b0)), (2, .int (nI (16 + 48)))] := hl
              refine lv_iconst (v := 0) hx hb dX3_mix_176 (by decide) ?_
              refine lv_istore_n (lv' := [(2, .int 0), (0, .ref (g 0)), (1, .int (nI b0))]) hx hb dX3_mix_177 rfl hl (by decide) rfl (fun ls hl => ?_)
              have loop_178 : ∀ (n_178 : Nat) (zk : Nat), (8 - zk) < n_178 → (zk ≤ 8) → ∀ (H : Heap) (locs : List Loc) (ls : Array Slot), va_P G vwCl (mW g cA N zz D R F KD KR RW OU (spr (va_cpy (fun q => wrd zf (b0 + 4 * q)) WO 0 0 16) 48) ST (va_cpy ST WK 0 0 zk) CA ln kp rd wr ft) H → va_D (wA g 14 s.heap.size) (mW g cA N zz D R F KD KR RW OU (spr (va_cpy (fun q => wrd zf (b0 + 4 * q)) WO 0 0 16) 48) ST (va_cpy ST WK 0 0 zk) CA ln kp rd wr ft) → va_S (wA g 14 s.heap.size) s.heap H locs → lv_has ls 7 [(0, .ref (g 0)), (1, .int (nI b0)), (2, .int (nI zk))] → W p l e { frames := 2, cells := 0, slots := 0, locals := 49 } s m args below meth c H locs 0 0 Q (F0 m 178 ls []) := by
                intro n_178
                induction n_178 with
                | zero => intro zk hm_178; exact absurd hm_178 (Nat.not_lt_zero _)
                | succ n_178 ih_178 =>
                  intro zk hm_178 hk H locs ls hP hD hS hl
                  refine lv_iload_n hx hb dX3_mix_178 rfl (lv_at hl 2 rfl) ?_
                  refine lv_bipush (v := 8) hx hb dX3_mix_179 (by decide) ?_
                  refine lv_icmp_ge (tgt := 202) hx hb dX3_mix_181 (by decide) (fun c_3 => ?_) (fun c_3 => ?_)
                  · skip
                    have c_3 : 8 ≤ zk := (nI_leI (a := 8) (b := zk) (by omega) (by omega)).mp c_3
                    obtain rfl : zk = 8 := by omega
                    have hl : lv_has ls 7 [(0, .ref (g 0)), (1, .int (nI b0)), (2, .int (nI 8))] := hl
                    refine lv_iconst (v := 0) hx hb dX3_mix_202 (by decide) ?_
                    refine lv_istore_n (lv' := [(2, .int 0), (0, .ref (g 0)), (1, .int (nI b0))]) hx hb dX3_mix_203 rfl hl (by decide) rfl (fun ls hl => ?_)
                    have loop_204 : ∀ (n_204 : Nat) (zt : Nat) (WKt : Nat → Int32), (64 - zt) < n_204 → (zt ≤ 64) → (ag 8 WKt (rnds ST (spr (va_cpy (fun q => wrd zf (b0 + 4 * q)) WO 0 0 16) 48) zt)) → ∀ (H : Heap) (locs : List Loc) (ls : Array Slot), va_P G vwCl (mW g cA N zz D R F KD KR RW OU (spr (va_cpy (fun q => wrd zf (b0 + 4 * q)) WO 0 0 16) 48) ST WKt CA ln kp rd wr ft) H → va_D (wA g 14 s.heap.size) (mW g cA N zz D R F KD KR RW OU (spr (va_cpy (fun q => wrd zf (b0 + 4 * q)) WO 0 0 16) 48) ST WKt CA ln kp rd wr ft) → va_S (wA g 14 s.heap.size) s.heap H locs → lv_has ls 7 [(0, .ref (g 0)), (1, .int (nI b0)), (2, .int (nI zt))] → W p l e { frames := 2, cells := 0, slots := 0, locals := 49 } s m args below meth c H locs 0 0 Q (F0 m 204 ls []) := by
                      intro n_204
                      induction n_204 with
                      | zero => intro zt WKt hm_204; exact absurd hm_204 (Nat.not_lt_zero _)
                      | succ n_204 ih_204 =>
                        intro zt WKt hm_204 ht hwk H locs ls hP hD hS hl
                        refine lv_iload_n hx hb dX3_mix_204 rfl (lv_at hl 2 rfl) ?_
                        refine lv_bipush (v := 64) hx hb dX3_mix_205 (by decide) ?_
                        refine lv_icmp_ge (tgt := 221) hx hb dX3_mix_207 (by decide) (fun c_4 => ?_) (fun c_4 => ?_)
                        · skip
                          have c_4 : 64 ≤ zt := (nI_leI (a := 64) (b := zt) (by omega) (by omega)).mp c_4
                          obtain rfl : zt = 64 := by omega
                          have hl : lv_has ls 7 [(0, .ref (g 0)), (1, .int (nI b0)), (2, .int (nI 64))] := hl
                          refine lv_iconst (v := 0) hx hb dX3_mix_221 (by decide) ?_
                          refine lv_istore_n (lv' := [(2, .int 0), (0, .ref (g 0)), (1, .int (nI b0))]) hx hb dX3_mix_222 rfl hl (by decide) rfl (fun ls hl => ?_)
                          have loop_223 : ∀ (n_223 : Nat) (zk : Nat), (8 - zk) < n_223 → (zk ≤ 8) → ∀ (H : Heap) (locs : List Loc) (ls : Array Slot), va_P G vwCl (mW g cA N zz D R F KD KR RW OU (spr (va_cpy (fun q => wrd zf (b0 + 4 * q)) WO 0 0 16) 48) (va_cpy (fun zj => ST zj + WKt zj) ST 0 0 zk) WKt CA ln kp rd wr ft) H → va_D (wA g 14 s.heap.size) (mW g cA N zz D R F KD KR RW OU (spr (va_cpy (fun q => wrd zf (b0 + 4 * q)) WO 0 0 16) 48) (va_cpy (fun zj => ST zj + WKt zj) ST 0 0 zk) WKt CA ln kp rd wr ft) → va_S (wA g 14 s.heap.size) s.heap H locs → lv_has ls 7 [(0, .ref (g 0)), (1, .int (nI b0)), (2, .int (nI zk))] → W p l e { frames := 2, cells := 0, slots := 0, locals := 49 } s m args below meth c H locs 0 0 Q (F0 m 223 ls []) := by
                            intro n_223
                            induction n_223 with
                            | zero => intro zk hm_223; exact absurd hm_223 (Nat.not_lt_zero _)
                            | succ n_223 ih_223 =>
                              intro zk hm_223 hk H locs ls hP hD hS hl
                              refine lv_iload_n hx hb dX3_mix_223 rfl (lv_at hl 2 rfl) ?_
                              refine lv_bipush (v := 8) hx hb dX3_mix_224 (by decide) ?_
                              refine lv_icmp_ge (tgt := 250) hx hb dX3_mix_226 (by decide) (fun c_5 => ?_) (fun c_5 => ?_)
                              · skip
                                have c_5 : 8 ≤ zk := (nI_leI (a := 8) (b := zk) (by omega) (by omega)).mp c_5
                                obtain rfl : zk = 8 := by omega
                                have hl : lv_has ls 7 [(0, .ref (g 0)), (1, .int (nI b0)), (2, .int (nI 8))] := hl
                                exact hret (spr (va_cpy (fun q => wrd zf (b0 + 4 * q)) WO 0 0 16) 48, va_cpy (fun zj => ST zj + WKt zj) ST 0 0 8, WKt) _ _ _ _ dX3_mix_250 hP hD hS (mix_fin (fun zj hj => by rw [pk_cpy_in (by omega) (by omega)]; show wrd zf (b0 + 4 * (0 + (zj - 0))) = wrd zf (b0 + 4 * zj); congr 1; omega) hwk)
                              · skip
                                have c_5 : ¬ 8 ≤ zk := fun z => c_5 ((nI_leI (a := 8) (b := zk) (by omega) (by omega)).mpr z)
                                refine lv_aload_n hx hb dX3_mix_229 rfl (lv_at hl 0 rfl) ?_
                                refine va_get (D := G) (ci := 3) (v := .ref (g 11)) (C := RX3) (T := TX3) (N := 20) hx hb hts hinX3 hown hK hP 0 rfl rfl 17 (by decide) (hts (.fieldLink RX3 112 "SealedPagesModel" "state" "[I") (by decide +kernel)) (fun _ h => h) rfl dX3_mix_230 ?_
                                refine lv_iload_n hx hb dX3_mix_233 rfl (lv_at hl 2 rfl) ?_
                                refine lv_dup2_11 hx hb dX3_mix_234 rfl rfl ?_
                                refine x_ald (i := zk) hx hb hK hP 11 0 rfl rfl (by omega) (by decide) dX3_mix_235 ?_
                                refine lv_aload_n hx hb dX3_mix_236 rfl (lv_at hl 0 rfl) ?_
                                refine va_get (D := G) (ci := 3) (v := .ref (g 12)) (C := RX3) (T := TX3) (N := 20) hx hb hts hinX3 hown hK hP 0 rfl rfl 18 (by decide) (hts (.fieldLink RX3 115 "SealedPagesModel" "work" "[I") (by decide +kernel)) (fun _ h => h) rfl dX3_mix_237 ?_
                                refine lv_iload_n hx hb dX3_mix_240 rfl (lv_at hl 2 rfl) ?_
                                refine x_ald (i := zk) hx hb hK hP 12 0 rfl rfl (by omega) (by decide) dX3_mix_241 ?_
                                refine lv_iadd hx hb dX3_mix_242 ?_
                                refine x_ast (i := zk) hx hb hK hP hD hS 11 0 rfl rfl (by omega) (by decide) dX3_mix_243 (fun H locs hP hD hS => ?_)
                                have hP : va_P G vwCl (mW g cA N zz D R F KD KR RW OU (spr (va_cpy (fun q => wrd zf (b0 + 4 * q)) WO 0 0 16) 48) (upd (va_cpy (fun zj => ST zj + WKt zj) ST 0 0 zk) zk (((va_cpy (fun zj => ST zj + WKt zj) ST 0 0 zk) zk) + (WKt zk))) WKt CA ln kp rd wr ft) _ := hP
                                have hD : va_D _ (mW g cA N zz D R F KD KR RW OU (spr (va_cpy (fun q => wrd zf (b0 + 4 * q)) WO 0 0 16) 48) (upd (va_cpy (fun zj => ST zj + WKt zj) ST 0 0 zk) zk (((va_cpy (fun zj => ST zj + WKt zj) ST 0 0 zk) zk) + (WKt zk))) WKt CA ln kp rd wr ft) := hD
                                have ec_6 : upd (va_cpy (fun zj => ST zj + WKt zj) ST 0 0 zk) zk (((va_cpy (fun zj => ST zj + WKt zj) ST 0 0 zk) zk) + (WKt zk)) = va_cpy (fun zj => ST zj + WKt zj) ST 0 0 (zk + 1) := by have h := cpy_s (fun zj => ST zj + WKt zj) ST 0 0 zk; rw [Nat.zero_add] at h; rw [← h, pk_cpy_out (by omega)]
                                rw [show mW g cA N zz D R F KD KR RW OU (spr (va_cpy (fun q => wrd zf (b0 + 4 * q)) WO 0 0 16) 48) (upd (va_cpy (fun zj => ST zj + WKt zj) ST 0 0 zk) zk (((va_cpy (fun zj => ST zj + WKt zj) ST 0 0 zk) zk) + (WKt zk))) WKt CA ln kp rd wr ft = mW g cA N zz D R F KD KR RW OU (spr (va_cpy (fun q => wrd zf (b0 + 4 * q)) WO 0 0 16) 48) (va_cpy (fun zj => ST zj + WKt zj) ST 0 0 (zk + 1)) WKt CA ln kp rd wr ft from by rw [← ec_6]] at hP hD
                                refine lv_iinc (v := nI (zk + 1)) (lv' := [(2, .int (nI (zk + 1))), (0, .ref (g 0)), (1, .int (nI b0))]) hx hb dX3_mix_244 hl (k := 2) rfl (nI_1 _) (by decide) rfl (fun ls hl => ?_)
                                refine lv_goto (tgt := 223) hx hb dX3_mix_247 (by decide) ?_
                                exact ih_223 (zk + 1) (by omega) (by omega) _ _ _ hP hD hS (lv_sub hl [1, 2, 0] rfl)
                          rw [← cpy_0 (fun zj => ST zj + WKt zj) ST 0 0] at hP hD
                          exact loop_223 _ 0 (Nat.lt_succ_self _) (by omega) _ _ _ hP hD hS (lv_sub hl [1, 2, 0] rfl)
                        · skip
                          have c_4 : ¬ 64 ≤ zt := fun z => c_4 ((nI_leI (a := 64) (b := zt) (by omega) (by omega)).mpr z)
                          refine lv_aload_n hx hb dX3_mix_210 rfl (lv_at hl 0 rfl) ?_
                          refine lv_iload_n hx hb dX3_mix_211 rfl (lv_at hl 2 rfl) ?_
                          refine x_vv ⟨hx, hb, hml, hown, hts⟩ (c_X3_round l G cA tF tC g _ N hN zz D R F KD KR RW OU (spr (va_cpy (fun q => wrd zf (b0 + 4 * q)) WO 0 0 16) 48) ST WKt CA ln kp rd wr ft zt (by omega)) (cwV 1 hts gX3_mix_X3_round rfl rfl rfl (by decide +kernel) ⟨Nat.le_of_ble_eq_true rfl, Nat.le_of_ble_eq_true rfl⟩) hK hP hD hS hT rfl 0 3 rfl rfl rfl hl.1 rfl (Nat.le_of_ble_eq_true rfl) dX3_mix_212 ⟨Nat.le_refl _, Nat.le_refl _⟩ (fun u H locs hwk2 hP hD hS => ?_)
                          obtain ⟨WK2, rfl⟩ : ∃ z, z = u := ⟨_, rfl⟩
                          have hP : va_P G vwCl (mW g cA N zz D R F KD KR RW OU (spr (va_cpy (fun q => wrd zf (b0 + 4 * q)) WO 0 0 16) 48) ST WK2 CA ln kp rd wr ft) _ := hP
                          have hD : va_D _ (mW g cA N zz D R F KD KR RW OU (spr (va_cpy (fun q => wrd zf (b0 + 4 * q)) WO 0 0 16) 48) ST WK2 CA ln kp rd wr ft) := hD
                          refine lv_iinc (v := nI (zt + 1)) (lv' := [(2, .int (nI (zt + 1))), (0, .ref (g 0)), (1, .int (nI b0))]) hx hb dX3_mix_215 hl (k := 2) rfl (nI_1 _) (by decide) rfl (fun ls hl => ?_)
                          refine lv_goto (tgt := 204) hx hb dX3_mix_218 (by decide) ?_
                          exact ih_204 (zt + 1) WK2 (by omega) (by omega) (ag_tr hwk2 (rnd_ag hwk _ _)) _ _ _ hP hD hS (lv_sub hl [1, 2, 0] rfl)
                    exact loop_204 _ 0 (va_cpy ST WK 0 0 8) (Nat.lt_succ_self _) (by omega) (fun zj hj => by rw [pk_cpy_in (by omega) (by omega)]; show ST (0 + (zj - 0)) = ST zj; congr 1; omega) _ _ _ hP hD hS (lv_sub hl [1, 2, 0] rfl)
                  · skip
                    have c_3 : ¬ 8 ≤ zk := fun z => c_3 ((nI_leI (a := 8) (b := zk) (by omega) (by omega)).mpr z)
                    refine lv_aload_n hx hb dX3_mix_184 rfl (lv_at hl 0 rfl) ?_
                    refine va_get (D := G) (ci := 3) (v := .ref (g 12)) (C := RX3) (T := TX3) (N := 20) hx hb hts hinX3 hown hK hP 0 rfl rfl 18 (by decide) (hts (.fieldLink RX3 115 "SealedPagesModel" "work" "[I") (by decide +kernel)) (fun _ h => h) rfl dX3_mix_185 ?_
                    refine lv_iload_n hx hb dX3_mix_188 rfl (lv_at hl 2 rfl) ?_
                    refine lv_aload_n hx hb dX3_mix_189 rfl (lv_at hl 0 rfl) ?_
                    refine va_get (D := G) (ci := 3) (v := .ref (g 11)) (C := RX3) (T := TX3) (N := 20) hx hb hts hinX3 hown hK hP 0 rfl rfl 17 (by decide) (hts (.fieldLink RX3 112 "SealedPagesModel" "state" "[I") (by decide +kernel)) (fun _ h => h) rfl dX3_mix_190 ?_
                    refine lv_iload_n hx hb dX3_mix_193 rfl (lv_at hl 2 rfl) ?_
                    refine x_ald (i := zk) hx hb hK hP 11 0 rfl rfl (by omega) (by decide) dX3_mix_194 ?_
                    refine x_ast (i := zk) hx hb hK hP hD hS 12 0 rfl rfl (by omega) (by decide) dX3_mix_195 (fun H locs hP hD hS => ?_)
                    have hP : va_P G vwCl (mW g cA N zz D R F KD KR RW OU (spr (va_cpy (fun q => wrd zf (b0 + 4 * q)) WO 0 0 16) 48) ST (upd (va_cpy ST WK 0 0 zk) zk (ST zk)) CA ln kp rd wr ft) _ := hP
                    have hD : va_D _ (mW g cA N zz D R F KD KR RW OU (spr (va_cpy (fun q => wrd zf (b0 + 4 * q)) WO 0 0 16) 48) ST (upd (va_cpy ST WK 0 0 zk) zk (ST zk)) CA ln kp rd wr ft) := hD
                    have ec_8 : upd (va_cpy ST WK 0 0 zk) zk (ST zk) = va_cpy ST WK 0 0 (zk + 1) := by have h := cpy_s ST WK 0 0 zk; rwa [Nat.zero_add] at h
                    rw [show mW g cA N zz D R F KD KR RW OU (spr (va_cpy (fun q => wrd zf (b0 + 4 * q)) WO 0 0 16) 48) ST (upd (va_cpy ST WK 0 0 zk) zk (ST zk)) CA ln kp rd wr ft = mW g cA N zz D R F KD KR RW OU (spr (va_cpy (fun q => wrd zf (b0 + 4 * q)) WO 0 0 16) 48) ST (va_cpy ST WK 0 0 (zk + 1)) CA ln kp rd wr ft from by rw [← ec_8]] at hP hD
                    refine lv_iinc (v := nI (zk + 1)) (lv' := [(2, .int (nI (zk + 1))), (0, .ref (g 0)), (1, .int (nI b0))]) hx hb dX3_mix_196 hl (k := 2) rfl (nI_1 _) (by decide) rfl (fun ls hl => ?_)
                    refine lv_goto (tgt := 178) hx hb dX3_mix_199 (by decide) ?_
                    exact ih_178 (zk + 1) (by omega) (by omega) _ _ _ hP hD hS (lv_sub hl [1, 2, 0] rfl)
              rw [← cpy_0 ST WK 0 0] at hP hD
              exact loop_178 _ 0 (Nat.lt_succ_self _) (by omega) _ _ _ hP hD hS (lv_sub hl [1, 2, 0] rfl)
            · skip
              have c_2 : ¬ 64 ≤ (16 + zj) := fun z => c_2 ((nI_leI (a := 64) (b := (16 + zj)) (by omega) (by omega)).mpr z)
              refine lv_aload_n hx hb dX3_mix_77 rfl (lv_at hl 0 rfl) ?_
              refine va_get (D := G) (ci := 3) (v := .ref (g 10)) (C := RX3) (T := TX3) (N := 20) hx hb hts hinX3 hown hK hP 0 rfl rfl 16 (by decide) (hts (.fieldLink RX3 109 "SealedPagesModel" "words" "[I") (by decide +kernel)) (fun _ h => h) rfl dX3_mix_78 ?_
              refine lv_iload_n hx hb dX3_mix_81 rfl (lv_at hl 2 rfl) ?_
              refine lv_bipush (v := 15) hx hb dX3_mix_82 (by decide) ?_
              refine lv_isub hx hb dX3_mix_84 ?_
              refine x_eqi (y := nI ((16 + zj) - 15)) (pk_sub (a := 16 + zj) (b := 15) (by omega)) ?_
              refine x_ald (i := (16 + zj) - 15) hx hb hK hP 10 0 rfl rfl (by omega) (by decide) dX3_mix_85 ?_
              refine lv_topi (fun x3_9 ex3_9 => ?_)
              refine lv_istore_n (lv' := [(3, .int x3_9), (0, .ref (g 0)), (1, .int (nI b0)), (2, .int (nI (16 + zj)))]) hx hb dX3_mix_86 rfl hl (by decide) rfl (fun ls hl => ?_)
              refine lv_aload_n hx hb dX3_mix_87 rfl (lv_at hl 1 rfl) ?_
              refine va_get (D := G) (ci := 3) (v := .ref (g 10)) (C := RX3) (T := TX3) (N := 20) hx hb hts hinX3 hown hK hP 0 rfl rfl 16 (by decide) (hts (.fieldLink RX3 109 "SealedPagesModel" "words" "[I") (by decide +kernel)) (fun _ h => h) rfl dX3_mix_88 ?_
              refine lv_iload_n hx hb dX3_mix_91 rfl (lv_at hl 3 rfl) ?_
              refine lv_iconst (v := 2) hx hb dX3_mix_92 (by decide) ?_
              refine lv_isub hx hb dX3_mix_93 ?_
              refine x_eqi (y := nI ((16 + zj) - 2)) (pk_sub (a := 16 + zj) (b := 2) (by omega)) ?_
              refine x_ald (i := (16 + zj) - 2) hx hb hK hP 10 0 rfl rfl (by omega) (by decide) dX3_mix_94 ?_
              refine lv_topi (fun x4_10 ex4_10 => ?_)
              refine lv_istore (lv' := [(4, .int x4_10), (3, .int x3_9), (0, .ref (g 0)), (1, .int (nI b0)), (2, .int (nI (16 + zj)))]) hx hb dX3_mix_95 hl (by decide) rfl (fun ls hl => ?_)
              refine lv_iload_n hx hb dX3_mix_97 rfl (lv_at hl 1 rfl) ?_
              refine lv_bipush (v := 7) hx hb dX3_mix_98 (by decide) ?_
              refine x_si ⟨hx, hb, hml, hown, hts⟩ (c_X3_turned l G cA tF tC g _ N hN zz D R F KD KR RW OU (spr (va_cpy (fun q => wrd zf (b0 + 4 * q)) WO 0 0 16) zj) ST WK CA ln kp rd wr ft x3_9 7) (va_cwS 2 hts gX3_mix_X3_turned rfl rfl rfl (by decide +kernel) ⟨Nat.le_of_ble_eq_true rfl, Nat.le_of_ble_eq_true rfl⟩) hK hP hD hS hT rfl rfl hl.1 rfl (Nat.le_of_ble_eq_true rfl) dX3_mix_100 ⟨Nat.le_refl _, Nat.le_refl _⟩ (fun r_12 u H locs hp_11 hP hD hS => ?_)
              have hP : va_P G vwCl (mW g cA N zz D R F KD KR RW OU (spr (va_cpy (fun q => wrd zf (b0 + 4 * q)) WO 0 0 16) zj) ST WK CA ln kp rd wr ft) _ := hP
              have hD : va_D _ (mW g cA N zz D R F KD KR RW OU (spr (va_cpy (fun q => wrd zf (b0 + 4 * q)) WO 0 0 16) zj) ST WK CA ln kp rd wr ft) := hD
              have hp_11 : r_12 = rot x3_9 7 := hp_11
              subst hp_11
              refine lv_iload_n hx hb dX3_mix_103 rfl (lv_at hl 1 rfl) ?_
              refine lv_bipush (v := 18) hx hb dX3_mix_104 (by decide) ?_
              refine x_si ⟨hx, hb, hml, hown, hts⟩ (c_X3_turned l G cA tF tC g _ N hN zz D R F KD KR RW OU (spr (va_cpy (fun q => wrd zf (b0 + 4 * q)) WO 0 0 16) zj) ST WK CA ln kp rd wr ft x3_9 18) (va_cwS 2 hts gX3_mix_X3_turned rfl rfl rfl (by decide +kernel) ⟨Nat.le_of_ble_eq_true rfl, Nat.le_of_ble_eq_true rfl⟩) hK hP hD hS hT rfl rfl hl.1 rfl (Nat.le_of_ble_eq_true rfl) dX3_mix_106 ⟨Nat.le_refl _, Nat.le_refl _⟩ (fun r_14 u H locs hp_13 hP hD hS => ?_)
              have hP : va_P G vwCl (mW g cA N zz D R F KD KR RW OU (spr (va_cpy (fun q => wrd zf (b0 + 4 * q)) WO 0 0 16) zj) ST WK CA ln kp rd wr ft) _ := hP
              have hD : va_D _ (mW g cA N zz D R F KD KR RW OU (spr (va_cpy (fun q => wrd zf (b0 + 4 * q)) WO 0 0 16) zj) ST WK CA ln kp rd wr ft) := hD
              have hp_13 : r_14 = rot x3_9 18 := hp_13
              subst hp_13
              refine lv_ixor hx hb dX3_mix_109 ?_
              refine lv_iload_n hx hb dX3_mix_110 rfl (lv_at hl 1 rfl) ?_
              refine lv_iconst (v := 3) hx hb dX3_mix_111 (by decide) ?_
              refine lv_iushr (v := us x3_9 3) hx hb dX3_mix_112 rfl ?_
              refine lv_ixor hx hb dX3_mix_113 ?_
              refine lv_topi (fun x5_15 ex5_15 => ?_)
              refine lv_istore (lv' := [(5, .int x5_15), (4, .int x4_10), (3, .int x3_9), (0, .ref (g 0)), (1, .int (nI b0)), (2, .int (nI (16 + zj)))]) hx hb dX3_mix_114 hl (by decide) rfl (fun ls hl => ?_)
              refine lv_iload hx hb dX3_mix_116 (lv_at hl 1 rfl) ?_
              refine lv_bipush (v := 17) hx hb dX3_mix_118 (by decide) ?_
              refine x_si ⟨hx, hb, hml, hown, hts⟩ (c_X3_turned l G cA tF tC g _ N hN zz D R F KD KR RW OU (spr (va_cpy (fun q => wrd zf (b0 + 4 * q)) WO 0 0 16) zj) ST WK CA ln kp rd wr ft x4_10 17) (va_cwS 2 hts gX3_mix_X3_turned rfl rfl rfl (by decide +kernel) ⟨Nat.le_of_ble_eq_true rfl, Nat.le_of_ble_eq_true rfl⟩) hK hP hD hS hT rfl rfl hl.1 rfl (Nat.le_of_ble_eq_true rfl) dX3_mix_120 ⟨Nat.le_refl _, Nat.le_refl _⟩ (fun r_17 u H locs hp_16 hP hD hS => ?_)
              have hP : va_P G vwCl (mW g cA N zz D R F KD KR RW OU (spr (va_cpy (fun q => wrd zf (b0 + 4 * q)) WO 0 0 16) zj) ST WK CA ln kp rd wr ft) _ := hP
              have hD : va_D _ (mW g cA N zz D R F KD KR RW OU (spr (va_cpy (fun q => wrd zf (b0 + 4 * q)) WO 0 0 16) zj) ST WK CA ln kp rd wr ft) := hD
              have hp_16 : r_17 = rot x4_10 17 := hp_16
              subst hp_16
              refine lv_iload hx hb dX3_mix_123 (lv_at hl 1 rfl) ?_
              refine lv_bipush (v := 19) hx hb dX3_mix_125 (by decide) ?_
              refine x_si ⟨hx, hb, hml, hown, hts⟩ (c_X3_turned l G cA tF tC g _ N hN zz D R F KD KR RW OU (spr (va_cpy (fun q => wrd zf (b0 + 4 * q)) WO 0 0 16) zj) ST WK CA ln kp rd wr ft x4_10 19) (va_cwS 2 hts gX3_mix_X3_turned rfl rfl rfl (by decide +kernel) ⟨Nat.le_of_ble_eq_true rfl, Nat.le_of_ble_eq_true rfl⟩) hK hP hD hS hT rfl rfl hl.1 rfl (Nat.le_of_ble_eq_true rfl) dX3_mix_127 ⟨Nat.le_refl _, Nat.le_refl _⟩ (fun r_19 u H locs hp_18 hP hD hS => ?_)
              have hP : va_P G vwCl (mW g cA N zz D R F KD KR RW OU (spr (va_cpy (fun q => wrd zf (b0 + 4 * q)) WO 0 0 16) zj) ST WK CA ln kp rd wr ft) _ := hP
              have hD : va_D _ (mW g cA N zz D R F KD KR RW OU (spr (va_cpy (fun q => wrd zf (b0 + 4 * q)) WO 0 0 16) zj) ST WK CA ln kp rd wr ft) := hD
              have hp_18 : r_19 = rot x4_10 19 := hp_18
              subst hp_18
              refine lv_ixor hx hb dX3_mix_130 ?_
              refine lv_iload hx hb dX3_mix_131 (lv_at hl 1 rfl) ?_
              refine lv_bipush (v := 10) hx hb dX3_mix_133 (by decide) ?_
              refine lv_iushr (v := us x4_10 10) hx hb dX3_mix_135 rfl ?_
              refine lv_ixor hx hb dX3_mix_136 ?_
              refine lv_topi (fun x6_20 ex6_20 => ?_)
              refine lv_istore (lv' := [(6, .int x6_20), (5, .int x5_15), (4, .int x4_10), (3, .int x3_9), (0, .ref (g 0)), (1, .int (nI b0)), (2, .int (nI (16 + zj)))]) hx hb dX3_mix_137 hl (by decide) rfl (fun ls hl => ?_)
              refine lv_aload_n hx hb dX3_mix_139 rfl (lv_at hl 4 rfl) ?_
              refine va_get (D := G) (ci := 3) (v := .ref (g 10)) (C := RX3) (T := TX3) (N := 20) hx hb hts hinX3 hown hK hP 0 rfl rfl 16 (by decide) (hts (.fieldLink RX3 109 "SealedPagesModel" "words" "[I") (by decide +kernel)) (fun _ h => h) rfl dX3_mix_140 ?_
              refine lv_iload_n hx hb dX3_mix_143 rfl (lv_at hl 6 rfl) ?_
              refine lv_aload_n hx hb dX3_mix_144 rfl (lv_at hl 4 rfl) ?_
              refine va_get (D := G) (ci := 3) (v := .ref (g 10)) (C := RX3) (T := TX3) (N := 20) hx hb hts hinX3 hown hK hP 0 rfl rfl 16 (by decide) (hts (.fieldLink RX3 109 "SealedPagesModel" "words" "[I") (by decide +kernel)) (fun _ h => h) rfl dX3_mix_145 ?_
              refine lv_iload_n hx hb dX3_mix_148 rfl (lv_at hl 6 rfl) ?_
              refine lv_bipush (v := 16) hx hb dX3_mix_149 (by decide) ?_
              refine lv_isub hx hb dX3_mix_151 ?_
              refine x_eqi (y := nI ((16 + zj) - 16)) (pk_sub (a := 16 + zj) (b := 16) (by omega)) ?_
              refine x_ald (i := (16 + zj) - 16) hx hb hK hP 10 0 rfl rfl (by omega) (by decide) dX3_mix_152 ?_
              refine lv_iload hx hb dX3_mix_153 (lv_at hl 1 rfl) ?_
              refine lv_iadd hx hb dX3_mix_155 ?_
              refine lv_aload_n hx hb dX3_mix_156 rfl (lv_at hl 4 rfl) ?_
              refine va_get (D := G) (ci := 3) (v := .ref (g 10)) (C := RX3) (T := TX3) (N := 20) hx hb hts hinX3 hown hK hP 0 rfl rfl 16 (by decide) (hts (.fieldLink RX3 109 "SealedPagesModel" "words" "[I") (by decide +kernel)) (fun _ h => h) rfl dX3_mix_157 ?_
              refine lv_iload_n hx hb dX3_mix_160 rfl (lv_at hl 6 rfl) ?_
              refine lv_bipush (v := 7) hx hb dX3_mix_161 (by decide) ?_
              refine lv_isub hx hb dX3_mix_163 ?_
              refine x_eqi (y := nI ((16 + zj) - 7)) (pk_sub (a := 16 + zj) (b := 7) (by omega)) ?_
              refine x_ald (i := (16 + zj) - 7) hx hb hK hP 10 0 rfl rfl (by omega) (by decide) dX3_mix_164 ?_
              refine lv_iadd hx hb dX3_mix_165 ?_
              refine lv_iload hx hb dX3_mix_166 (lv_at hl 0 rfl) ?_
              refine lv_iadd hx hb dX3_mix_168 ?_
              refine x_ast (i := 16 + zj) hx hb hK hP hD hS 10 0 rfl rfl (by omega) (by decide) dX3_mix_169 (fun H locs hP hD hS => ?_)
              have hP : va_P G vwCl (mW g cA N zz D R F KD KR RW OU (upd (spr (va_cpy (fun q => wrd zf (b0 + 4 * q)) WO 0 0 16) zj) (16 + zj) (((((spr (va_cpy (fun q => wrd zf (b0 + 4 * q)) WO 0 0 16) zj) ((16 + zj) - 16)) + x5_15) + ((spr (va_cpy (fun q => wrd zf (b0 + 4 * q)) WO 0 0 16) zj) ((16 + zj) - 7))) + x6_20)) ST WK CA ln kp rd wr ft) _ := hP
              have hD : va_D _ (mW g cA N zz D R F KD KR RW OU (upd (spr (va_cpy (fun q => wrd zf (b0 + 4 * q)) WO 0 0 16) zj) (16 + zj) (((((spr (va_cpy (fun q => wrd zf (b0 + 4 * q)) WO 0 0 16) zj) ((16 + zj) - 16)) + x5_15) + ((spr (va_cpy (fun q => wrd zf (b0 + 4 * q)) WO 0 0 16) zj) ((16 + zj) - 7))) + x6_20)) ST WK CA ln kp rd wr ft) := hD
              have ec_21 : upd (spr (va_cpy (fun q => wrd zf (b0 + 4 * q)) WO 0 0 16) zj) (16 + zj) (((((spr (va_cpy (fun q => wrd zf (b0 + 4 * q)) WO 0 0 16) zj) ((16 + zj) - 16)) + x5_15) + ((spr (va_cpy (fun q => wrd zf (b0 + 4 * q)) WO 0 0 16) zj) ((16 + zj) - 7))) + x6_20) = spr (va_cpy (fun q => wrd zf (b0 + 4 * q)) WO 0 0 16) (zj + 1) := by subst_vars; rw [spr_s]; rfl
              rw [show mW g cA N zz D R F KD KR RW OU (upd (spr (va_cpy (fun q => wrd zf (b0 + 4 * q)) WO 0 0 16) zj) (16 + zj) (((((spr (va_cpy (fun q => wrd zf (b0 + 4 * q)) WO 0 0 16) zj) ((16 + zj) - 16)) + x5_15) + ((spr (va_cpy (fun q => wrd zf (b0 + 4 * q)) WO 0 0 16) zj) ((16 + zj) - 7))) + x6_20)) ST WK CA ln kp rd wr ft = mW g cA N zz D R F KD KR RW OU (spr (va_cpy (fun q => wrd zf (b0 + 4 * q)) WO 0 0 16) (zj + 1)) ST WK CA ln kp rd wr ft from by rw [← ec_21]] at hP hD
              refine lv_iinc (v := nI (16 + (zj + 1))) (lv' := [(2, .int (nI (16 + (zj + 1)))), (6, .int x6_20), (5, .int x5_15), (4, .int x4_10), (3, .int x3_9), (0, .ref (g 0)), (1, .int (nI b0))]) hx hb dX3_mix_170 hl (k := 6) rfl (nI_1 _) (by decide) rfl (fun ls hl => ?_)
              refine lv_goto (tgt := 71) hx hb dX3_mix_173 (by decide) ?_
              exact ih_71 (zj + 1) (by omega) (by omega) _ _ _ hP hD hS (lv_sub hl [5, 6, 0] rfl)
        exact loop_71 _ 0 (Nat.lt_succ_self _) (by omega) _ _ _ hP hD hS (lv_sub hl [1, 2, 0] rfl)
      · skip
        have c_1 : ¬ 16 ≤ zk := fun z => c_1 ((nI_leI (a := 16) (b := zk) (by omega) (by omega)).mpr z)
        refine lv_iload_n hx hb dX3_mix_8 rfl (lv_at hl 1 rfl) ?_
        refine lv_iconst (v := 4) hx hb dX3_mix_9 (by decide) ?_
        refine lv_iload_n hx hb dX3_mix_10 rfl (lv_at hl 2 rfl) ?_
        refine lv_imul hx hb dX3_mix_11 ?_
        refine x_eqi (y := nI (4 * zk)) (pk_mul 4 zk) ?_
        refine lv_iadd hx hb dX3_mix_12 ?_
        refine x_eqi (y := nI (b0 + (4 * zk))) (nI_add b0 (4 * zk)) ?_
        refine lv_istore_n (lv' := [(3, .int (nI (b0 + (4 * zk)))), (0, .ref (g 0)), (1, .int (nI b0)), (2, .int (nI zk))]) hx hb dX3_mix_13 rfl hl (by decide) rfl (fun ls hl => ?_)
        refine lv_aload_n hx hb dX3_mix_14 rfl (lv_at hl 1 rfl) ?_
        refine va_get (D := G) (ci := 3) (v := .ref (g 10)) (C := RX3) (T := TX3) (N := 20) hx hb hts hinX3 hown hK hP 0 rfl rfl 16 (by decide) (hts (.fieldLink RX3 109 "SealedPagesModel" "words" "[I") (by decide +kernel)) (fun _ h => h) rfl dX3_mix_15 ?_
        refine lv_iload_n hx hb dX3_mix_18 rfl (lv_at hl 3 rfl) ?_
        refine lv_aload_n hx hb dX3_mix_19 rfl (lv_at hl 1 rfl) ?_
        refine va_get (D := G) (ci := 3) (v := .ref (g 8)) (C := RX3) (T := TX3) (N := 20) hx hb hts hinX3 hown hK hP 0 rfl rfl 13 (by decide) (hts (.fieldLink RX3 103 "SealedPagesModel" "row" "[I") (by decide +kernel)) (fun _ h => h) rfl dX3_mix_20 ?_
        refine lv_iload_n hx hb dX3_mix_23 rfl (lv_at hl 0 rfl) ?_
        refine x_ald (i := b0 + (4 * zk)) hx hb hK hP 8 0 rfl rfl (by omega) (by decide) dX3_mix_24 ?_
        refine lv_bipush (v := 24) hx hb dX3_mix_25 (by decide) ?_
        refine lv_ishl hx hb dX3_mix_27 ?_
        refine x_eqi (y := sl (RW (b0 + (4 * zk))) 24) rfl ?_
        refine lv_aload_n hx hb dX3_mix_28 rfl (lv_at hl 1 rfl) ?_
        refine va_get (D := G) (ci := 3) (v := .ref (g 8)) (C := RX3) (T := TX3) (N := 20) hx hb hts hinX3 hown hK hP 0 rfl rfl 13 (by decide) (hts (.fieldLink RX3 103 "SealedPagesModel" "row" "[I") (by decide +kernel)) (fun _ h => h) rfl dX3_mix_29 ?_
        refine lv_iload_n hx hb dX3_mix_32 rfl (lv_at hl 0 rfl) ?_
        refine lv_iconst (v := 1) hx hb dX3_mix_33 (by decide) ?_
        refine lv_iadd hx hb dX3_mix_34 ?_
        refine x_eqi (y := nI ((b0 + (4 * zk)) + 1)) (nI_add (b0 + (4 * zk)) 1) ?_
        refine x_ald (i := (b0 + (4 * zk)) + 1) hx hb hK hP 8 0 rfl rfl (by omega) (by decide) dX3_mix_35 ?_
        refine lv_bipush (v := 16) hx hb dX3_mix_36 (by decide) ?_
        refine lv_ishl hx hb dX3_mix_38 ?_
        refine x_eqi (y := sl (RW ((b0 + (4 * zk)) + 1)) 16) rfl ?_
        refine lv_ior hx hb dX3_mix_39 ?_
        refine lv_aload_n hx hb dX3_mix_40 rfl (lv_at hl 1 rfl) ?_
        refine va_get (D := G) (ci := 3) (v := .ref (g 8)) (C := RX3) (T := TX3) (N := 20) hx hb hts hinX3 hown hK hP 0 rfl rfl 13 (by decide) (hts (.fieldLink RX3 103 "SealedPagesModel" "row" "[I") (by decide +kernel)) (fun _ h => h) rfl dX3_mix_41 ?_
        refine lv_iload_n hx hb dX3_mix_44 rfl (lv_at hl 0 rfl) ?_
        refine lv_iconst (v := 2) hx hb dX3_mix_45 (by decide) ?_
        refine lv_iadd hx hb dX3_mix_46 ?_
        refine x_eqi (y := nI ((b0 + (4 * zk)) + 2)) (nI_add (b0 + (4 * zk)) 2) ?_
        refine x_ald (i := (b0 + (4 * zk)) + 2) hx hb hK hP 8 0 rfl rfl (by omega) (by decide) dX3_mix_47 ?_
        refine lv_bipush (v := 8) hx hb dX3_mix_48 (by decide) ?_
        refine lv_ishl hx hb dX3_mix_50 ?_
        refine x_eqi (y := sl (RW ((b0 + (4 * zk)) + 2)) 8) rfl ?_
        refine lv_ior hx hb dX3_mix_51 ?_
        refine lv_aload_n hx hb dX3_mix_52 rfl (lv_at hl 1 rfl) ?_
        refine va_get (D := G) (ci := 3) (v := .ref (g 8)) (C := RX3) (T := TX3) (N := 20) hx hb hts hinX3 hown hK hP 0 rfl rfl 13 (by decide) (hts (.fieldLink RX3 103 "SealedPagesModel" "row" "[I") (by decide +kernel)) (fun _ h => h) rfl dX3_mix_53 ?_
        refine lv_iload_n hx hb dX3_mix_56 rfl (lv_at hl 0 rfl) ?_
        refine lv_iconst (v := 3) hx hb dX3_mix_57 (by decide) ?_
        refine lv_iadd hx hb dX3_mix_58 ?_
        refine x_eqi (y := nI ((b0 + (4 * zk)) + 3)) (nI_add (b0 + (4 * zk)) 3) ?_
        refine x_ald (i := (b0 + (4 * zk)) + 3) hx hb hK hP 8 0 rfl rfl (by omega) (by decide) dX3_mix_59 ?_
        refine lv_ior hx hb dX3_mix_60 ?_
        refine x_ast (i := zk) hx hb hK hP hD hS 10 0 rfl rfl (by omega) (by decide) dX3_mix_61 (fun H locs hP hD hS => ?_)
        have hP : va_P G vwCl (mW g cA N zz D R F KD KR RW OU (upd (va_cpy (fun q => wrd zf (b0 + 4 * q)) WO 0 0 zk) zk ((((sl (RW (b0 + (4 * zk))) 24) ||| (sl (RW ((b0 + (4 * zk)) + 1)) 16)) ||| (sl (RW ((b0 + (4 * zk)) + 2)) 8)) ||| (RW ((b0 + (4 * zk)) + 3)))) ST WK CA ln kp rd wr ft) _ := hP
        have hD : va_D _ (mW g cA N zz D R F KD KR RW OU (upd (va_cpy (fun q => wrd zf (b0 + 4 * q)) WO 0 0 zk) zk ((((sl (RW (b0 + (4 * zk))) 24) ||| (sl (RW ((b0 + (4 * zk)) + 1)) 16)) ||| (sl (RW ((b0 + (4 * zk)) + 2)) 8)) ||| (RW ((b0 + (4 * zk)) + 3)))) ST WK CA ln kp rd wr ft) := hD
        have ec_22 : upd (va_cpy (fun q => wrd zf (b0 + 4 * q)) WO 0 0 zk) zk ((((sl (RW (b0 + (4 * zk))) 24) ||| (sl (RW ((b0 + (4 * zk)) + 1)) 16)) ||| (sl (RW ((b0 + (4 * zk)) + 2)) 8)) ||| (RW ((b0 + (4 * zk)) + 3))) = va_cpy (fun q => wrd zf (b0 + 4 * q)) WO 0 0 (zk + 1) := by have h := cpy_s (fun q => wrd zf (b0 + 4 * q)) WO 0 0 zk; rw [Nat.zero_add] at h; rw [← h]; unfold wrd; rw [hRo _ (by omega) (by omega), hRo _ (by omega) (by omega), hRo _ (by omega) (by omega), hRo _ (by omega) (by omega)]
        rw [show mW g cA N zz D R F KD KR RW OU (upd (va_cpy (fun q => wrd zf (b0 + 4 * q)) WO 0 0 zk) zk ((((sl (RW (b0 + (4 * zk))) 24) ||| (sl (RW ((b0 + (4 * zk)) + 1)) 16)) ||| (sl (RW ((b0 + (4 * zk)) + 2)) 8)) ||| (RW ((b0 + (4 * zk)) + 3)))) ST WK CA ln kp rd wr ft = mW g cA N zz D R F KD KR RW OU (va_cpy (fun q => wrd zf (b0 + 4 * q)) WO 0 0 (zk + 1)) ST WK CA ln kp rd wr ft from by rw [← ec_22]] at hP hD
        refine lv_iinc (v := nI (zk + 1)) (lv' := [(2, .int (nI (zk + 1))), (3, .int (nI (b0 + (4 * zk)))), (0, .ref (g 0)), (1, .int (nI b0))]) hx hb dX3_mix_62 hl (k := 3) rfl (nI_1 _) (by decide) rfl (fun ls hl => ?_)
        refine lv_goto (tgt := 2) hx hb dX3_mix_65 (by decide) ?_
        exact ih_2 (zk + 1) (by omega) (by omega) _ _ _ hP hD hS (lv_sub hl [2, 3, 0] rfl)
  rw [← cpy_0 (fun q => wrd zf (b0 + 4 * q)) WO 0 0] at hP hD
  exact loop_2 _ 0 (Nat.lt_succ_self _) (by omega) _ _ _ hP hD hS (lv_sub hl [1, 2, 0] rfl)

set_option maxHeartbeats 4000000 in
set_option maxRecDepth 100000 in
theorem c_X3_hashRow (l : Launch) (G : va_G) (cA : ClassId) (tF tC : Nat) (g : Nat → Nat) (sz N : Nat) (hN : 1 ≤ N ∧ N ≤ 64) (zz : Int32) (D R F KD KR RW OU WO ST WK CA : Nat → Int32) (kp rd wr ft : Int32) (zL : Nat) (m0 : Nat → Int32) (hRo : Mrow (pad m0 zL) RW zL) (hL : zL < 67) : CV l yX3_hashRow wsX3_hashRow 3 75 G cA tF tC g 14 sz (mW g cA N zz D R F KD KR RW OU WO ST WK CA (nI zL) kp rd wr ft) [.ref (g 0)] (fun (u : (Nat → Int32) × (Nat → Int32) × (Nat → Int32) × (Nat → Int32) × (Nat → Int32) × Int32) => mW g cA N zz D R F KD KR u.1 u.2.1 u.2.2.1 u.2.2.2.1 u.2.2.2.2.1 CA u.2.2.2.2.2 kp rd wr ft) (fun u => ag 32 u.2.1 (sha m0 zL)) := by
  refine x_entryV (cc := cX3_hashRow) (maxL := 3) (by decide) rfl (fun _ => rfl) (Nat.le_of_ble_eq_true rfl) ?_
  intro p e s m args below meth c Q hx hb hml hown hts hK hP hD hS hT hret ls hl
  have hown : s.vm.findClass RX3 = some m.cls := hown
  have hl : lv_has ls 3 [(0, .ref (g 0))] := hl
  have hinX3 : ∀ w ∈ wsX30, w ∈ wsX3_hashRow := by decide +kernel
  have hzr := zrs_lt zL hL
  have hnb : nbk zL ≤ 2 := by unfold nbk; omega
  refine lv_bipush (v := 8) hx hb dX3_hashRow_0 (by decide) ?_
  refine lv_aload_n hx hb dX3_hashRow_2 rfl (lv_at hl 0 rfl) ?_
  refine va_get (D := G) (ci := 3) (v := .int (nI zL)) (C := RX3) (T := TX3) (N := 20) hx hb hts hinX3 hown hK hP 0 rfl rfl 14 (by decide) (hts (.fieldLink RX3 139 "SealedPagesModel" "length" "I") (by decide +kernel)) (fun _ h => h) rfl dX3_hashRow_3 ?_
  refine lv_imul hx hb dX3_hashRow_6 ?_
  refine x_eqi (y := nI (8 * zL)) (pk_mul 8 zL) ?_
  refine lv_istore_n (lv' := [(1, .int (nI (8 * zL))), (0, .ref (g 0))]) hx hb dX3_hashRow_7 rfl hl (by decide) rfl (fun ls hl => ?_)
  refine lv_aload_n hx hb dX3_hashRow_8 rfl (lv_at hl 1 rfl) ?_
  refine lv_sipush (v := 128) hx hb dX3_hashRow_9 (by decide) ?_
  refine x_vv ⟨hx, hb, hml, hown, hts⟩ (c_X3_add l G cA tF tC g _ N hN zz D R F KD KR RW OU WO ST WK CA kp rd wr ft (zL) (pad m0 zL) 128 hRo (by rw [pad_128]) (by omega)) (cwV 1 hts gX3_hashRow_X3_add rfl rfl rfl (by decide +kernel) ⟨Nat.le_of_ble_eq_true rfl, Nat.le_of_ble_eq_true rfl⟩) hK hP hD hS hT rfl 0 3 rfl rfl rfl hl.1 rfl (Nat.le_of_ble_eq_true rfl) dX3_hashRow_12 ⟨Nat.le_refl _, Nat.le_refl _⟩ (fun u H locs hro3 hP hD hS => ?_)
  obtain ⟨RW3, rfl⟩ : ∃ z, z = u := ⟨_, rfl⟩
  have hP : va_P G vwCl (mW g cA N zz D R F KD KR RW3 OU WO ST WK CA (nI (zL + 1)) kp rd wr ft) _ := hP
  have hD : va_D _ (mW g cA N zz D R F KD KR RW3 OU WO ST WK CA (nI (zL + 1)) kp rd wr ft) := hD
  have loop_15 : ∀ (n_15 : Nat) (zi : Nat) (RWi : Nat → Int32), (zrs zL - zi) < n_15 → (zi ≤ zrs zL) → (Mrow (pad m0 zL) RWi (zL + 1 + zi)) → ∀ (H : Heap) (locs : List Loc) (ls : Array Slot), va_P G vwCl (mW g cA N zz D R F KD KR RWi OU WO ST WK CA (nI (zL + 1 + zi)) kp rd wr ft) H → va_D (wA g 14 s.heap.size) (mW g cA N zz D R F KD KR RWi OU WO ST WK CA (nI (zL + 1 + zi)) kp rd wr ft) → va_S (wA g 14 s.heap.size) s.heap H locs → lv_has ls 3 [(0, .ref (g 0)), (1, .int (nI (8 * zL)))] → W p l e { frames := 3, cells := 0, slots := 0, locals := 75 } s m args below meth c H locs 0 0 Q (F0 m 15 ls []) := by
    intro n_15
    induction n_15 with
    | zero => intro zi RWi hm_15; exact absurd hm_15 (Nat.not_lt_zero _)
    | succ n_15 ih_15 =>
      intro zi RWi hm_15 hi hro H locs ls hP hD hS hl
      refine lv_aload_n hx hb dX3_hashRow_15 rfl (lv_at hl 0 rfl) ?_
      refine va_get (D := G) (ci := 3) (v := .int (nI (zL + 1 + zi))) (C := RX3) (T := TX3) (N := 20) hx hb hts hinX3 hown hK hP 0 rfl rfl 14 (by decide) (hts (.fieldLink RX3 139 "SealedPagesModel" "length" "I") (by decide +kernel)) (fun _ h => h) rfl dX3_hashRow_16 ?_
      refine lv_bipush (v := 64) hx hb dX3_hashRow_19 (by decide) ?_
      refine lv_irem hx hb dX3_hashRow_21 (by decide) ?_
      refine x_eqi (y := nI ((zL + 1 + zi) % 64)) (pk_rem (a := zL + 1 + zi) (d := 64) (by omega) (by omega) (by omega)) ?_
      refine lv_bipush (v := 56) hx hb dX3_hashRow_22 (by decide) ?_
      refine lv_icmp_eq (tgt := 35) hx hb dX3_hashRow_24 (by decide) (fun c_2 => ?_) (fun c_2 => ?_)
      · skip
        have c_2 : ((zL + 1 + zi) % 64) = 56 := (nI_eq (a := ((zL + 1 + zi) % 64)) (b := 56) (by omega) (by omega)).mp c_2
        obtain rfl : zi = zrs zL := by omega
        have hl : lv_has ls 3 [(0, .ref (g 0)), (1, .int (nI (8 * zL)))] := hl
        refine lv_iconst (v := 0) hx hb dX3_hashRow_35 (by decide) ?_
        refine lv_istore_n (lv' := [(2, .int 0), (0, .ref (g 0)), (1, .int (nI (8 * zL)))]) hx hb dX3_hashRow_36 rfl hl (by decide) rfl (fun ls hl => ?_)
        have loop_37 : ∀ (n_37 : Nat) (zk : Nat) (RWk : Nat → Int32), (8 - zk) < n_37 → (zk ≤ 8) → (Mrow (pad m0 zL) RWk (zL + 1 + zrs zL + zk)) → ∀ (H : Heap) (locs : List Loc) (ls : Array Slot), va_P G vwCl (mW g cA N zz D R F KD KR RWk OU WO ST WK CA (nI (zL + 1 + zrs zL + zk)) kp rd wr ft) H → va_D (wA g 14 s.heap.size) (mW g cA N zz D R F KD KR RWk OU WO ST WK CA (nI (zL + 1 + zrs zL + zk)) kp rd wr ft) → va_S (wA g 14 s.heap.size) s.heap H locs → lv_has ls 3 [(0, .ref (g 0)), (1, .int (nI (8 * zL))), (2, .int (nI zk))] → W p l e { frames := 3, cells := 0, slots := 0, locals := 75 } s m args below meth c H locs 0 0 Q (F0 m 37 ls []) := by
          intro n_37
          induction n_37 with
          | zero => intro zk RWk hm_37; exact absurd hm_37 (Nat.not_lt_zero _)
          | succ n_37 ih_37 =>
            intro zk RWk hm_37 hk hro H locs ls hP hD hS hl
            refine lv_iload_n hx hb dX3_hashRow_37 rfl (lv_at hl 2 rfl) ?_
            refine lv_bipush (v := 8) hx hb dX3_hashRow_38 (by decide) ?_
            refine lv_icmp_ge (tgt := 73) hx hb dX3_hashRow_40 (by decide) (fun c_3 => ?_) (fun c_3 => ?_)
            · skip
              have c_3 : 8 ≤ zk := (nI_leI (a := 8) (b := zk) (by omega) (by omega)).mp c_3
              obtain rfl : zk = 8 := by omega
              rw [hzr.2] at hro hP hD
              have hl : lv_has ls 3 [(0, .ref (g 0)), (1, .int (nI (8 * zL))), (2, .int (nI 8))] := hl
              refine lv_iconst (v := 0) hx hb dX3_hashRow_73 (by decide) ?_
              refine lv_istore_n (lv' := [(2, .int 0), (0, .ref (g 0)), (1, .int (nI (8 * zL)))]) hx hb dX3_hashRow_74 rfl hl (by decide) rfl (fun ls hl => ?_)
              have loop_75 : ∀ (n_75 : Nat) (zk : Nat), (8 - zk) < n_75 → (zk ≤ 8) → ∀ (H : Heap) (locs : List Loc) (ls : Array Slot), va_P G vwCl (mW g cA N zz D R F KD KR RWk OU WO (va_cpy hC ST 0 0 zk) WK CA (nI (64 * nbk zL)) kp rd wr ft) H → va_D (wA g 14 s.heap.size) (mW g cA N zz D R F KD KR RWk OU WO (va_cpy hC ST 0 0 zk) WK CA (nI (64 * nbk zL)) kp rd wr ft) → va_S (wA g 14 s.heap.size) s.heap H locs → lv_has ls 3 [(0, .ref (g 0)), (1, .int (nI (8 * zL))), (2, .int (nI zk))] → W p l e { frames := 3, cells := 0, slots := 0, locals := 75 } s m args below meth c H locs 0 0 Q (F0 m 75 ls []) := by
                intro n_75
                induction n_75 with
                | zero => intro zk hm_75; exact absurd hm_75 (Nat.not_lt_zero _)
                | succ n_75 ih_75 =>
                  intro zk hm_75 hk H locs ls hP hD hS hl
                  refine lv_iload_n hx hb dX3_hashRow_75 rfl (lv_at hl 2 rfl) ?_
                  refine lv_bipush (v := 8) hx hb dX3_hashRow_76 (by decide) ?_
                  refine lv_icmp_ge (tgt := 99) hx hb dX3_hashRow_78 (by decide) (fun c_4 => ?_) (fun c_4 => ?_)
                  · skip
                    have c_4 : 8 ≤ zk := (nI_leI (a := 8) (b := zk) (by omega) (by omega)).mp c_4
                    obtain rfl : zk = 8 := by omega
                    have hl : lv_has ls 3 [(0, .ref (g 0)), (1, .int (nI (8 * zL))), (2, .int (nI 8))] := hl
                    refine lv_iconst (v := 0) hx hb dX3_hashRow_99 (by decide) ?_
                    refine lv_istore_n (lv' := [(2, .int 0), (0, .ref (g 0)), (1, .int (nI (8 * zL)))]) hx hb dX3_hashRow_100 rfl hl (by decide) rfl (fun ls hl => ?_)
                    have loop_101 : ∀ (n_101 : Nat) (q : Nat) (WOq : Nat → Int32) (STq : Nat → Int32) (WKq : Nat → Int32), (nbk zL - q) < n_101 → (q ≤ nbk zL) → (ag 8 STq (blk (pad m0 zL) q)) → ∀ (H : Heap) (locs : List Loc) (ls : Array Slot), va_P G vwCl (mW g cA N zz D R F KD KR RWk OU WOq STq WKq CA (nI (64 * nbk zL)) kp rd wr ft) H → va_D (wA g 14 s.heap.size) (mW g cA N zz D R F KD KR RWk OU WOq STq WKq CA (nI (64 * nbk zL)) kp rd wr ft) → va_S (wA g 14 s.heap.size) s.heap H locs → lv_has ls 3 [(0, .ref (g 0)), (1, .int (nI (8 * zL))), (2, .int (nI (64 * q)))] → W p l e { frames := 3, cells := 0, slots := 0, locals := 75 } s m args below meth c H locs 0 0 Q (F0 m 101 ls []) := by
                      intro n_101
                      induction n_101 with
                      | zero => intro q WOq STq WKq hm_101; exact absurd hm_101 (Nat.not_lt_zero _)
                      | succ n_101 ih_101 =>
                        intro q WOq STq WKq hm_101 hq hst H locs ls hP hD hS hl
                        refine lv_iload_n hx hb dX3_hashRow_101 rfl (lv_at hl 2 rfl) ?_
                        refine lv_aload_n hx hb dX3_hashRow_102 rfl (lv_at hl 0 rfl) ?_
                        refine va_get (D := G) (ci := 3) (v := .int (nI (64 * nbk zL))) (C := RX3) (T := TX3) (N := 20) hx hb hts hinX3 hown hK hP 0 rfl rfl 14 (by decide) (hts (.fieldLink RX3 139 "SealedPagesModel" "length" "I") (by decide +kernel)) (fun _ h => h) rfl dX3_hashRow_103 ?_
                        refine lv_icmp_ge (tgt := 120) hx hb dX3_hashRow_106 (by decide) (fun c_5 => ?_) (fun c_5 => ?_)
                        · skip
                          have c_5 : (64 * nbk zL) ≤ (64 * q) := (nI_leI (a := (64 * nbk zL)) (b := (64 * q)) (by omega) (by omega)).mp c_5
                          obtain rfl : q = nbk zL := by omega
                          have hl : lv_has ls 3 [(0, .ref (g 0)), (1, .int (nI (8 * zL))), (2, .int (nI (64 * (nbk zL))))] := hl
                          refine lv_iconst (v := 0) hx hb dX3_hashRow_120 (by decide) ?_
                          refine lv_istore_n (lv' := [(2, .int 0), (0, .ref (g 0)), (1, .int (nI (8 * zL)))]) hx hb dX3_hashRow_121 rfl hl (by decide) rfl (fun ls hl => ?_)
                          have loop_122 : ∀ (n_122 : Nat) (zk : Nat), (32 - zk) < n_122 → (zk ≤ 32) → ∀ (H : Heap) (locs : List Loc) (ls : Array Slot), va_P G vwCl (mW g cA N zz D R F KD KR RWk (va_cpy (hby STq) OU 0 0 zk) WOq STq WKq CA (nI (64 * nbk zL)) kp rd wr ft) H → va_D (wA g 14 s.heap.size) (mW g cA N zz D R F KD KR RWk (va_cpy (hby STq) OU 0 0 zk) WOq STq WKq CA (nI (64 * nbk zL)) kp rd wr ft) → va_S (wA g 14 s.heap.size) s.heap H locs → lv_has ls 3 [(0, .ref (g 0)), (1, .int (nI (8 * zL))), (2, .int (nI zk))] → W p l e { frames := 3, cells := 0, slots := 0, locals := 75 } s m args below meth c H locs 0 0 Q (F0 m 122 ls []) := by
                            intro n_122
                            induction n_122 with
                            | zero => intro zk hm_122; exact absurd hm_122 (Nat.not_lt_zero _)
                            | succ n_122 ih_122 =>
                              intro zk hm_122 hk H locs ls hP hD hS hl
                              refine lv_iload_n hx hb dX3_hashRow_122 rfl (lv_at hl 2 rfl) ?_
                              refine lv_bipush (v := 32) hx hb dX3_hashRow_123 (by decide) ?_
                              refine lv_icmp_ge (tgt := 162) hx hb dX3_hashRow_125 (by decide) (fun c_6 => ?_) (fun c_6 => ?_)
                              · skip
                                have c_6 : 32 ≤ zk := (nI_leI (a := 32) (b := zk) (by omega) (by omega)).mp c_6
                                obtain rfl : zk = 32 := by omega
                                have hl : lv_has ls 3 [(0, .ref (g 0)), (1, .int (nI (8 * zL))), (2, .int (nI 32))] := hl
                                exact hret (RWk, va_cpy (hby STq) OU 0 0 32, WOq, STq, WKq, nI (64 * nbk zL)) _ _ _ _ dX3_hashRow_162 hP hD hS (fun zj hj => by show va_cpy (hby STq) OU 0 0 32 zj = _; rw [pk_cpy_in (by omega) (by omega)]; show hby STq (0 + (zj - 0)) = _; rw [show 0 + (zj - 0) = zj by omega]; exact hby_ag hst zj hj)
                              · skip
                                have c_6 : ¬ 32 ≤ zk := fun z => c_6 ((nI_leI (a := 32) (b := zk) (by omega) (by omega)).mpr z)
                                refine lv_aload_n hx hb dX3_hashRow_128 rfl (lv_at hl 0 rfl) ?_
                                refine va_get (D := G) (ci := 3) (v := .ref (g 9)) (C := RX3) (T := TX3) (N := 20) hx hb hts hinX3 hown hK hP 0 rfl rfl 15 (by decide) (hts (.fieldLink RX3 106 "SealedPagesModel" "out" "[I") (by decide +kernel)) (fun _ h => h) rfl dX3_hashRow_129 ?_
                                refine lv_iload_n hx hb dX3_hashRow_132 rfl (lv_at hl 2 rfl) ?_
                                refine lv_aload_n hx hb dX3_hashRow_133 rfl (lv_at hl 0 rfl) ?_
                                refine va_get (D := G) (ci := 3) (v := .ref (g 11)) (C := RX3) (T := TX3) (N := 20) hx hb hts hinX3 hown hK hP 0 rfl rfl 17 (by decide) (hts (.fieldLink RX3 112 "SealedPagesModel" "state" "[I") (by decide +kernel)) (fun _ h => h) rfl dX3_hashRow_134 ?_
                                refine lv_iload_n hx hb dX3_hashRow_137 rfl (lv_at hl 2 rfl) ?_
                                refine lv_iconst (v := 4) hx hb dX3_hashRow_138 (by decide) ?_
                                refine lv_idiv hx hb dX3_hashRow_139 (by decide) ?_
                                refine x_eqi (y := nI (zk / 4)) (pk_div (a := zk) (d := 4) (by omega) (by omega) (by omega)) ?_
                                refine x_ald (i := zk / 4) hx hb hK hP 11 0 rfl rfl (by omega) (by decide) dX3_hashRow_140 ?_
                                refine lv_bipush (v := 24) hx hb dX3_hashRow_141 (by decide) ?_
                                refine lv_bipush (v := 8) hx hb dX3_hashRow_143 (by decide) ?_
                                refine lv_iload_n hx hb dX3_hashRow_145 rfl (lv_at hl 2 rfl) ?_
                                refine lv_iconst (v := 4) hx hb dX3_hashRow_146 (by decide) ?_
                                refine lv_irem hx hb dX3_hashRow_147 (by decide) ?_
                                refine x_eqi (y := nI (zk % 4)) (pk_rem (a := zk) (d := 4) (by omega) (by omega) (by omega)) ?_
                                refine lv_imul hx hb dX3_hashRow_148 ?_
                                refine x_eqi (y := nI (8 * (zk % 4))) (pk_mul 8 (zk % 4)) ?_
                                refine lv_isub hx hb dX3_hashRow_149 ?_
                                refine x_eqi (y := nI (24 - (8 * (zk % 4)))) (pk_sub (a := 24) (b := 8 * (zk % 4)) (by omega)) ?_
                                refine lv_iushr (v := us (STq (zk / 4)) (nI (24 - (8 * (zk % 4))))) hx hb dX3_hashRow_150 rfl ?_
                                refine lv_sipush (v := 255) hx hb dX3_hashRow_151 (by decide) ?_
                                refine lv_iand hx hb dX3_hashRow_154 ?_
                                refine x_ast (i := zk) hx hb hK hP hD hS 9 0 rfl rfl (by omega) (by decide) dX3_hashRow_155 (fun H locs hP hD hS => ?_)
                                have hP : va_P G vwCl (mW g cA N zz D R F KD KR RWk (upd (va_cpy (hby STq) OU 0 0 zk) zk ((us (STq (zk / 4)) (nI (24 - (8 * (zk % 4))))) &&& 255)) WOq STq WKq CA (nI (64 * nbk zL)) kp rd wr ft) _ := hP
                                have hD : va_D _ (mW g cA N zz D R F KD KR RWk (upd (va_cpy (hby STq) OU 0 0 zk) zk ((us (STq (zk / 4)) (nI (24 - (8 * (zk % 4))))) &&& 255)) WOq STq WKq CA (nI (64 * nbk zL)) kp rd wr ft) := hD
                                have ec_7 : upd (va_cpy (hby STq) OU 0 0 zk) zk ((us (STq (zk / 4)) (nI (24 - (8 * (zk % 4))))) &&& 255) = va_cpy (hby STq) OU 0 0 (zk + 1) := by have h := cpy_s (hby STq) OU 0 0 zk; rw [Nat.zero_add] at h; exact h
                                rw [show mW g cA N zz D R F KD KR RWk (upd (va_cpy (hby STq) OU 0 0 zk) zk ((us (STq (zk / 4)) (nI (24 - (8 * (zk % 4))))) &&& 255)) WOq STq WKq CA (nI (64 * nbk zL)) kp rd wr ft = mW g cA N zz D R F KD KR RWk (va_cpy (hby STq) OU 0 0 (zk + 1)) WOq STq WKq CA (nI (64 * nbk zL)) kp rd wr ft from by rw [← ec_7]] at hP hD
                                refine lv_iinc (v := nI (zk + 1)) (lv' := [(2, .int (nI (zk + 1))), (0, .ref (g 0)), (1, .int (nI (8 * zL)))]) hx hb dX3_hashRow_156 hl (k := 2) rfl (nI_1 _) (by decide) rfl (fun ls hl => ?_)
                                refine lv_goto (tgt := 122) hx hb dX3_hashRow_159 (by decide) ?_
                                exact ih_122 (zk + 1) (by omega) (by omega) _ _ _ hP hD hS (lv_sub hl [1, 2, 0] rfl)
                          rw [← cpy_0 (hby STq) OU 0 0] at hP hD
                          exact loop_122 _ 0 (Nat.lt_succ_self _) (by omega) _ _ _ hP hD hS (lv_sub hl [1, 2, 0] rfl)
                        · skip
                          have c_5 : ¬ (64 * nbk zL) ≤ (64 * q) := fun z => c_5 ((nI_leI (a := (64 * nbk zL)) (b := (64 * q)) (by omega) (by omega)).mpr z)
                          refine lv_aload_n hx hb dX3_hashRow_109 rfl (lv_at hl 0 rfl) ?_
                          refine lv_iload_n hx hb dX3_hashRow_110 rfl (lv_at hl 2 rfl) ?_
                          refine x_vv ⟨hx, hb, hml, hown, hts⟩ (c_X3_mix l G cA tF tC g _ N hN zz D R F KD KR RWk OU WOq STq WKq CA (nI (64 * nbk zL)) kp rd wr ft (64 * q) (pad m0 zL) (by omega) (fun q1 h1 h2 => hro q1 (by omega))) (cwV 1 hts gX3_hashRow_X3_mix rfl rfl rfl (by decide +kernel) ⟨Nat.le_of_ble_eq_true rfl, Nat.le_of_ble_eq_true rfl⟩) hK hP hD hS hT rfl 0 3 rfl rfl rfl hl.1 rfl (Nat.le_of_ble_eq_true rfl) dX3_hashRow_111 ⟨Nat.le_refl _, Nat.le_refl _⟩ (fun u H locs hmx hP hD hS => ?_)
                          obtain ⟨WO4, ST4, WK4⟩ := u
                          have hP : va_P G vwCl (mW g cA N zz D R F KD KR RWk OU WO4 ST4 WK4 CA (nI (64 * nbk zL)) kp rd wr ft) _ := hP
                          have hD : va_D _ (mW g cA N zz D R F KD KR RWk OU WO4 ST4 WK4 CA (nI (64 * nbk zL)) kp rd wr ft) := hD
                          refine lv_iinc (v := nI (64 * (q + 1))) (lv' := [(2, .int (nI (64 * (q + 1)))), (0, .ref (g 0)), (1, .int (nI (8 * zL)))]) hx hb dX3_hashRow_114 hl (k := 2) rfl (nI_add (64 * q) 64) (by decide) rfl (fun ls hl => ?_)
                          refine lv_goto (tgt := 101) hx hb dX3_hashRow_117 (by decide) ?_
                          exact ih_101 (q + 1) WO4 ST4 WK4 (by omega) (by omega) (ag_tr hmx (cmp_ag hst ag_rf)) _ _ _ hP hD hS (lv_sub hl [1, 2, 0] rfl)
                    exact loop_101 _ 0 WO (va_cpy hC ST 0 0 8) WK (Nat.lt_succ_self _) (by omega) (cpy_hC ST) _ _ _ hP hD hS (lv_sub hl [1, 2, 0] rfl)
                  · skip
                    have c_4 : ¬ 8 ≤ zk := fun z => c_4 ((nI_leI (a := 8) (b := zk) (by omega) (by omega)).mpr z)
                    refine lv_aload_n hx hb dX3_hashRow_81 rfl (lv_at hl 0 rfl) ?_
                    refine va_get (D := G) (ci := 3) (v := .ref (g 11)) (C := RX3) (T := TX3) (N := 20) hx hb hts hinX3 hown hK hP 0 rfl rfl 17 (by decide) (hts (.fieldLink RX3 112 "SealedPagesModel" "state" "[I") (by decide +kernel)) (fun _ h => h) rfl dX3_hashRow_82 ?_
                    refine lv_iload_n hx hb dX3_hashRow_85 rfl (lv_at hl 2 rfl) ?_
                    refine lv_aload_n hx hb dX3_hashRow_86 rfl (lv_at hl 0 rfl) ?_
                    refine va_get (D := G) (ci := 3) (v := .ref (g 2)) (C := RX3) (T := TX3) (N := 20) hx hb hts hinX3 hown hK hP 0 rfl rfl 1 (by decide) (hts (.fieldLink RX3 85 "SealedPagesModel" "h0" "[I") (by decide +kernel)) (fun _ h => h) rfl dX3_hashRow_87 ?_
                    refine lv_iload_n hx hb dX3_hashRow_90 rfl (lv_at hl 2 rfl) ?_
                    refine x_ald (i := zk) hx hb hK hP 2 0 rfl rfl (by omega) (by decide) dX3_hashRow_91 ?_
                    refine x_ast (i := zk) hx hb hK hP hD hS 11 0 rfl rfl (by omega) (by decide) dX3_hashRow_92 (fun H locs hP hD hS => ?_)
                    have hP : va_P G vwCl (mW g cA N zz D R F KD KR RWk OU WO (upd (va_cpy hC ST 0 0 zk) zk (hC zk)) WK CA (nI (64 * nbk zL)) kp rd wr ft) _ := hP
                    have hD : va_D _ (mW g cA N zz D R F KD KR RWk OU WO (upd (va_cpy hC ST 0 0 zk) zk (hC zk)) WK CA (nI (64 * nbk zL)) kp rd wr ft) := hD
                    have ec_9 : upd (va_cpy hC ST 0 0 zk) zk (hC zk) = va_cpy hC ST 0 0 (zk + 1) := by have h := cpy_s hC ST 0 0 zk; rwa [Nat.zero_add] at h
                    rw [show mW g cA N zz D R F KD KR RWk OU WO (upd (va_cpy hC ST 0 0 zk) zk (hC zk)) WK CA (nI (64 * nbk zL)) kp rd wr ft = mW g cA N zz D R F KD KR RWk OU WO (va_cpy hC ST 0 0 (zk + 1)) WK CA (nI (64 * nbk zL)) kp rd wr ft from by rw [← ec_9]] at hP hD
                    refine lv_iinc (v := nI (zk + 1)) (lv' := [(2, .int (nI (zk + 1))), (0, .ref (g 0)), (1, .int (nI (8 * zL)))]) hx hb dX3_hashRow_93 hl (k := 2) rfl (nI_1 _) (by decide) rfl (fun ls hl => ?_)
                    refine lv_goto (tgt := 75) hx hb dX3_hashRow_96 (by decide) ?_
                    exact ih_75 (zk + 1) (by omega) (by omega) _ _ _ hP hD hS (lv_sub hl [1, 2, 0] rfl)
              rw [← cpy_0 hC ST 0 0] at hP hD
              exact loop_75 _ 0 (Nat.lt_succ_self _) (by omega) _ _ _ hP hD hS (lv_sub hl [1, 2, 0] rfl)
            · skip
              have c_3 : ¬ 8 ≤ zk := fun z => c_3 ((nI_leI (a := 8) (b := zk) (by omega) (by omega)).mpr z)
              refine lv_aload_n hx hb dX3_hashRow_43 rfl (lv_at hl 0 rfl) ?_
              refine lv_iload_n hx hb dX3_hashRow_44 rfl (lv_at hl 2 rfl) ?_
              refine lv_iconst (v := 4) hx hb dX3_hashRow_45 (by decide) ?_
              refine lv_icmp_ge (tgt := 53) hx hb dX3_hashRow_46 (by decide) (fun c_10 => ?_) (fun c_10 => ?_)
              · skip
                have c_10 : 4 ≤ zk := (nI_leI (a := 4) (b := zk) (by omega) (by omega)).mp c_10
                refine lv_iload_n hx hb dX3_hashRow_53 rfl (lv_at hl 1 rfl) ?_
                refine lv_bipush (v := 24) hx hb dX3_hashRow_54 (by decide) ?_
                refine lv_bipush (v := 8) hx hb dX3_hashRow_56 (by decide) ?_
                refine lv_iload_n hx hb dX3_hashRow_58 rfl (lv_at hl 2 rfl) ?_
                refine lv_iconst (v := 4) hx hb dX3_hashRow_59 (by decide) ?_
                refine lv_isub hx hb dX3_hashRow_60 ?_
                refine x_eqi (y := nI (zk - 4)) (pk_sub (a := zk) (b := 4) (by omega)) ?_
                refine lv_imul hx hb dX3_hashRow_61 ?_
                refine x_eqi (y := nI (8 * (zk - 4))) (pk_mul 8 (zk - 4)) ?_
                refine lv_isub hx hb dX3_hashRow_62 ?_
                refine x_eqi (y := nI (24 - (8 * (zk - 4)))) (pk_sub (a := 24) (b := 8 * (zk - 4)) (by omega)) ?_
                refine lv_iushr (v := us (nI (8 * zL)) (nI (24 - (8 * (zk - 4))))) hx hb dX3_hashRow_63 rfl ?_
                refine x_vv ⟨hx, hb, hml, hown, hts⟩ (c_X3_add l G cA tF tC g _ N hN zz D R F KD KR RWk OU WO ST WK CA kp rd wr ft (zL + 1 + zrs zL + zk) (pad m0 zL) (us (nI (8 * zL)) (nI (24 - (8 * (zk - 4))))) hro (by rw [pad_e m0 hL (by omega)]; exact fin_m zL hL zk (by omega) (by omega)) (by omega)) (cwV 1 hts gX3_hashRow_X3_add rfl rfl rfl (by decide +kernel) ⟨Nat.le_of_ble_eq_true rfl, Nat.le_of_ble_eq_true rfl⟩) hK hP hD hS hT rfl 0 3 rfl rfl rfl hl.1 rfl (Nat.le_of_ble_eq_true rfl) dX3_hashRow_64 ⟨Nat.le_refl _, Nat.le_refl _⟩ (fun u H locs hro3 hP hD hS => ?_)
                obtain ⟨RW3, rfl⟩ : ∃ z, z = u := ⟨_, rfl⟩
                have hP : va_P G vwCl (mW g cA N zz D R F KD KR RW3 OU WO ST WK CA (nI (zL + 1 + zrs zL + (zk + 1))) kp rd wr ft) _ := hP
                have hD : va_D _ (mW g cA N zz D R F KD KR RW3 OU WO ST WK CA (nI (zL + 1 + zrs zL + (zk + 1))) kp rd wr ft) := hD
                refine lv_iinc (v := nI (zk + 1)) (lv' := [(2, .int (nI (zk + 1))), (0, .ref (g 0)), (1, .int (nI (8 * zL)))]) hx hb dX3_hashRow_67 hl (k := 2) rfl (nI_1 _) (by decide) rfl (fun ls hl => ?_)
                refine lv_goto (tgt := 37) hx hb dX3_hashRow_70 (by decide) ?_
                exact ih_37 (zk + 1) RW3 (by omega) (by omega) hro3 _ _ _ hP hD hS (lv_sub hl [1, 2, 0] rfl)
              · skip
                have c_10 : ¬ 4 ≤ zk := fun z => c_10 ((nI_leI (a := 4) (b := zk) (by omega) (by omega)).mpr z)
                refine lv_iconst (v := 0) hx hb dX3_hashRow_49 (by decide) ?_
                refine lv_goto (tgt := 64) hx hb dX3_hashRow_50 (by decide) ?_
                refine x_vv ⟨hx, hb, hml, hown, hts⟩ (c_X3_add l G cA tF tC g _ N hN zz D R F KD KR RWk OU WO ST WK CA kp rd wr ft (zL + 1 + zrs zL + zk) (pad m0 zL) 0 hro (by rw [pad_e m0 hL (by omega)]; exact fin_0 zL hL zk (by omega)) (by omega)) (cwV 1 hts gX3_hashRow_X3_add rfl rfl rfl (by decide +kernel) ⟨Nat.le_of_ble_eq_true rfl, Nat.le_of_ble_eq_true rfl⟩) hK hP hD hS hT rfl 0 3 rfl rfl rfl hl.1 rfl (Nat.le_of_ble_eq_true rfl) dX3_hashRow_64 ⟨Nat.le_refl _, Nat.le_refl _⟩ (fun u H locs hro3 hP hD hS => ?_)
                obtain ⟨RW3, rfl⟩ : ∃ z, z = u := ⟨_, rfl⟩
                have hP : va_P G vwCl (mW g cA N zz D R F KD KR RW3 OU WO ST WK CA (nI (zL + 1 + zrs zL + (zk + 1))) kp rd wr ft) _ := hP
                have hD : va_D _ (mW g cA N zz D R F KD KR RW3 OU WO ST WK CA (nI (zL + 1 + zrs zL + (zk + 1))) kp rd wr ft) := hD
                refine lv_iinc (v := nI (zk + 1)) (lv' := [(2, .int (nI (zk + 1))), (0, .ref (g 0)), (1, .int (nI (8 * zL)))]) hx hb dX3_hashRow_67 hl (k := 2) rfl (nI_1 _) (by decide) rfl (fun ls hl => ?_)
                refine lv_goto (tgt := 37) hx hb dX3_hashRow_70 (by decide) ?_
                exact ih_37 (zk + 1) RW3 (by omega) (by omega) hro3 _ _ _ hP hD hS (lv_sub hl [1, 2, 0] rfl)
        exact loop_37 _ 0 RWi (Nat.lt_succ_self _) (by omega) hro _ _ _ hP hD hS (lv_sub hl [1, 2, 0] rfl)
      · skip
        have c_2 : ¬ ((zL + 1 + zi) % 64) = 56 := fun z => c_2 ((nI_eq (a := ((zL + 1 + zi) % 64)) (b := 56) (by omega) (by omega)).mpr z)
        have hi2 : zi < zrs zL := by omega
        refine lv_aload_n hx hb dX3_hashRow_27 rfl (lv_at hl 0 rfl) ?_
        refine lv_iconst (v := 0) hx hb dX3_hashRow_28 (by decide) ?_
        refine x_vv ⟨hx, hb, hml, hown, hts⟩ (c_X3_add l G cA tF tC g _ N hN zz D R F KD KR RWi OU WO ST WK CA kp rd wr ft (zL + 1 + zi) (pad m0 zL) 0 hro (by rw [pad_0 m0 (by omega) (by omega)]) (by omega)) (cwV 1 hts gX3_hashRow_X3_add rfl rfl rfl (by decide +kernel) ⟨Nat.le_of_ble_eq_true rfl, Nat.le_of_ble_eq_true rfl⟩) hK hP hD hS hT rfl 0 3 rfl rfl rfl hl.1 rfl (Nat.le_of_ble_eq_true rfl) dX3_hashRow_29 ⟨Nat.le_refl _, Nat.le_refl _⟩ (fun u H locs hro3 hP hD hS => ?_)
        obtain ⟨RW3, rfl⟩ : ∃ z, z = u := ⟨_, rfl⟩
        have hP : va_P G vwCl (mW g cA N zz D R F KD KR RW3 OU WO ST WK CA (nI (zL + 1 + (zi + 1))) kp rd wr ft) _ := hP
        have hD : va_D _ (mW g cA N zz D R F KD KR RW3 OU WO ST WK CA (nI (zL + 1 + (zi + 1))) kp rd wr ft) := hD
        refine lv_goto (tgt := 15) hx hb dX3_hashRow_32 (by decide) ?_
        exact ih_15 (zi + 1) RW3 (by omega) (by omega) hro3 _ _ _ hP hD hS (lv_sub hl [0, 1] rfl)
  exact loop_15 _ 0 RW3 (Nat.lt_succ_self _) (by omega) hro3 _ _ _ hP hD hS (lv_sub hl [1, 0] rfl)

set_option maxHeartbeats 4000000 in
set_option maxRecDepth 100000 in
theorem c_X3_nodesOf (l : Launch) (G : va_G) (cA : ClassId) (tF tC : Nat) (g : Nat → Nat) (sz N : Nat) (hN : 1 ≤ N ∧ N ≤ 64) (zz : Int32) (D R F KD KR RW OU WO ST WK CA : Nat → Int32) (ln kp rd wr ft : Int32) (ql : Nat) (hql : ql ≤ 7) : CI l yX3_nodesOf wsX3_nodesOf 0 0 G cA tF tC g 14 sz (mW g cA N zz D R F KD KR RW OU WO ST WK CA ln kp rd wr ft) [.ref (g 0), .int (nI ql)] (fun (u : Unit) => mW g cA N zz D R F KD KR RW OU WO ST WK CA ln kp rd wr ft) (fun r _ => r = nI (nod N ql)) := by
  refine x_entryI (cc := cX3_nodesOf) (maxL := 4) (by decide) rfl (fun _ => rfl) (Nat.le_of_ble_eq_true rfl) ?_
  intro p e s m args below meth c Q hx hb hml hown hts hK hP hD hS hT hret ls hl
  have hown : s.vm.findClass RX3 = some m.cls := hown
  have hl : lv_has ls 4 [(0, .ref (g 0)), (1, .int (nI ql))] := hl
  have hinX3 : ∀ w ∈ wsX30, w ∈ wsX3_nodesOf := by decide +kernel
  refine lv_aload_n hx hb dX3_nodesOf_0 rfl (lv_at hl 0 rfl) ?_
  refine va_get (D := G) (ci := 3) (v := .int (nI N)) (C := RX3) (T := TX3) (N := 20) hx hb hts hinX3 hown hK hP 0 rfl rfl 2 (by decide) (hts (.fieldLink RX3 121 "SealedPagesModel" "pages" "I") (by decide +kernel)) (fun _ h => h) rfl dX3_nodesOf_1 ?_
  refine lv_istore_n (lv' := [(2, .int (nI N)), (0, .ref (g 0)), (1, .int (nI ql))]) hx hb dX3_nodesOf_4 rfl hl (by decide) rfl (fun ls hl => ?_)
  refine lv_iconst (v := 0) hx hb dX3_nodesOf_5 (by decide) ?_
  refine lv_istore_n (lv' := [(3, .int 0), (2, .int (nI N)), (0, .ref (g 0)), (1, .int (nI ql))]) hx hb dX3_nodesOf_6 rfl hl (by decide) rfl (fun ls hl => ?_)
  have loop_7 : ∀ (n_7 : Nat) (zj : Nat), (ql - zj) < n_7 → (zj ≤ ql) → ∀ (H : Heap) (locs : List Loc) (ls : Array Slot), va_P G vwCl (mW g cA N zz D R F KD KR RW OU WO ST WK CA ln kp rd wr ft) H → va_D (wA g 14 s.heap.size) (mW g cA N zz D R F KD KR RW OU WO ST WK CA ln kp rd wr ft) → va_S (wA g 14 s.heap.size) s.heap H locs → lv_has ls 4 [(0, .ref (g 0)), (1, .int (nI ql)), (2, .int (nI (nod N zj))), (3, .int (nI zj))] → W p l e { frames := 0, cells := 0, slots := 0, locals := 0 } s m args below meth c H locs 0 0 Q (F0 m 7 ls []) := by
    intro n_7
    induction n_7 with
    | zero => intro zj hm_7; exact absurd hm_7 (Nat.not_lt_zero _)
    | succ n_7 ih_7 =>
      intro zj hm_7 hj H locs ls hP hD hS hl
      have hnj := nod_le N hN.1 zj
      refine lv_iload_n hx hb dX3_nodesOf_7 rfl (lv_at hl 3 rfl) ?_
      refine lv_iload_n hx hb dX3_nodesOf_8 rfl (lv_at hl 1 rfl) ?_
      refine lv_icmp_ge (tgt := 24) hx hb dX3_nodesOf_9 (by decide) (fun c_1 => ?_) (fun c_1 => ?_)
      · skip
        have c_1 : ql ≤ zj := (nI_leI (a := ql) (b := zj) (by omega) (by omega)).mp c_1
        obtain rfl : ql = zj := by omega
        have hl : lv_has ls 4 [(0, .ref (g 0)), (1, .int (nI ql)), (2, .int (nI (nod N ql))), (3, .int (nI ql))] := hl
        refine lv_iload_n hx hb dX3_nodesOf_24 rfl (lv_at hl 2 rfl) ?_
        exact hret _ () _ _ _ _ dX3_nodesOf_25 hP hD hS rfl
      · skip
        have c_1 : ¬ ql ≤ zj := fun z => c_1 ((nI_leI (a := ql) (b := zj) (by omega) (by omega)).mpr z)
        refine lv_iload_n hx hb dX3_nodesOf_12 rfl (lv_at hl 2 rfl) ?_
        refine lv_iconst (v := 1) hx hb dX3_nodesOf_13 (by decide) ?_
        refine lv_iadd hx hb dX3_nodesOf_14 ?_
        refine x_eqi (y := nI ((nod N zj) + 1)) (nI_add (nod N zj) 1) ?_
        refine lv_iconst (v := 2) hx hb dX3_nodesOf_15 (by decide) ?_
        refine lv_idiv hx hb dX3_nodesOf_16 (by decide) ?_
        refine x_eqi (y := nI (((nod N zj) + 1) / 2)) (pk_div (a := (nod N zj) + 1) (d := 2) (by omega) (by omega) (by omega)) ?_
        refine lv_istore_n (lv' := [(2, .int (nI (((nod N zj) + 1) / 2))), (0, .ref (g 0)), (1, .int (nI ql)), (3, .int (nI zj))]) hx hb dX3_nodesOf_17 rfl hl (by decide) rfl (fun ls hl => ?_)
        refine lv_iinc (v := nI (zj + 1)) (lv' := [(3, .int (nI (zj + 1))), (2, .int (nI (((nod N zj) + 1) / 2))), (0, .ref (g 0)), (1, .int (nI ql))]) hx hb dX3_nodesOf_18 hl (k := 3) rfl (nI_1 _) (by decide) rfl (fun ls hl => ?_)
        refine lv_goto (tgt := 7) hx hb dX3_nodesOf_21 (by decide) ?_
        exact ih_7 (zj + 1) (by omega) (by omega) _ _ _ hP hD hS (lv_sub hl [2, 3, 1, 0] rfl)
  exact loop_7 _ 0 (Nat.lt_succ_self _) (by omega) _ _ _ hP hD hS (lv_sub hl [2, 3, 1, 0] rfl)

set_option maxHeartbeats 4000000 in
set_option maxRecDepth 100000 in
theorem c_X3_levelsOf (l : Launch) (G : va_G) (cA : ClassId) (tF tC : Nat) (g : Nat → Nat) (sz N : Nat) (hN : 1 ≤ N ∧ N ≤ 64) (zz : Int32) (D R F KD KR RW OU WO ST WK CA : Nat → Int32) (ln kp rd wr ft : Int32)  : CI l yX3_levelsOf wsX3_levelsOf 1 23 G cA tF tC g 14 sz (mW g cA N zz D R F KD KR RW OU WO ST WK CA ln kp rd wr ft) [.ref (g 0)] (fun (u : Unit) => mW g cA N zz D R F KD KR RW OU WO ST WK CA ln kp rd wr ft) (fun r _ => r = nI (lvs N)) := by
  refine x_entryI (cc := cX3_levelsOf) (maxL := 2) (by decide) rfl (fun _ => rfl) (Nat.le_of_ble_eq_true rfl) ?_
  intro p e s m args below meth c Q hx hb hml hown hts hK hP hD hS hT hret ls hl
  have hown : s.vm.findClass RX3 = some m.cls := hown
  have hl : lv_has ls 2 [(0, .ref (g 0))] := hl
  have hz := siz_le hN
  have hse := siz_eq N
  have hnd := nds_le hN
  have hlv := lvs_in hN
  refine lv_iconst (v := 0) hx hb dX3_levelsOf_0 (by decide) ?_
  refine lv_istore_n (lv' := [(1, .int 0), (0, .ref (g 0))]) hx hb dX3_levelsOf_1 rfl hl (by decide) rfl (fun ls hl => ?_)
  have loop_2 : ∀ (n_2 : Nat) (zj : Nat), (lvs N - zj) < n_2 → (zj + 1 ≤ lvs N) → ∀ (H : Heap) (locs : List Loc) (ls : Array Slot), va_P G vwCl (mW g cA N zz D R F KD KR RW OU WO ST WK CA ln kp rd wr ft) H → va_D (wA g 14 s.heap.size) (mW g cA N zz D R F KD KR RW OU WO ST WK CA ln kp rd wr ft) → va_S (wA g 14 s.heap.size) s.heap H locs → lv_has ls 2 [(0, .ref (g 0)), (1, .int (nI zj))] → W p l e { frames := 1, cells := 0, slots := 0, locals := 23 } s m args below meth c H locs 0 0 Q (F0 m 2 ls []) := by
    intro n_2
    induction n_2 with
    | zero => intro zj hm_2; exact absurd hm_2 (Nat.not_lt_zero _)
    | succ n_2 ih_2 =>
      intro zj hm_2 hj H locs ls hP hD hS hl
      have hnj := nod_le N hN.1 zj
      refine lv_aload_n hx hb dX3_levelsOf_2 rfl (lv_at hl 0 rfl) ?_
      refine lv_iload_n hx hb dX3_levelsOf_3 rfl (lv_at hl 1 rfl) ?_
      refine x_vi ⟨hx, hb, hml, hown, hts⟩ (c_X3_nodesOf l G cA tF tC g _ N hN zz D R F KD KR RW OU WO ST WK CA ln kp rd wr ft (zj) (by omega)) (cwV 1 hts gX3_levelsOf_X3_nodesOf rfl rfl rfl (by decide +kernel) ⟨Nat.le_of_ble_eq_true rfl, Nat.le_of_ble_eq_true rfl⟩) hK hP hD hS hT rfl 0 3 rfl rfl rfl hl.1 rfl (Nat.le_of_ble_eq_true rfl) dX3_levelsOf_4 ⟨Nat.le_refl _, Nat.le_refl _⟩ (fun r_2 u H locs hp_1 hP hD hS => ?_)
      have hP : va_P G vwCl (mW g cA N zz D R F KD KR RW OU WO ST WK CA ln kp rd wr ft) _ := hP
      have hD : va_D _ (mW g cA N zz D R F KD KR RW OU WO ST WK CA ln kp rd wr ft) := hD
      have hp_1 : r_2 = nI (nod N zj) := hp_1
      subst hp_1
      refine lv_iconst (v := 1) hx hb dX3_levelsOf_7 (by decide) ?_
      refine lv_icmp_le (tgt := 17) hx hb dX3_levelsOf_8 (by decide) (fun c_3 => ?_) (fun c_3 => ?_)
      · skip
        have c_3 : (nod N zj) ≤ 1 := (nI_leI (a := (nod N zj)) (b := 1) (by omega) (by omega)).mp c_3
        have hj2 : zj + 1 = lvs N := lvs_is hN hj c_3
        refine lv_iload_n hx hb dX3_levelsOf_17 rfl (lv_at hl 1 rfl) ?_
        refine lv_iconst (v := 1) hx hb dX3_levelsOf_18 (by decide) ?_
        refine lv_iadd hx hb dX3_levelsOf_19 ?_
        refine x_eqi (y := nI (zj + 1)) (nI_add zj 1) ?_
        exact hret _ () _ _ _ _ dX3_levelsOf_20 hP hD hS (by rw [hj2])
      · skip
        have c_3 : ¬ (nod N zj) ≤ 1 := fun z => c_3 ((nI_leI (a := (nod N zj)) (b := 1) (by omega) (by omega)).mpr z)
        have hj2 : zj + 1 + 1 ≤ lvs N := lvs_no hN hj c_3
        refine lv_iinc (v := nI (zj + 1)) (lv' := [(1, .int (nI (zj + 1))), (0, .ref (g 0))]) hx hb dX3_levelsOf_11 hl (k := 1) rfl (nI_1 _) (by decide) rfl (fun ls hl => ?_)
        refine lv_goto (tgt := 2) hx hb dX3_levelsOf_14 (by decide) ?_
        exact ih_2 (zj + 1) (by omega) hj2 _ _ _ hP hD hS (lv_sub hl [1, 0] rfl)
  exact loop_2 _ 0 (Nat.lt_succ_self _) (by omega) _ _ _ hP hD hS (lv_sub hl [1, 0] rfl)

set_option maxHeartbeats 4000000 in
set_option maxRecDepth 100000 in
theorem c_X3_placeOf (l : Launch) (G : va_G) (cA : ClassId) (tF tC : Nat) (g : Nat → Nat) (sz N : Nat) (hN : 1 ≤ N ∧ N ≤ 64) (zz : Int32) (D R F KD KR RW OU WO ST WK CA : Nat → Int32) (ln kp rd wr ft : Int32) (ql qk : Nat) (hql : ql ≤ lvs N) : CI l yX3_placeOf wsX3_placeOf 1 23 G cA tF tC g 14 sz (mW g cA N zz D R F KD KR RW OU WO ST WK CA ln kp rd wr ft) [.ref (g 0), .int (nI ql), .int (nI qk)] (fun (u : Unit) => mW g cA N zz D R F KD KR RW OU WO ST WK CA ln kp rd wr ft) (fun r _ => r = nI (plc N ql qk)) := by
  refine x_entryI (cc := cX3_placeOf) (maxL := 5) (by decide) rfl (fun _ => rfl) (Nat.le_of_ble_eq_true rfl) ?_
  intro p e s m args below meth c Q hx hb hml hown hts hK hP hD hS hT hret ls hl
  have hown : s.vm.findClass RX3 = some m.cls := hown
  have hl : lv_has ls 5 [(0, .ref (g 0)), (1, .int (nI ql)), (2, .int (nI qk))] := hl
  have hinX3 : ∀ w ∈ wsX30, w ∈ wsX3_placeOf := by decide +kernel
  have hz := siz_le hN
  have hse := siz_eq N
  have hnd := nds_le hN
  have hlv := lvs_in hN
  refine lv_bipush (v := 8) hx hb dX3_placeOf_0 (by decide) ?_
  refine lv_bipush (v := 64) hx hb dX3_placeOf_2 (by decide) ?_
  refine lv_aload_n hx hb dX3_placeOf_4 rfl (lv_at hl 0 rfl) ?_
  refine va_get (D := G) (ci := 3) (v := .int (nI N)) (C := RX3) (T := TX3) (N := 20) hx hb hts hinX3 hown hK hP 0 rfl rfl 2 (by decide) (hts (.fieldLink RX3 121 "SealedPagesModel" "pages" "I") (by decide +kernel)) (fun _ h => h) rfl dX3_placeOf_5 ?_
  refine lv_imul hx hb dX3_placeOf_8 ?_
  refine x_eqi (y := nI (64 * N)) (pk_mul 64 N) ?_
  refine lv_iadd hx hb dX3_placeOf_9 ?_
  refine x_eqi (y := nI (8 + (64 * N))) (nI_add 8 (64 * N)) ?_
  refine lv_istore_n (lv' := [(3, .int (nI (8 + (64 * N)))), (0, .ref (g 0)), (1, .int (nI ql)), (2, .int (nI qk))]) hx hb dX3_placeOf_10 rfl hl (by decide) rfl (fun ls hl => ?_)
  refine lv_iconst (v := 0) hx hb dX3_placeOf_11 (by decide) ?_
  refine lv_istore (lv' := [(4, .int 0), (3, .int (nI (8 + (64 * N)))), (0, .ref (g 0)), (1, .int (nI ql)), (2, .int (nI qk))]) hx hb dX3_placeOf_12 hl (by decide) rfl (fun ls hl => ?_)
  have loop_14 : ∀ (n_14 : Nat) (zj : Nat), (ql - zj) < n_14 → (zj ≤ ql) → ∀ (H : Heap) (locs : List Loc) (ls : Array Slot), va_P G vwCl (mW g cA N zz D R F KD KR RW OU WO ST WK CA ln kp rd wr ft) H → va_D (wA g 14 s.heap.size) (mW g cA N zz D R F KD KR RW OU WO ST WK CA ln kp rd wr ft) → va_S (wA g 14 s.heap.size) s.heap H locs → lv_has ls 5 [(0, .ref (g 0)), (1, .int (nI ql)), (2, .int (nI qk)), (3, .int (nI (8 + 64 * N + 32 * ahd N zj))), (4, .int (nI zj))] → W p l e { frames := 1, cells := 0, slots := 0, locals := 23 } s m args below meth c H locs 0 0 Q (F0 m 14 ls []) := by
    intro n_14
    induction n_14 with
    | zero => intro zj hm_14; exact absurd hm_14 (Nat.not_lt_zero _)
    | succ n_14 ih_14 =>
      intro zj hm_14 hj H locs ls hP hD hS hl
      refine lv_iload hx hb dX3_placeOf_14 (lv_at hl 4 rfl) ?_
      refine lv_iload_n hx hb dX3_placeOf_16 rfl (lv_at hl 1 rfl) ?_
      refine lv_icmp_ge (tgt := 38) hx hb dX3_placeOf_17 (by decide) (fun c_1 => ?_) (fun c_1 => ?_)
      · skip
        have c_1 : ql ≤ zj := (nI_leI (a := ql) (b := zj) (by omega) (by omega)).mp c_1
        obtain rfl : ql = zj := by omega
        have hl : lv_has ls 5 [(0, .ref (g 0)), (1, .int (nI ql)), (2, .int (nI qk)), (3, .int (nI (8 + 64 * N + 32 * ahd N ql))), (4, .int (nI ql))] := hl
        refine lv_iload_n hx hb dX3_placeOf_38 rfl (lv_at hl 3 rfl) ?_
        refine lv_bipush (v := 32) hx hb dX3_placeOf_39 (by decide) ?_
        refine lv_iload_n hx hb dX3_placeOf_41 rfl (lv_at hl 2 rfl) ?_
        refine lv_imul hx hb dX3_placeOf_42 ?_
        refine x_eqi (y := nI (32 * qk)) (pk_mul 32 qk) ?_
        refine lv_iadd hx hb dX3_placeOf_43 ?_
        refine x_eqi (y := nI ((8 + 64 * N + 32 * ahd N ql) + (32 * qk))) (nI_add (8 + 64 * N + 32 * ahd N ql) (32 * qk)) ?_
        refine x_eqi (y := nI (plc N ql qk)) (by congr 1; unfold plc; omega) ?_
        exact hret _ () _ _ _ _ dX3_placeOf_44 hP hD hS rfl
      · skip
        have c_1 : ¬ ql ≤ zj := fun z => c_1 ((nI_leI (a := ql) (b := zj) (by omega) (by omega)).mpr z)
        refine lv_iload_n hx hb dX3_placeOf_20 rfl (lv_at hl 3 rfl) ?_
        refine lv_bipush (v := 32) hx hb dX3_placeOf_21 (by decide) ?_
        refine lv_aload_n hx hb dX3_placeOf_23 rfl (lv_at hl 0 rfl) ?_
        refine lv_iload hx hb dX3_placeOf_24 (lv_at hl 4 rfl) ?_
        refine x_vi ⟨hx, hb, hml, hown, hts⟩ (c_X3_nodesOf l G cA tF tC g _ N hN zz D R F KD KR RW OU WO ST WK CA ln kp rd wr ft (zj) (by omega)) (cwV 1 hts gX3_placeOf_X3_nodesOf rfl rfl rfl (by decide +kernel) ⟨Nat.le_of_ble_eq_true rfl, Nat.le_of_ble_eq_true rfl⟩) hK hP hD hS hT rfl 0 3 rfl rfl rfl hl.1 rfl (Nat.le_of_ble_eq_true rfl) dX3_placeOf_26 ⟨Nat.le_refl _, Nat.le_refl _⟩ (fun r_3 u H locs hp_2 hP hD hS => ?_)
        have hP : va_P G vwCl (mW g cA N zz D R F KD KR RW OU WO ST WK CA ln kp rd wr ft) _ := hP
        have hD : va_D _ (mW g cA N zz D R F KD KR RW OU WO ST WK CA ln kp rd wr ft) := hD
        have hp_2 : r_3 = nI (nod N zj) := hp_2
        subst hp_2
        refine lv_imul hx hb dX3_placeOf_29 ?_
        refine x_eqi (y := nI (32 * (nod N zj))) (pk_mul 32 (nod N zj)) ?_
        refine lv_iadd hx hb dX3_placeOf_30 ?_
        refine x_eqi (y := nI ((8 + 64 * N + 32 * ahd N zj) + (32 * (nod N zj)))) (nI_add (8 + 64 * N + 32 * ahd N zj) (32 * (nod N zj))) ?_
        refine x_eqi (y := nI (8 + 64 * N + 32 * ahd N (zj + 1))) (by congr 1; rw [ahd_s]; omega) ?_
        refine lv_istore_n (lv' := [(3, .int (nI (8 + 64 * N + 32 * ahd N (zj + 1)))), (0, .ref (g 0)), (1, .int (nI ql)), (2, .int (nI qk)), (4, .int (nI zj))]) hx hb dX3_placeOf_31 rfl hl (by decide) rfl (fun ls hl => ?_)
        refine lv_iinc (v := nI (zj + 1)) (lv' := [(4, .int (nI (zj + 1))), (3, .int (nI (8 + 64 * N + 32 * ahd N (zj + 1)))), (0, .ref (g 0)), (1, .int (nI ql)), (2, .int (nI qk))]) hx hb dX3_placeOf_32 hl (k := 4) rfl (nI_1 _) (by decide) rfl (fun ls hl => ?_)
        refine lv_goto (tgt := 14) hx hb dX3_placeOf_35 (by decide) ?_
        exact ih_14 (zj + 1) (by omega) (by omega) _ _ _ hP hD hS (lv_sub hl [2, 3, 4, 1, 0] rfl)
  exact loop_14 _ 0 (Nat.lt_succ_self _) (by omega) _ _ _ hP hD hS (lv_sub hl [2, 3, 4, 1, 0] rfl)

set_option maxHeartbeats 4000000 in
set_option maxRecDepth 100000 in
theorem c_X3_isPage (l : Launch) (G : va_G) (cA : ClassId) (tF tC : Nat) (g : Nat → Nat) (sz N : Nat) (hN : 1 ≤ N ∧ N ≤ 64) (zz : Int32) (D R F KD KR RW OU WO ST WK CA : Nat → Int32) (ln kp rd wr ft : Int32) (x : Int32) : CI l yX3_isPage wsX3_isPage 0 0 G cA tF tC g 14 sz (mW g cA N zz D R F KD KR RW OU WO ST WK CA ln kp rd wr ft) [.ref (g 0), .int x] (fun (u : Unit) => mW g cA N zz D R F KD KR RW OU WO ST WK CA ln kp rd wr ft) (fun r _ => r = inB x N) := by
  refine x_entryZ (cc := cX3_isPage) (maxL := 2) (by decide) rfl (fun _ => rfl) (Nat.le_of_ble_eq_true rfl) ?_
  intro p e s m args below meth c Q hx hb hml hown hts hK hP hD hS hT hret ls hl
  have hown : s.vm.findClass RX3 = some m.cls := hown
  have hl : lv_has ls 2 [(0, .ref (g 0)), (1, .int x)] := hl
  have hinX3 : ∀ w ∈ wsX30, w ∈ wsX3_isPage := by decide +kernel
  refine lv_iload_n hx hb dX3_isPage_0 rfl (lv_at hl 1 rfl) ?_
  refine lv_if_lt (tgt := 16) hx hb dX3_isPage_1 (by decide) (fun c_1 => ?_) (fun c_1 => ?_)
  · skip
    have hc := (inB_f1 (n := N) c_1).symm
    refine lv_iconst (v := 0) hx hb dX3_isPage_16 (by decide) ?_
    exact hret _ () _ _ _ _ dX3_isPage_17 hP hD hS rfl hc
  · skip
    have hc1 := c_1
    refine lv_iload_n hx hb dX3_isPage_4 rfl (lv_at hl 1 rfl) ?_
    refine lv_aload_n hx hb dX3_isPage_5 rfl (lv_at hl 0 rfl) ?_
    refine va_get (D := G) (ci := 3) (v := .int (nI N)) (C := RX3) (T := TX3) (N := 20) hx hb hts hinX3 hown hK hP 0 rfl rfl 2 (by decide) (hts (.fieldLink RX3 121 "SealedPagesModel" "pages" "I") (by decide +kernel)) (fun _ h => h) rfl dX3_isPage_6 ?_
    refine lv_icmp_ge (tgt := 16) hx hb dX3_isPage_9 (by decide) (fun c_2 => ?_) (fun c_2 => ?_)
    · skip
      have hc := (inB_f2 (by omega) c_2).symm
      refine lv_iconst (v := 0) hx hb dX3_isPage_16 (by decide) ?_
      exact hret _ () _ _ _ _ dX3_isPage_17 hP hD hS rfl hc
    · skip
      have hc := (inB_t (by omega) hc1 c_2).symm
      refine lv_iconst (v := 1) hx hb dX3_isPage_12 (by decide) ?_
      refine lv_goto (tgt := 17) hx hb dX3_isPage_13 (by decide) ?_
      exact hret _ () _ _ _ _ dX3_isPage_17 hP hD hS rfl hc

set_option maxHeartbeats 4000000 in
set_option maxRecDepth 100000 in
theorem c_X3_isByte (l : Launch) (G : va_G) (cA : ClassId) (tF tC : Nat) (g : Nat → Nat) (sz N : Nat) (hN : 1 ≤ N ∧ N ≤ 64) (D R F KD KR RW OU WO ST WK CA : Nat → Int32) (ln kp rd wr ft : Int32) (x : Int32) : CI l yX3_isByte wsX3_isByte 0 0 G cA tF tC g 14 sz (mW g cA N (nI (siz N)) D R F KD KR RW OU WO ST WK CA ln kp rd wr ft) [.ref (g 0), .int x] (fun (u : Unit) => mW g cA N (nI (siz N)) D R F KD KR RW OU WO ST WK CA ln kp rd wr ft) (fun r _ => r = inB x (siz N)) := by
  refine x_entryZ (cc := cX3_isByte) (maxL := 2) (by decide) rfl (fun _ => rfl) (Nat.le_of_ble_eq_true rfl) ?_
  intro p e s m args below meth c Q hx hb hml hown hts hK hP hD hS hT hret ls hl
  have hown : s.vm.findClass RX3 = some m.cls := hown
  have hl : lv_has ls 2 [(0, .ref (g 0)), (1, .int x)] := hl
  have hinX3 : ∀ w ∈ wsX30, w ∈ wsX3_isByte := by decide +kernel
  have hz := siz_le hN
  have hse := siz_eq N
  have hnd := nds_le hN
  have hlv := lvs_in hN
  refine lv_iload_n hx hb dX3_isByte_0 rfl (lv_at hl 1 rfl) ?_
  refine lv_if_lt (tgt := 16) hx hb dX3_isByte_1 (by decide) (fun c_1 => ?_) (fun c_1 => ?_)
  · skip
    have hc := (inB_f1 (n := siz N) c_1).symm
    refine lv_iconst (v := 0) hx hb dX3_isByte_16 (by decide) ?_
    exact hret _ () _ _ _ _ dX3_isByte_17 hP hD hS rfl hc
  · skip
    have hc1 := c_1
    refine lv_iload_n hx hb dX3_isByte_4 rfl (lv_at hl 1 rfl) ?_
    refine lv_aload_n hx hb dX3_isByte_5 rfl (lv_at hl 0 rfl) ?_
    refine va_get (D := G) (ci := 3) (v := .int (nI (siz N))) (C := RX3) (T := TX3) (N := 20) hx hb hts hinX3 hown hK hP 0 rfl rfl 3 (by decide) (hts (.fieldLink RX3 133 "SealedPagesModel" "size" "I") (by decide +kernel)) (fun _ h => h) rfl dX3_isByte_6 ?_
    refine lv_icmp_ge (tgt := 16) hx hb dX3_isByte_9 (by decide) (fun c_2 => ?_) (fun c_2 => ?_)
    · skip
      have hc := (inB_f2 (by omega) c_2).symm
      refine lv_iconst (v := 0) hx hb dX3_isByte_16 (by decide) ?_
      exact hret _ () _ _ _ _ dX3_isByte_17 hP hD hS rfl hc
    · skip
      have hc := (inB_t (by omega) hc1 c_2).symm
      refine lv_iconst (v := 1) hx hb dX3_isByte_12 (by decide) ?_
      refine lv_goto (tgt := 17) hx hb dX3_isByte_13 (by decide) ?_
      exact hret _ () _ _ _ _ dX3_isByte_17 hP hD hS rfl hc

set_option maxHeartbeats 4000000 in
set_option maxRecDepth 100000 in
theorem c_X3_headOf (l : Launch) (G : va_G) (cA : ClassId) (tF tC : Nat) (g : Nat → Nat) (sz N : Nat) (hN : 1 ≤ N ∧ N ≤ 64) (zz : Int32) (D R F KD KR RW OU WO ST WK CA : Nat → Int32) (ln kp rd wr ft : Int32) (zi : Nat) (hi : zi < 8) : CI l yX3_headOf wsX3_headOf 0 0 G cA tF tC g 14 sz (mW g cA N zz D R F KD KR RW OU WO ST WK CA ln kp rd wr ft) [.ref (g 0), .int (nI zi)] (fun (u : Unit) => mW g cA N zz D R F KD KR RW OU WO ST WK CA ln kp rd wr ft) (fun r _ => r = hed N zi) := by
  refine x_entryI (cc := cX3_headOf) (maxL := 2) (by decide) rfl (fun _ => rfl) (Nat.le_of_ble_eq_true rfl) ?_
  intro p e s m args below meth c Q hx hb hml hown hts hK hP hD hS hT hret ls hl
  have hown : s.vm.findClass RX3 = some m.cls := hown
  have hl : lv_has ls 2 [(0, .ref (g 0)), (1, .int (nI zi))] := hl
  have hinX3 : ∀ w ∈ wsX30, w ∈ wsX3_headOf := by decide +kernel
  refine lv_iload_n hx hb dX3_headOf_0 rfl (lv_at hl 1 rfl) ?_
  refine lv_if_ne (tgt := 9) hx hb dX3_headOf_1 (by decide) (fun c_1 => ?_) (fun c_1 => ?_)
  · skip
    have c_1 : ¬ zi = 0 := fun z => c_1 ((nI_eq (a := zi) (b := 0) (by omega) (by omega)).mpr z)
    have h0 := c_1
    refine lv_iload_n hx hb dX3_headOf_9 rfl (lv_at hl 1 rfl) ?_
    refine lv_iconst (v := 1) hx hb dX3_headOf_10 (by decide) ?_
    refine lv_icmp_ne (tgt := 19) hx hb dX3_headOf_11 (by decide) (fun c_2 => ?_) (fun c_2 => ?_)
    · skip
      have c_2 : ¬ zi = 1 := fun z => c_2 ((nI_eq (a := zi) (b := 1) (by omega) (by omega)).mpr z)
      have h1 := c_2
      refine lv_iload_n hx hb dX3_headOf_19 rfl (lv_at hl 1 rfl) ?_
      refine lv_iconst (v := 2) hx hb dX3_headOf_20 (by decide) ?_
      refine lv_icmp_ne (tgt := 31) hx hb dX3_headOf_21 (by decide) (fun c_3 => ?_) (fun c_3 => ?_)
      · skip
        have c_3 : ¬ zi = 2 := fun z => c_3 ((nI_eq (a := zi) (b := 2) (by omega) (by omega)).mpr z)
        have h2 := c_3
        refine lv_iload_n hx hb dX3_headOf_31 rfl (lv_at hl 1 rfl) ?_
        refine lv_iconst (v := 3) hx hb dX3_headOf_32 (by decide) ?_
        refine lv_icmp_ne (tgt := 41) hx hb dX3_headOf_33 (by decide) (fun c_4 => ?_) (fun c_4 => ?_)
        · skip
          have c_4 : ¬ zi = 3 := fun z => c_4 ((nI_eq (a := zi) (b := 3) (by omega) (by omega)).mpr z)
          have hc : 0 = hed N zi := by unfold hed; rw [if_neg h0, if_neg h1, if_neg h2, if_neg c_4]
          refine lv_iconst (v := 0) hx hb dX3_headOf_41 (by decide) ?_
          exact hret _ () _ _ _ _ dX3_headOf_42 hP hD hS hc
        · skip
          have c_4 : zi = 3 := (nI_eq (a := zi) (b := 3) (by omega) (by omega)).mp c_4
          have hc : 64 = hed N zi := by rw [c_4]; rfl
          refine lv_bipush (v := 64) hx hb dX3_headOf_36 (by decide) ?_
          refine lv_goto (tgt := 42) hx hb dX3_headOf_38 (by decide) ?_
          exact hret _ () _ _ _ _ dX3_headOf_42 hP hD hS hc
      · skip
        have c_3 : zi = 2 := (nI_eq (a := zi) (b := 2) (by omega) (by omega)).mp c_3
        have hc : nI N = hed N zi := by rw [c_3]; rfl
        refine lv_aload_n hx hb dX3_headOf_24 rfl (lv_at hl 0 rfl) ?_
        refine va_get (D := G) (ci := 3) (v := .int (nI N)) (C := RX3) (T := TX3) (N := 20) hx hb hts hinX3 hown hK hP 0 rfl rfl 2 (by decide) (hts (.fieldLink RX3 121 "SealedPagesModel" "pages" "I") (by decide +kernel)) (fun _ h => h) rfl dX3_headOf_25 ?_
        refine lv_goto (tgt := 42) hx hb dX3_headOf_28 (by decide) ?_
        exact hret _ () _ _ _ _ dX3_headOf_42 hP hD hS hc
    · skip
      have c_2 : zi = 1 := (nI_eq (a := zi) (b := 1) (by omega) (by omega)).mp c_2
      have hc : 73 = hed N zi := by rw [c_2]; rfl
      refine lv_bipush (v := 73) hx hb dX3_headOf_14 (by decide) ?_
      refine lv_goto (tgt := 42) hx hb dX3_headOf_16 (by decide) ?_
      exact hret _ () _ _ _ _ dX3_headOf_42 hP hD hS hc
  · skip
    have c_1 : zi = 0 := (nI_eq (a := zi) (b := 0) (by omega) (by omega)).mp c_1
    have hc : 83 = hed N zi := by rw [c_1]; rfl
    refine lv_bipush (v := 83) hx hb dX3_headOf_4 (by decide) ?_
    refine lv_goto (tgt := 42) hx hb dX3_headOf_6 (by decide) ?_
    exact hret _ () _ _ _ _ dX3_headOf_42 hP hD hS hc

set_option maxHeartbeats 4000000 in
set_option maxRecDepth 100000 in
theorem c_X3_hashNode (l : Launch) (G : va_G) (cA : ClassId) (tF tC : Nat) (g : Nat → Nat) (sz N : Nat) (hN : 1 ≤ N ∧ N ≤ 64) (zz : Int32) (D R F KD KR RW OU WO ST WK CA : Nat → Int32) (ln kp rd wr ft : Int32) (ql qk : Nat) (hql : ql < lvs N) (hqk : qk < nod N ql) : CV l yX3_hashNode wsX3_hashNode 4 97 G cA tF tC g 14 sz (mW g cA N zz D R F KD KR RW OU WO ST WK CA ln kp rd wr ft) [.ref (g 0), .int (nI ql), .int (nI qk)] (fun (u : (Nat → Int32) × (Nat → Int32) × (Nat → Int32) × (Nat → Int32) × (Nat → Int32) × Int32) => mW g cA N zz D R F KD KR u.1 u.2.1 u.2.2.1 u.2.2.2.1 u.2.2.2.2.1 CA u.2.2.2.2.2 kp rd wr ft) (fun u => ag 32 u.2.1 (nsha N D ql qk)) := by
  refine x_entryV (cc := cX3_hashNode) (maxL := 6) (by decide) rfl (fun _ => rfl) (Nat.le_of_ble_eq_true rfl) ?_
  intro p e s m args below meth c Q hx hb hml hown hts hK hP hD hS hT hret ls hl
  have hown : s.vm.findClass RX3 = some m.cls := hown
  have hl : lv_has ls 6 [(0, .ref (g 0)), (1, .int (nI ql)), (2, .int (nI qk))] := hl
  have hinX3 : ∀ w ∈ wsX30, w ∈ wsX3_hashNode := by decide +kernel
  have hz := siz_le hN
  have hse := siz_eq N
  have hnd := nds_le hN
  have hlv := lvs_in hN
  have hnl := nlen_in N ql qk
  have hpg := fun (h : ql = 0) => page_in (N := N) (p := qk) (by subst h; exact hqk)
  have hkn := nod_le N hN.1 ql
  obtain ⟨zf, ef⟩ : ∃ z, z = pad (nmsg D ql qk (nbas N ql qk)) (nlen N ql qk) := ⟨_, rfl⟩
  refine lv_aload_n hx hb dX3_hashNode_0 rfl (lv_at hl 0 rfl) ?_
  refine lv_iconst (v := 0) hx hb dX3_hashNode_1 (by decide) ?_
  refine va_put (D := G) (ci := 3) (v := .int 0) (ty := .int) (C := RX3) (T := TX3) (N := 20) hx hb hts hinX3 tyX3 tyX3_ok nmX3 hown hK hP hD hS 0 rfl rfl 14 (by decide) (hts (.fieldLink RX3 139 "SealedPagesModel" "length" "I") (by decide +kernel)) (fun _ h => h) rfl (by decide +kernel) rfl rfl (Nat.le_of_ble_eq_true rfl) dX3_hashNode_2 (fun H locs hP hD hS => ?_)
  have hP : va_P G vwCl (mW g cA N zz D R F KD KR RW OU WO ST WK CA 0 kp rd wr ft) _ := hP
  have hD : va_D _ (mW g cA N zz D R F KD KR RW OU WO ST WK CA 0 kp rd wr ft) := hD
  have hP : va_P G vwCl (mW g cA N zz D R F KD KR RW OU WO ST WK CA (nI 0) kp rd wr ft) _ := hP
  have hD : va_D _ (mW g cA N zz D R F KD KR RW OU WO ST WK CA (nI 0) kp rd wr ft) := hD
  refine lv_aload_n hx hb dX3_hashNode_5 rfl (lv_at hl 0 rfl) ?_
  refine lv_iload_n hx hb dX3_hashNode_6 rfl (lv_at hl 1 rfl) ?_
  refine x_vv ⟨hx, hb, hml, hown, hts⟩ (c_X3_add l G cA tF tC g _ N hN zz D R F KD KR RW OU WO ST WK CA kp rd wr ft (0) zf (nI ql) (Mrow_0 zf RW) (by rw [ef, msg_0 (by omega)]) (by omega)) (cwV 1 hts gX3_hashNode_X3_add rfl rfl rfl (by decide +kernel) ⟨Nat.le_of_ble_eq_true rfl, Nat.le_of_ble_eq_true rfl⟩) hK hP hD hS hT rfl 0 3 rfl rfl rfl hl.1 rfl (Nat.le_of_ble_eq_true rfl) dX3_hashNode_7 ⟨Nat.le_refl _, Nat.le_refl _⟩ (fun u H locs hro1 hP hD hS => ?_)
  obtain ⟨RW1, rfl⟩ : ∃ z, z = u := ⟨_, rfl⟩
  have hP : va_P G vwCl (mW g cA N zz D R F KD KR RW1 OU WO ST WK CA (nI (0 + 1)) kp rd wr ft) _ := hP
  have hD : va_D _ (mW g cA N zz D R F KD KR RW1 OU WO ST WK CA (nI (0 + 1)) kp rd wr ft) := hD
  refine lv_aload_n hx hb dX3_hashNode_10 rfl (lv_at hl 0 rfl) ?_
  refine lv_iload_n hx hb dX3_hashNode_11 rfl (lv_at hl 2 rfl) ?_
  refine x_vv ⟨hx, hb, hml, hown, hts⟩ (c_X3_add l G cA tF tC g _ N hN zz D R F KD KR RW1 OU WO ST WK CA kp rd wr ft (0 + 1) zf (nI qk) hro1 (by rw [ef, msg_1 (by omega)]) (by omega)) (cwV 1 hts gX3_hashNode_X3_add rfl rfl rfl (by decide +kernel) ⟨Nat.le_of_ble_eq_true rfl, Nat.le_of_ble_eq_true rfl⟩) hK hP hD hS hT rfl 0 3 rfl rfl rfl hl.1 rfl (Nat.le_of_ble_eq_true rfl) dX3_hashNode_12 ⟨Nat.le_refl _, Nat.le_refl _⟩ (fun u H locs hro2 hP hD hS => ?_)
  obtain ⟨RW2, rfl⟩ : ∃ z, z = u := ⟨_, rfl⟩
  have hP : va_P G vwCl (mW g cA N zz D R F KD KR RW2 OU WO ST WK CA (nI (0 + 1 + 1)) kp rd wr ft) _ := hP
  have hD : va_D _ (mW g cA N zz D R F KD KR RW2 OU WO ST WK CA (nI (0 + 1 + 1)) kp rd wr ft) := hD
  refine lv_iload_n hx hb dX3_hashNode_15 rfl (lv_at hl 1 rfl) ?_
  refine lv_if_ne (tgt := 54) hx hb dX3_hashNode_16 (by decide) (fun c_3 => ?_) (fun c_3 => ?_)
  · skip
    have c_3 : ¬ ql = 0 := fun z => c_3 ((nI_eq (a := ql) (b := 0) (by omega) (by omega)).mpr z)
    have hq0 : ¬ ql = 0 := c_3
    have hbl := below_in hN hq0 hql hqk
    have hnk := nod_le N hN.1 (ql - 1)
    refine lv_iconst (v := 2) hx hb dX3_hashNode_54 (by decide) ?_
    refine lv_iload_n hx hb dX3_hashNode_55 rfl (lv_at hl 2 rfl) ?_
    refine lv_imul hx hb dX3_hashNode_56 ?_
    refine x_eqi (y := nI (2 * qk)) (pk_mul 2 qk) ?_
    refine lv_istore_n (lv' := [(3, .int (nI (2 * qk))), (0, .ref (g 0)), (1, .int (nI ql)), (2, .int (nI qk))]) hx hb dX3_hashNode_57 rfl hl (by decide) rfl (fun ls hl => ?_)
    have loop_58 : ∀ (n_58 : Nat) (q : Nat) (RWq : Nat → Int32), (2 - q) < n_58 → (q ≤ 2) → (q = 2 → 2 * qk + 1 < nod N (ql - 1)) → (Mrow zf RWq (0 + 1 + 1 + 32 * q)) → ∀ (H : Heap) (locs : List Loc) (ls : Array Slot), va_P G vwCl (mW g cA N zz D R F KD KR RWq OU WO ST WK CA (nI (0 + 1 + 1 + 32 * q)) kp rd wr ft) H → va_D (wA g 14 s.heap.size) (mW g cA N zz D R F KD KR RWq OU WO ST WK CA (nI (0 + 1 + 1 + 32 * q)) kp rd wr ft) → va_S (wA g 14 s.heap.size) s.heap H locs → lv_has ls 6 [(0, .ref (g 0)), (1, .int (nI ql)), (2, .int (nI qk)), (3, .int (nI (2 * qk + q)))] → W p l e { frames := 4, cells := 0, slots := 0, locals := 97 } s m args below meth c H locs 0 0 Q (F0 m 58 ls []) := by
      intro n_58
      induction n_58 with
      | zero => intro q RWq hm_58; exact absurd hm_58 (Nat.not_lt_zero _)
      | succ n_58 ih_58 =>
        intro q RWq hm_58 hq hq2 hro H locs ls hP hD hS hl
        refine lv_iload_n hx hb dX3_hashNode_58 rfl (lv_at hl 3 rfl) ?_
        refine lv_iconst (v := 2) hx hb dX3_hashNode_59 (by decide) ?_
        refine lv_iload_n hx hb dX3_hashNode_60 rfl (lv_at hl 2 rfl) ?_
        refine lv_imul hx hb dX3_hashNode_61 ?_
        refine x_eqi (y := nI (2 * qk)) (pk_mul 2 qk) ?_
        refine lv_iconst (v := 1) hx hb dX3_hashNode_62 (by decide) ?_
        refine lv_iadd hx hb dX3_hashNode_63 ?_
        refine x_eqi (y := nI ((2 * qk) + 1)) (nI_add (2 * qk) 1) ?_
        refine lv_icmp_gt (tgt := 124) hx hb dX3_hashNode_64 (by decide) (fun c_4 => ?_) (fun c_4 => ?_)
        · skip
          have c_4 : ((2 * qk) + 1) < (2 * qk + q) := (nI_ltI (a := ((2 * qk) + 1)) (b := (2 * qk + q)) (by omega) (by omega)).mp c_4
          have hlen : nlen N ql qk = 0 + 1 + 1 + 32 * q := by rw [nlen_2 hq0 (hq2 (by omega))]; omega
          rw [← hlen] at hP hD
          refine lv_aload_n hx hb dX3_hashNode_124 rfl (lv_at hl 0 rfl) ?_
          refine x_vv ⟨hx, hb, hml, hown, hts⟩ (c_X3_hashRow l G cA tF tC g _ N hN zz D R F KD KR RWq OU WO ST WK CA kp rd wr ft (nlen N ql qk) (nmsg D ql qk (nbas N ql qk)) (by rw [← ef, hlen]; exact hro) (by omega)) (cwV 0 hts gX3_hashNode_X3_hashRow rfl rfl rfl (by decide +kernel) ⟨Nat.le_of_ble_eq_true rfl, Nat.le_of_ble_eq_true rfl⟩) hK hP hD hS hT rfl 0 3 rfl rfl rfl hl.1 rfl (Nat.le_of_ble_eq_true rfl) dX3_hashNode_125 ⟨Nat.le_refl _, Nat.le_refl _⟩ (fun u H locs hs6 hP hD hS => ?_)
          obtain ⟨RW6, OU6, WO6, ST6, WK6, ln6⟩ := u
          have hP : va_P G vwCl (mW g cA N zz D R F KD KR RW6 OU6 WO6 ST6 WK6 CA ln6 kp rd wr ft) _ := hP
          have hD : va_D _ (mW g cA N zz D R F KD KR RW6 OU6 WO6 ST6 WK6 CA ln6 kp rd wr ft) := hD
          exact hret (RW6, OU6, WO6, ST6, WK6, ln6) _ _ _ _ dX3_hashNode_128 hP hD hS hs6
        · skip
          have c_4 : ¬ ((2 * qk) + 1) < (2 * qk + q) := fun z => c_4 ((nI_ltI (a := ((2 * qk) + 1)) (b := (2 * qk + q)) (by omega) (by omega)).mpr z)
          refine lv_iload_n hx hb dX3_hashNode_67 rfl (lv_at hl 3 rfl) ?_
          refine lv_aload_n hx hb dX3_hashNode_68 rfl (lv_at hl 0 rfl) ?_
          refine lv_iload_n hx hb dX3_hashNode_69 rfl (lv_at hl 1 rfl) ?_
          refine lv_iconst (v := 1) hx hb dX3_hashNode_70 (by decide) ?_
          refine lv_isub hx hb dX3_hashNode_71 ?_
          refine x_eqi (y := nI (ql - 1)) (pk_sub (a := ql) (b := 1) (by omega)) ?_
          refine x_vi ⟨hx, hb, hml, hown, hts⟩ (c_X3_nodesOf l G cA tF tC g _ N hN zz D R F KD KR RWq OU WO ST WK CA (nI (0 + 1 + 1 + 32 * q)) kp rd wr ft (ql - 1) (by omega)) (cwV 1 hts gX3_hashNode_X3_nodesOf rfl rfl rfl (by decide +kernel) ⟨Nat.le_of_ble_eq_true rfl, Nat.le_of_ble_eq_true rfl⟩) hK hP hD hS hT rfl 0 3 rfl rfl rfl hl.1 rfl (Nat.le_of_ble_eq_true rfl) dX3_hashNode_72 ⟨Nat.le_refl _, Nat.le_refl _⟩ (fun r_7 u H locs hp_6 hP hD hS => ?_)
          have hP : va_P G vwCl (mW g cA N zz D R F KD KR RWq OU WO ST WK CA (nI (0 + 1 + 1 + 32 * q)) kp rd wr ft) _ := hP
          have hD : va_D _ (mW g cA N zz D R F KD KR RWq OU WO ST WK CA (nI (0 + 1 + 1 + 32 * q)) kp rd wr ft) := hD
          have hp_6 : r_7 = nI (nod N (ql - 1)) := hp_6
          subst hp_6
          refine lv_icmp_ge (tgt := 124) hx hb dX3_hashNode_75 (by decide) (fun c_8 => ?_) (fun c_8 => ?_)
          · skip
            have c_8 : (nod N (ql - 1)) ≤ (2 * qk + q) := (nI_leI (a := (nod N (ql - 1))) (b := (2 * qk + q)) (by omega) (by omega)).mp c_8
            have hlen : nlen N ql qk = 0 + 1 + 1 + 32 * q := by rw [nlen_1 hq0 (by omega)]; omega
            rw [← hlen] at hP hD
            refine lv_aload_n hx hb dX3_hashNode_124 rfl (lv_at hl 0 rfl) ?_
            refine x_vv ⟨hx, hb, hml, hown, hts⟩ (c_X3_hashRow l G cA tF tC g _ N hN zz D R F KD KR RWq OU WO ST WK CA kp rd wr ft (nlen N ql qk) (nmsg D ql qk (nbas N ql qk)) (by rw [← ef, hlen]; exact hro) (by omega)) (cwV 0 hts gX3_hashNode_X3_hashRow rfl rfl rfl (by decide +kernel) ⟨Nat.le_of_ble_eq_true rfl, Nat.le_of_ble_eq_true rfl⟩) hK hP hD hS hT rfl 0 3 rfl rfl rfl hl.1 rfl (Nat.le_of_ble_eq_true rfl) dX3_hashNode_125 ⟨Nat.le_refl _, Nat.le_refl _⟩ (fun u H locs hs6 hP hD hS => ?_)
            obtain ⟨RW6, OU6, WO6, ST6, WK6, ln6⟩ := u
            have hP : va_P G vwCl (mW g cA N zz D R F KD KR RW6 OU6 WO6 ST6 WK6 CA ln6 kp rd wr ft) _ := hP
            have hD : va_D _ (mW g cA N zz D R F KD KR RW6 OU6 WO6 ST6 WK6 CA ln6 kp rd wr ft) := hD
            exact hret (RW6, OU6, WO6, ST6, WK6, ln6) _ _ _ _ dX3_hashNode_128 hP hD hS hs6
          · skip
            have c_8 : ¬ (nod N (ql - 1)) ≤ (2 * qk + q) := fun z => c_8 ((nI_leI (a := (nod N (ql - 1))) (b := (2 * qk + q)) (by omega) (by omega)).mpr z)
            have hpi := plc_in hN (show ql - 1 < lvs N by omega) (Nat.not_le.mp c_8)
            have hnl2 : 2 + 32 * (q + 1) ≤ nlen N ql qk := nl_q hq0 (by omega) (by omega)
            refine lv_aload_n hx hb dX3_hashNode_78 rfl (lv_at hl 0 rfl) ?_
            refine lv_iload_n hx hb dX3_hashNode_79 rfl (lv_at hl 1 rfl) ?_
            refine lv_iconst (v := 1) hx hb dX3_hashNode_80 (by decide) ?_
            refine lv_isub hx hb dX3_hashNode_81 ?_
            refine x_eqi (y := nI (ql - 1)) (pk_sub (a := ql) (b := 1) (by omega)) ?_
            refine lv_iload_n hx hb dX3_hashNode_82 rfl (lv_at hl 3 rfl) ?_
            refine x_vi ⟨hx, hb, hml, hown, hts⟩ (c_X3_placeOf l G cA tF tC g _ N hN zz D R F KD KR RWq OU WO ST WK CA (nI (0 + 1 + 1 + 32 * q)) kp rd wr ft (ql - 1) (2 * qk + q) (by omega)) (cwV 2 hts gX3_hashNode_X3_placeOf rfl rfl rfl (by decide +kernel) ⟨Nat.le_of_ble_eq_true rfl, Nat.le_of_ble_eq_true rfl⟩) hK hP hD hS hT rfl 0 3 rfl rfl rfl hl.1 rfl (Nat.le_of_ble_eq_true rfl) dX3_hashNode_83 ⟨Nat.le_refl _, Nat.le_refl _⟩ (fun r_11 u H locs hp_10 hP hD hS => ?_)
            have hP : va_P G vwCl (mW g cA N zz D R F KD KR RWq OU WO ST WK CA (nI (0 + 1 + 1 + 32 * q)) kp rd wr ft) _ := hP
            have hD : va_D _ (mW g cA N zz D R F KD KR RWq OU WO ST WK CA (nI (0 + 1 + 1 + 32 * q)) kp rd wr ft) := hD
            have hp_10 : r_11 = nI (plc N (ql - 1) (2 * qk + q)) := hp_10
            subst hp_10
            refine lv_istore (lv' := [(4, .int (nI (plc N (ql - 1) (2 * qk + q)))), (0, .ref (g 0)), (1, .int (nI ql)), (2, .int (nI qk)), (3, .int (nI (2 * qk + q)))]) hx hb dX3_hashNode_86 hl (by decide) rfl (fun ls hl => ?_)
            refine lv_iconst (v := 0) hx hb dX3_hashNode_88 (by decide) ?_
            refine lv_istore (lv' := [(5, .int 0), (4, .int (nI (plc N (ql - 1) (2 * qk + q)))), (0, .ref (g 0)), (1, .int (nI ql)), (2, .int (nI qk)), (3, .int (nI (2 * qk + q)))]) hx hb dX3_hashNode_89 hl (by decide) rfl (fun ls hl => ?_)
            have loop_91 : ∀ (n_91 : Nat) (zi : Nat) (RWi : Nat → Int32), (32 - zi) < n_91 → (zi ≤ 32) → (Mrow zf RWi (0 + 1 + 1 + (32 * q + zi))) → ∀ (H : Heap) (locs : List Loc) (ls : Array Slot), va_P G vwCl (mW g cA N zz D R F KD KR RWi OU WO ST WK CA (nI (0 + 1 + 1 + (32 * q + zi))) kp rd wr ft) H → va_D (wA g 14 s.heap.size) (mW g cA N zz D R F KD KR RWi OU WO ST WK CA (nI (0 + 1 + 1 + (32 * q + zi))) kp rd wr ft) → va_S (wA g 14 s.heap.size) s.heap H locs → lv_has ls 6 [(0, .ref (g 0)), (1, .int (nI ql)), (2, .int (nI qk)), (3, .int (nI (2 * qk + q))), (4, .int (nI (plc N (ql - 1) (2 * qk + q)))), (5, .int (nI zi))] → W p l e { frames := 4, cells := 0, slots := 0, locals := 97 } s m args below meth c H locs 0 0 Q (F0 m 91 ls []) := by
              intro n_91
              induction n_91 with
              | zero => intro zi RWi hm_91; exact absurd hm_91 (Nat.not_lt_zero _)
              | succ n_91 ih_91 =>
                intro zi RWi hm_91 hi hro H locs ls hP hD hS hl
                have hpq : plc N (ql - 1) (2 * qk) + (32 * q + zi) = plc N (ql - 1) (2 * qk + q) + zi := by unfold plc; omega
                refine lv_iload hx hb dX3_hashNode_91 (lv_at hl 5 rfl) ?_
                refine lv_bipush (v := 32) hx hb dX3_hashNode_93 (by decide) ?_
                refine lv_icmp_ge (tgt := 118) hx hb dX3_hashNode_95 (by decide) (fun c_12 => ?_) (fun c_12 => ?_)
                · skip
                  have c_12 : 32 ≤ zi := (nI_leI (a := 32) (b := zi) (by omega) (by omega)).mp c_12
                  obtain rfl : zi = 32 := by omega
                  have hl : lv_has ls 6 [(0, .ref (g 0)), (1, .int (nI ql)), (2, .int (nI qk)), (3, .int (nI (2 * qk + q))), (4, .int (nI (plc N (ql - 1) (2 * qk + q)))), (5, .int (nI 32))] := hl
                  refine lv_iinc (v := nI (2 * qk + (q + 1))) (lv' := [(3, .int (nI (2 * qk + (q + 1)))), (0, .ref (g 0)), (1, .int (nI ql)), (2, .int (nI qk)), (4, .int (nI (plc N (ql - 1) (2 * qk + q)))), (5, .int (nI 32))]) hx hb dX3_hashNode_118 hl (k := 3) rfl (nI_1 _) (by decide) rfl (fun ls hl => ?_)
                  refine lv_goto (tgt := 58) hx hb dX3_hashNode_121 (by decide) ?_
                  exact ih_58 (q + 1) RWi (by omega) (by omega) (fun h => by omega) hro _ _ _ hP hD hS (lv_sub hl [1, 2, 3, 0] rfl)
                · skip
                  have c_12 : ¬ 32 ≤ zi := fun z => c_12 ((nI_leI (a := 32) (b := zi) (by omega) (by omega)).mpr z)
                  refine lv_aload_n hx hb dX3_hashNode_98 rfl (lv_at hl 0 rfl) ?_
                  refine lv_aload_n hx hb dX3_hashNode_99 rfl (lv_at hl 0 rfl) ?_
                  refine va_get (D := G) (ci := 3) (v := .ref (g 3)) (C := RX3) (T := TX3) (N := 20) hx hb hts hinX3 hown hK hP 0 rfl rfl 4 (by decide) (hts (.fieldLink RX3 88 "SealedPagesModel" "disk" "[I") (by decide +kernel)) (fun _ h => h) rfl dX3_hashNode_100 ?_
                  refine lv_iload hx hb dX3_hashNode_103 (lv_at hl 4 rfl) ?_
                  refine lv_iload hx hb dX3_hashNode_105 (lv_at hl 5 rfl) ?_
                  refine lv_iadd hx hb dX3_hashNode_107 ?_
                  refine x_eqi (y := nI ((plc N (ql - 1) (2 * qk + q)) + zi)) (nI_add (plc N (ql - 1) (2 * qk + q)) zi) ?_
                  refine x_ald (i := (plc N (ql - 1) (2 * qk + q)) + zi) hx hb hK hP 3 0 rfl rfl (by omega) (by decide) dX3_hashNode_108 ?_
                  refine x_vv ⟨hx, hb, hml, hown, hts⟩ (c_X3_add l G cA tF tC g _ N hN zz D R F KD KR RWi OU WO ST WK CA kp rd wr ft (0 + 1 + 1 + (32 * q + zi)) zf (D (plc N (ql - 1) (2 * qk + q) + zi)) hro (by rw [ef, msg_2 (by omega), nbas_1 hq0, hpq]) (by omega)) (cwV 1 hts gX3_hashNode_X3_add rfl rfl rfl (by decide +kernel) ⟨Nat.le_of_ble_eq_true rfl, Nat.le_of_ble_eq_true rfl⟩) hK hP hD hS hT rfl 0 3 rfl rfl rfl hl.1 rfl (Nat.le_of_ble_eq_true rfl) dX3_hashNode_109 ⟨Nat.le_refl _, Nat.le_refl _⟩ (fun u H locs hro3 hP hD hS => ?_)
                  obtain ⟨RW3, rfl⟩ : ∃ z, z = u := ⟨_, rfl⟩
                  have hP : va_P G vwCl (mW g cA N zz D R F KD KR RW3 OU WO ST WK CA (nI (0 + 1 + 1 + (32 * q + (zi + 1)))) kp rd wr ft) _ := hP
                  have hD : va_D _ (mW g cA N zz D R F KD KR RW3 OU WO ST WK CA (nI (0 + 1 + 1 + (32 * q + (zi + 1)))) kp rd wr ft) := hD
                  refine lv_iinc (v := nI (zi + 1)) (lv' := [(5, .int (nI (zi + 1))), (0, .ref (g 0)), (1, .int (nI ql)), (2, .int (nI qk)), (3, .int (nI (2 * qk + q))), (4, .int (nI (plc N (ql - 1) (2 * qk + q))))]) hx hb dX3_hashNode_112 hl (k := 5) rfl (nI_1 _) (by decide) rfl (fun ls hl => ?_)
                  refine lv_goto (tgt := 91) hx hb dX3_hashNode_115 (by decide) ?_
                  exact ih_91 (zi + 1) RW3 (by omega) (by omega) hro3 _ _ _ hP hD hS (lv_sub hl [1, 2, 3, 4, 5, 0] rfl)
            exact loop_91 _ 0 RWq (Nat.lt_succ_self _) (by omega) hro _ _ _ hP hD hS (lv_sub hl [2, 3, 4, 5, 1, 0] rfl)
    exact loop_58 _ 0 RW2 (Nat.lt_succ_self _) (by omega) (fun h => absurd h (by omega)) hro2 _ _ _ hP hD hS (lv_sub hl [1, 2, 3, 0] rfl)
  · skip
    have c_3 : ql = 0 := (nI_eq (a := ql) (b := 0) (by omega) (by omega)).mp c_3
    have hq0 : ql = 0 := c_3
    have hlen : nlen N ql qk = 0 + 1 + 1 + 64 := by rw [hq0]; rfl
    have hba : nbas N ql qk = 8 + 64 * qk := by rw [hq0]; rfl
    have hpg := hpg hq0
    refine lv_iconst (v := 0) hx hb dX3_hashNode_19 (by decide) ?_
    refine lv_istore_n (lv' := [(3, .int 0), (0, .ref (g 0)), (1, .int (nI ql)), (2, .int (nI qk))]) hx hb dX3_hashNode_20 rfl hl (by decide) rfl (fun ls hl => ?_)
    have loop_21 : ∀ (n_21 : Nat) (zi : Nat) (RWi : Nat → Int32), (64 - zi) < n_21 → (zi ≤ 64) → (Mrow zf RWi (0 + 1 + 1 + zi)) → ∀ (H : Heap) (locs : List Loc) (ls : Array Slot), va_P G vwCl (mW g cA N zz D R F KD KR RWi OU WO ST WK CA (nI (0 + 1 + 1 + zi)) kp rd wr ft) H → va_D (wA g 14 s.heap.size) (mW g cA N zz D R F KD KR RWi OU WO ST WK CA (nI (0 + 1 + 1 + zi)) kp rd wr ft) → va_S (wA g 14 s.heap.size) s.heap H locs → lv_has ls 6 [(0, .ref (g 0)), (1, .int (nI ql)), (2, .int (nI qk)), (3, .int (nI zi))] → W p l e { frames := 4, cells := 0, slots := 0, locals := 97 } s m args below meth c H locs 0 0 Q (F0 m 21 ls []) := by
      intro n_21
      induction n_21 with
      | zero => intro zi RWi hm_21; exact absurd hm_21 (Nat.not_lt_zero _)
      | succ n_21 ih_21 =>
        intro zi RWi hm_21 hi hro H locs ls hP hD hS hl
        refine lv_iload_n hx hb dX3_hashNode_21 rfl (lv_at hl 3 rfl) ?_
        refine lv_bipush (v := 64) hx hb dX3_hashNode_22 (by decide) ?_
        refine lv_icmp_ge (tgt := 51) hx hb dX3_hashNode_24 (by decide) (fun c_14 => ?_) (fun c_14 => ?_)
        · skip
          have c_14 : 64 ≤ zi := (nI_leI (a := 64) (b := zi) (by omega) (by omega)).mp c_14
          obtain rfl : zi = 64 := by omega
          have hl : lv_has ls 6 [(0, .ref (g 0)), (1, .int (nI ql)), (2, .int (nI qk)), (3, .int (nI 64))] := hl
          refine lv_goto (tgt := 124) hx hb dX3_hashNode_51 (by decide) ?_
          rw [← hlen] at hP hD
          refine lv_aload_n hx hb dX3_hashNode_124 rfl (lv_at hl 0 rfl) ?_
          refine x_vv ⟨hx, hb, hml, hown, hts⟩ (c_X3_hashRow l G cA tF tC g _ N hN zz D R F KD KR RWi OU WO ST WK CA kp rd wr ft (nlen N ql qk) (nmsg D ql qk (nbas N ql qk)) (by rw [← ef, hlen]; exact hro) (by omega)) (cwV 0 hts gX3_hashNode_X3_hashRow rfl rfl rfl (by decide +kernel) ⟨Nat.le_of_ble_eq_true rfl, Nat.le_of_ble_eq_true rfl⟩) hK hP hD hS hT rfl 0 3 rfl rfl rfl hl.1 rfl (Nat.le_of_ble_eq_true rfl) dX3_hashNode_125 ⟨Nat.le_refl _, Nat.le_refl _⟩ (fun u H locs hs6 hP hD hS => ?_)
          obtain ⟨RW6, OU6, WO6, ST6, WK6, ln6⟩ := u
          have hP : va_P G vwCl (mW g cA N zz D R F KD KR RW6 OU6 WO6 ST6 WK6 CA ln6 kp rd wr ft) _ := hP
          have hD : va_D _ (mW g cA N zz D R F KD KR RW6 OU6 WO6 ST6 WK6 CA ln6 kp rd wr ft) := hD
          exact hret (RW6, OU6, WO6, ST6, WK6, ln6) _ _ _ _ dX3_hashNode_128 hP hD hS hs6
        · skip
          have c_14 : ¬ 64 ≤ zi := fun z => c_14 ((nI_leI (a := 64) (b := zi) (by omega) (by omega)).mpr z)
          refine lv_aload_n hx hb dX3_hashNode_27 rfl (lv_at hl 0 rfl) ?_
          refine lv_aload_n hx hb dX3_hashNode_28 rfl (lv_at hl 0 rfl) ?_
          refine va_get (D := G) (ci := 3) (v := .ref (g 3)) (C := RX3) (T := TX3) (N := 20) hx hb hts hinX3 hown hK hP 0 rfl rfl 4 (by decide) (hts (.fieldLink RX3 88 "SealedPagesModel" "disk" "[I") (by decide +kernel)) (fun _ h => h) rfl dX3_hashNode_29 ?_
          refine lv_bipush (v := 8) hx hb dX3_hashNode_32 (by decide) ?_
          refine lv_bipush (v := 64) hx hb dX3_hashNode_34 (by decide) ?_
          refine lv_iload_n hx hb dX3_hashNode_36 rfl (lv_at hl 2 rfl) ?_
          refine lv_imul hx hb dX3_hashNode_37 ?_
          refine x_eqi (y := nI (64 * qk)) (pk_mul 64 qk) ?_
          refine lv_iadd hx hb dX3_hashNode_38 ?_
          refine x_eqi (y := nI (8 + (64 * qk))) (nI_add 8 (64 * qk)) ?_
          refine lv_iload_n hx hb dX3_hashNode_39 rfl (lv_at hl 3 rfl) ?_
          refine lv_iadd hx hb dX3_hashNode_40 ?_
          refine x_eqi (y := nI ((8 + (64 * qk)) + zi)) (nI_add (8 + (64 * qk)) zi) ?_
          refine x_ald (i := (8 + (64 * qk)) + zi) hx hb hK hP 3 0 rfl rfl (by omega) (by decide) dX3_hashNode_41 ?_
          refine x_vv ⟨hx, hb, hml, hown, hts⟩ (c_X3_add l G cA tF tC g _ N hN zz D R F KD KR RWi OU WO ST WK CA kp rd wr ft (0 + 1 + 1 + zi) zf (D (8 + 64 * qk + zi)) hro (by rw [ef, msg_2 (by omega), hba]) (by omega)) (cwV 1 hts gX3_hashNode_X3_add rfl rfl rfl (by decide +kernel) ⟨Nat.le_of_ble_eq_true rfl, Nat.le_of_ble_eq_true rfl⟩) hK hP hD hS hT rfl 0 3 rfl rfl rfl hl.1 rfl (Nat.le_of_ble_eq_true rfl) dX3_hashNode_42 ⟨Nat.le_refl _, Nat.le_refl _⟩ (fun u H locs hro3 hP hD hS => ?_)
          obtain ⟨RW3, rfl⟩ : ∃ z, z = u := ⟨_, rfl⟩
          have hP : va_P G vwCl (mW g cA N zz D R F KD KR RW3 OU WO ST WK CA (nI (0 + 1 + 1 + (zi + 1))) kp rd wr ft) _ := hP
          have hD : va_D _ (mW g cA N zz D R F KD KR RW3 OU WO ST WK CA (nI (0 + 1 + 1 + (zi + 1))) kp rd wr ft) := hD
          refine lv_iinc (v := nI (zi + 1)) (lv' := [(3, .int (nI (zi + 1))), (0, .ref (g 0)), (1, .int (nI ql)), (2, .int (nI qk))]) hx hb dX3_hashNode_45 hl (k := 3) rfl (nI_1 _) (by decide) rfl (fun ls hl => ?_)
          refine lv_goto (tgt := 21) hx hb dX3_hashNode_48 (by decide) ?_
          exact ih_21 (zi + 1) RW3 (by omega) (by omega) hro3 _ _ _ hP hD hS (lv_sub hl [1, 2, 3, 0] rfl)
    exact loop_21 _ 0 RW2 (Nat.lt_succ_self _) (by omega) hro2 _ _ _ hP hD hS (lv_sub hl [1, 2, 3, 0] rfl)

set_option maxHeartbeats 4000000 in
set_option maxRecDepth 100000 in
theorem c_X3_hashRoot (l : Launch) (G : va_G) (cA : ClassId) (tF tC : Nat) (g : Nat → Nat) (sz N : Nat) (hN : 1 ≤ N ∧ N ≤ 64) (zz : Int32) (D R F KD KR RW OU WO ST WK CA : Nat → Int32) (ln kp rd wr ft : Int32)  : CV l yX3_hashRoot wsX3_hashRoot 4 97 G cA tF tC g 14 sz (mW g cA N zz D R F KD KR RW OU WO ST WK CA ln kp rd wr ft) [.ref (g 0)] (fun (u : (Nat → Int32) × (Nat → Int32) × (Nat → Int32) × (Nat → Int32) × (Nat → Int32) × Int32) => mW g cA N zz D R F KD KR u.1 u.2.1 u.2.2.1 u.2.2.2.1 u.2.2.2.2.1 CA u.2.2.2.2.2 kp rd wr ft) (fun u => ag 32 u.2.1 (rsha N D)) := by
  refine x_entryV (cc := cX3_hashRoot) (maxL := 3) (by decide) rfl (fun _ => rfl) (Nat.le_of_ble_eq_true rfl) ?_
  intro p e s m args below meth c Q hx hb hml hown hts hK hP hD hS hT hret ls hl
  have hown : s.vm.findClass RX3 = some m.cls := hown
  have hl : lv_has ls 3 [(0, .ref (g 0))] := hl
  have hinX3 : ∀ w ∈ wsX30, w ∈ wsX3_hashRoot := by decide +kernel
  have hz := siz_le hN
  have hse := siz_eq N
  have hnd := nds_le hN
  have hlv := lvs_in hN
  have hpl := plc_in hN (show lvs N - 1 < lvs N by omega) (show 0 < nod N (lvs N - 1) by rw [nod_last hN]; omega)
  obtain ⟨zf, ef⟩ : ∃ z, z = pad (rmsg N D) 40 := ⟨_, rfl⟩
  refine lv_aload_n hx hb dX3_hashRoot_0 rfl (lv_at hl 0 rfl) ?_
  refine lv_iconst (v := 0) hx hb dX3_hashRoot_1 (by decide) ?_
  refine va_put (D := G) (ci := 3) (v := .int 0) (ty := .int) (C := RX3) (T := TX3) (N := 20) hx hb hts hinX3 tyX3 tyX3_ok nmX3 hown hK hP hD hS 0 rfl rfl 14 (by decide) (hts (.fieldLink RX3 139 "SealedPagesModel" "length" "I") (by decide +kernel)) (fun _ h => h) rfl (by decide +kernel) rfl rfl (Nat.le_of_ble_eq_true rfl) dX3_hashRoot_2 (fun H locs hP hD hS => ?_)
  have hP : va_P G vwCl (mW g cA N zz D R F KD KR RW OU WO ST WK CA 0 kp rd wr ft) _ := hP
  have hD : va_D _ (mW g cA N zz D R F KD KR RW OU WO ST WK CA 0 kp rd wr ft) := hD
  have hP : va_P G vwCl (mW g cA N zz D R F KD KR RW OU WO ST WK CA (nI 0) kp rd wr ft) _ := hP
  have hD : va_D _ (mW g cA N zz D R F KD KR RW OU WO ST WK CA (nI 0) kp rd wr ft) := hD
  refine lv_iconst (v := 0) hx hb dX3_hashRoot_5 (by decide) ?_
  refine lv_istore_n (lv' := [(1, .int 0), (0, .ref (g 0))]) hx hb dX3_hashRoot_6 rfl hl (by decide) rfl (fun ls hl => ?_)
  have loop_7 : ∀ (n_7 : Nat) (zi : Nat) (RWi : Nat → Int32), (8 - zi) < n_7 → (zi ≤ 8) → (Mrow zf RWi zi) → ∀ (H : Heap) (locs : List Loc) (ls : Array Slot), va_P G vwCl (mW g cA N zz D R F KD KR RWi OU WO ST WK CA (nI zi) kp rd wr ft) H → va_D (wA g 14 s.heap.size) (mW g cA N zz D R F KD KR RWi OU WO ST WK CA (nI zi) kp rd wr ft) → va_S (wA g 14 s.heap.size) s.heap H locs → lv_has ls 3 [(0, .ref (g 0)), (1, .int (nI zi))] → W p l e { frames := 4, cells := 0, slots := 0, locals := 97 } s m args below meth c H locs 0 0 Q (F0 m 7 ls []) := by
    intro n_7
    induction n_7 with
    | zero => intro zi RWi hm_7; exact absurd hm_7 (Nat.not_lt_zero _)
    | succ n_7 ih_7 =>
      intro zi RWi hm_7 hi hro H locs ls hP hD hS hl
      refine lv_iload_n hx hb dX3_hashRoot_7 rfl (lv_at hl 1 rfl) ?_
      refine lv_bipush (v := 8) hx hb dX3_hashRoot_8 (by decide) ?_
      refine lv_icmp_ge (tgt := 29) hx hb dX3_hashRoot_10 (by decide) (fun c_1 => ?_) (fun c_1 => ?_)
      · skip
        have c_1 : 8 ≤ zi := (nI_leI (a := 8) (b := zi) (by omega) (by omega)).mp c_1
        obtain rfl : zi = 8 := by omega
        have hl : lv_has ls 3 [(0, .ref (g 0)), (1, .int (nI 8))] := hl
        refine lv_aload_n hx hb dX3_hashRoot_29 rfl (lv_at hl 0 rfl) ?_
        refine lv_aload_n hx hb dX3_hashRoot_30 rfl (lv_at hl 0 rfl) ?_
        refine x_vi ⟨hx, hb, hml, hown, hts⟩ (c_X3_levelsOf l G cA tF tC g _ N hN zz D R F KD KR RWi OU WO ST WK CA (nI 8) kp rd wr ft ) (cwV 0 hts gX3_hashRoot_X3_levelsOf rfl rfl rfl (by decide +kernel) ⟨Nat.le_of_ble_eq_true rfl, Nat.le_of_ble_eq_true rfl⟩) hK hP hD hS hT rfl 0 3 rfl rfl rfl hl.1 rfl (Nat.le_of_ble_eq_true rfl) dX3_hashRoot_31 ⟨Nat.le_refl _, Nat.le_refl _⟩ (fun r_3 u H locs hp_2 hP hD hS => ?_)
        have hP : va_P G vwCl (mW g cA N zz D R F KD KR RWi OU WO ST WK CA (nI 8) kp rd wr ft) _ := hP
        have hD : va_D _ (mW g cA N zz D R F KD KR RWi OU WO ST WK CA (nI 8) kp rd wr ft) := hD
        have hp_2 : r_3 = nI (lvs N) := hp_2
        subst hp_2
        refine lv_iconst (v := 1) hx hb dX3_hashRoot_34 (by decide) ?_
        refine lv_isub hx hb dX3_hashRoot_35 ?_
        refine x_eqi (y := nI ((lvs N) - 1)) (pk_sub (a := lvs N) (b := 1) (by omega)) ?_
        refine lv_iconst (v := 0) hx hb dX3_hashRoot_36 (by decide) ?_
        refine x_vi ⟨hx, hb, hml, hown, hts⟩ (c_X3_placeOf l G cA tF tC g _ N hN zz D R F KD KR RWi OU WO ST WK CA (nI 8) kp rd wr ft (lvs N - 1) (0) (by omega)) (cwV 2 hts gX3_hashRoot_X3_placeOf rfl rfl rfl (by decide +kernel) ⟨Nat.le_of_ble_eq_true rfl, Nat.le_of_ble_eq_true rfl⟩) hK hP hD hS hT rfl 0 3 rfl rfl rfl hl.1 rfl (Nat.le_of_ble_eq_true rfl) dX3_hashRoot_37 ⟨Nat.le_refl _, Nat.le_refl _⟩ (fun r_5 u H locs hp_4 hP hD hS => ?_)
        have hP : va_P G vwCl (mW g cA N zz D R F KD KR RWi OU WO ST WK CA (nI 8) kp rd wr ft) _ := hP
        have hD : va_D _ (mW g cA N zz D R F KD KR RWi OU WO ST WK CA (nI 8) kp rd wr ft) := hD
        have hp_4 : r_5 = nI (plc N (lvs N - 1) 0) := hp_4
        subst hp_4
        refine lv_istore_n (lv' := [(1, .int (nI (plc N (lvs N - 1) 0))), (0, .ref (g 0))]) hx hb dX3_hashRoot_40 rfl hl (by decide) rfl (fun ls hl => ?_)
        refine lv_iconst (v := 0) hx hb dX3_hashRoot_41 (by decide) ?_
        refine lv_istore_n (lv' := [(2, .int 0), (1, .int (nI (plc N (lvs N - 1) 0))), (0, .ref (g 0))]) hx hb dX3_hashRoot_42 rfl hl (by decide) rfl (fun ls hl => ?_)
        have loop_43 : ∀ (n_43 : Nat) (zi : Nat) (RWi : Nat → Int32), (32 - zi) < n_43 → (zi ≤ 32) → (Mrow zf RWi (8 + zi)) → ∀ (H : Heap) (locs : List Loc) (ls : Array Slot), va_P G vwCl (mW g cA N zz D R F KD KR RWi OU WO ST WK CA (nI (8 + zi)) kp rd wr ft) H → va_D (wA g 14 s.heap.size) (mW g cA N zz D R F KD KR RWi OU WO ST WK CA (nI (8 + zi)) kp rd wr ft) → va_S (wA g 14 s.heap.size) s.heap H locs → lv_has ls 3 [(0, .ref (g 0)), (1, .int (nI (plc N (lvs N - 1) 0))), (2, .int (nI zi))] → W p l e { frames := 4, cells := 0, slots := 0, locals := 97 } s m args below meth c H locs 0 0 Q (F0 m 43 ls []) := by
          intro n_43
          induction n_43 with
          | zero => intro zi RWi hm_43; exact absurd hm_43 (Nat.not_lt_zero _)
          | succ n_43 ih_43 =>
            intro zi RWi hm_43 hi hro H locs ls hP hD hS hl
            refine lv_iload_n hx hb dX3_hashRoot_43 rfl (lv_at hl 2 rfl) ?_
            refine lv_bipush (v := 32) hx hb dX3_hashRoot_44 (by decide) ?_
            refine lv_icmp_ge (tgt := 67) hx hb dX3_hashRoot_46 (by decide) (fun c_6 => ?_) (fun c_6 => ?_)
            · skip
              have c_6 : 32 ≤ zi := (nI_leI (a := 32) (b := zi) (by omega) (by omega)).mp c_6
              obtain rfl : zi = 32 := by omega
              have hl : lv_has ls 3 [(0, .ref (g 0)), (1, .int (nI (plc N (lvs N - 1) 0))), (2, .int (nI 32))] := hl
              refine lv_aload_n hx hb dX3_hashRoot_67 rfl (lv_at hl 0 rfl) ?_
              refine x_vv ⟨hx, hb, hml, hown, hts⟩ (c_X3_hashRow l G cA tF tC g _ N hN zz D R F KD KR RWi OU WO ST WK CA kp rd wr ft 40 (rmsg N D) (by rw [← ef]; exact hro) (by omega)) (cwV 0 hts gX3_hashRoot_X3_hashRow rfl rfl rfl (by decide +kernel) ⟨Nat.le_of_ble_eq_true rfl, Nat.le_of_ble_eq_true rfl⟩) hK hP hD hS hT rfl 0 3 rfl rfl rfl hl.1 rfl (Nat.le_of_ble_eq_true rfl) dX3_hashRoot_68 ⟨Nat.le_refl _, Nat.le_refl _⟩ (fun u H locs hs6 hP hD hS => ?_)
              obtain ⟨RW6, OU6, WO6, ST6, WK6, ln6⟩ := u
              have hP : va_P G vwCl (mW g cA N zz D R F KD KR RW6 OU6 WO6 ST6 WK6 CA ln6 kp rd wr ft) _ := hP
              have hD : va_D _ (mW g cA N zz D R F KD KR RW6 OU6 WO6 ST6 WK6 CA ln6 kp rd wr ft) := hD
              exact hret (RW6, OU6, WO6, ST6, WK6, ln6) _ _ _ _ dX3_hashRoot_71 hP hD hS hs6
            · skip
              have c_6 : ¬ 32 ≤ zi := fun z => c_6 ((nI_leI (a := 32) (b := zi) (by omega) (by omega)).mpr z)
              refine lv_aload_n hx hb dX3_hashRoot_49 rfl (lv_at hl 0 rfl) ?_
              refine lv_aload_n hx hb dX3_hashRoot_50 rfl (lv_at hl 0 rfl) ?_
              refine va_get (D := G) (ci := 3) (v := .ref (g 3)) (C := RX3) (T := TX3) (N := 20) hx hb hts hinX3 hown hK hP 0 rfl rfl 4 (by decide) (hts (.fieldLink RX3 88 "SealedPagesModel" "disk" "[I") (by decide +kernel)) (fun _ h => h) rfl dX3_hashRoot_51 ?_
              refine lv_iload_n hx hb dX3_hashRoot_54 rfl (lv_at hl 1 rfl) ?_
              refine lv_iload_n hx hb dX3_hashRoot_55 rfl (lv_at hl 2 rfl) ?_
              refine lv_iadd hx hb dX3_hashRoot_56 ?_
              refine x_eqi (y := nI ((plc N (lvs N - 1) 0) + zi)) (nI_add (plc N (lvs N - 1) 0) zi) ?_
              refine x_ald (i := (plc N (lvs N - 1) 0) + zi) hx hb hK hP 3 0 rfl rfl (by omega) (by decide) dX3_hashRoot_57 ?_
              refine x_vv ⟨hx, hb, hml, hown, hts⟩ (c_X3_add l G cA tF tC g _ N hN zz D R F KD KR RWi OU WO ST WK CA kp rd wr ft (8 + zi) zf (D (plc N (lvs N - 1) 0 + zi)) hro (by rw [ef]; have h := rmsg_b (N := N) (D := D) (q := zi) (by omega); rw [Nat.zero_add] at h; rw [h]) (by omega)) (cwV 1 hts gX3_hashRoot_X3_add rfl rfl rfl (by decide +kernel) ⟨Nat.le_of_ble_eq_true rfl, Nat.le_of_ble_eq_true rfl⟩) hK hP hD hS hT rfl 0 3 rfl rfl rfl hl.1 rfl (Nat.le_of_ble_eq_true rfl) dX3_hashRoot_58 ⟨Nat.le_refl _, Nat.le_refl _⟩ (fun u H locs hro3 hP hD hS => ?_)
              obtain ⟨RW3, rfl⟩ : ∃ z, z = u := ⟨_, rfl⟩
              have hP : va_P G vwCl (mW g cA N zz D R F KD KR RW3 OU WO ST WK CA (nI (8 + (zi + 1))) kp rd wr ft) _ := hP
              have hD : va_D _ (mW g cA N zz D R F KD KR RW3 OU WO ST WK CA (nI (8 + (zi + 1))) kp rd wr ft) := hD
              refine lv_iinc (v := nI (zi + 1)) (lv' := [(2, .int (nI (zi + 1))), (0, .ref (g 0)), (1, .int (nI (plc N (lvs N - 1) 0)))]) hx hb dX3_hashRoot_61 hl (k := 2) rfl (nI_1 _) (by decide) rfl (fun ls hl => ?_)
              refine lv_goto (tgt := 43) hx hb dX3_hashRoot_64 (by decide) ?_
              exact ih_43 (zi + 1) RW3 (by omega) (by omega) hro3 _ _ _ hP hD hS (lv_sub hl [1, 2, 0] rfl)
        exact loop_43 _ 0 RWi (Nat.lt_succ_self _) (by omega) hro _ _ _ hP hD hS (lv_sub hl [2, 1, 0] rfl)
      · skip
        have c_1 : ¬ 8 ≤ zi := fun z => c_1 ((nI_leI (a := 8) (b := zi) (by omega) (by omega)).mpr z)
        refine lv_aload_n hx hb dX3_hashRoot_13 rfl (lv_at hl 0 rfl) ?_
        refine lv_aload_n hx hb dX3_hashRoot_14 rfl (lv_at hl 0 rfl) ?_
        refine va_get (D := G) (ci := 3) (v := .ref (g 3)) (C := RX3) (T := TX3) (N := 20) hx hb hts hinX3 hown hK hP 0 rfl rfl 4 (by decide) (hts (.fieldLink RX3 88 "SealedPagesModel" "disk" "[I") (by decide +kernel)) (fun _ h => h) rfl dX3_hashRoot_15 ?_
        refine lv_iload_n hx hb dX3_hashRoot_18 rfl (lv_at hl 1 rfl) ?_
        refine x_ald (i := zi) hx hb hK hP 3 0 rfl rfl (by omega) (by decide) dX3_hashRoot_19 ?_
        refine x_vv ⟨hx, hb, hml, hown, hts⟩ (c_X3_add l G cA tF tC g _ N hN zz D R F KD KR RWi OU WO ST WK CA kp rd wr ft (zi) zf (D zi) hro (by rw [ef]; have h := rmsg_a (N := N) (D := D) (q := zi) (by omega); rw [Nat.zero_add] at h; rw [h]) (by omega)) (cwV 1 hts gX3_hashRoot_X3_add rfl rfl rfl (by decide +kernel) ⟨Nat.le_of_ble_eq_true rfl, Nat.le_of_ble_eq_true rfl⟩) hK hP hD hS hT rfl 0 3 rfl rfl rfl hl.1 rfl (Nat.le_of_ble_eq_true rfl) dX3_hashRoot_20 ⟨Nat.le_refl _, Nat.le_refl _⟩ (fun u H locs hro3 hP hD hS => ?_)
        obtain ⟨RW3, rfl⟩ : ∃ z, z = u := ⟨_, rfl⟩
        have hP : va_P G vwCl (mW g cA N zz D R F KD KR RW3 OU WO ST WK CA (nI (zi + 1)) kp rd wr ft) _ := hP
        have hD : va_D _ (mW g cA N zz D R F KD KR RW3 OU WO ST WK CA (nI (zi + 1)) kp rd wr ft) := hD
        refine lv_iinc (v := nI (zi + 1)) (lv' := [(1, .int (nI (zi + 1))), (0, .ref (g 0))]) hx hb dX3_hashRoot_23 hl (k := 1) rfl (nI_1 _) (by decide) rfl (fun ls hl => ?_)
        refine lv_goto (tgt := 7) hx hb dX3_hashRoot_26 (by decide) ?_
        exact ih_7 (zi + 1) RW3 (by omega) (by omega) hro3 _ _ _ hP hD hS (lv_sub hl [1, 0] rfl)
  exact loop_7 _ 0 RW (Nat.lt_succ_self _) (by omega) (Mrow_0 zf RW) _ _ _ hP hD hS (lv_sub hl [1, 0] rfl)

set_option maxHeartbeats 4000000 in
set_option maxRecDepth 100000 in
theorem c_X3_isNode (l : Launch) (G : va_G) (cA : ClassId) (tF tC : Nat) (g : Nat → Nat) (sz N : Nat) (hN : 1 ≤ N ∧ N ≤ 64) (zz : Int32) (D R F KD KR RW OU WO ST WK CA : Nat → Int32) (ln kp rd wr ft : Int32) (ql qk : Nat) (hql : ql < lvs N) (hqk : qk < nod N ql) : CI l yX3_isNode wsX3_isNode 5 122 G cA tF tC g 14 sz (mW g cA N zz D R F KD KR RW OU WO ST WK CA ln kp rd wr ft) [.ref (g 0), .int (nI ql), .int (nI qk)] (fun (u : (Nat → Int32) × (Nat → Int32) × (Nat → Int32) × (Nat → Int32) × (Nat → Int32) × Int32) => mW g cA N zz D R F KD KR u.1 u.2.1 u.2.2.1 u.2.2.2.1 u.2.2.2.2.1 CA u.2.2.2.2.2 kp rd wr ft) (fun r _ => r = bI (nok N D ql qk)) := by
  refine x_entryZ (cc := cX3_isNode) (maxL := 6) (by decide) rfl (fun _ => rfl) (Nat.le_of_ble_eq_true rfl) ?_
  intro p e s m args below meth c Q hx hb hml hown hts hK hP hD hS hT hret ls hl
  have hown : s.vm.findClass RX3 = some m.cls := hown
  have hl : lv_has ls 6 [(0, .ref (g 0)), (1, .int (nI ql)), (2, .int (nI qk))] := hl
  have hinX3 : ∀ w ∈ wsX30, w ∈ wsX3_isNode := by decide +kernel
  have hz := siz_le hN
  have hse := siz_eq N
  have hnd := nds_le hN
  have hlv := lvs_in hN
  have hpl := plc_in hN hql hqk
  refine lv_aload_n hx hb dX3_isNode_0 rfl (lv_at hl 0 rfl) ?_
  refine lv_iload_n hx hb dX3_isNode_1 rfl (lv_at hl 1 rfl) ?_
  refine lv_iload_n hx hb dX3_isNode_2 rfl (lv_at hl 2 rfl) ?_
  refine x_vv ⟨hx, hb, hml, hown, hts⟩ (c_X3_hashNode l G cA tF tC g _ N hN zz D R F KD KR RW OU WO ST WK CA ln kp rd wr ft ql qk hql hqk) (cwV 2 hts gX3_isNode_X3_hashNode rfl rfl rfl (by decide +kernel) ⟨Nat.le_of_ble_eq_true rfl, Nat.le_of_ble_eq_true rfl⟩) hK hP hD hS hT rfl 0 3 rfl rfl rfl hl.1 rfl (Nat.le_of_ble_eq_true rfl) dX3_isNode_3 ⟨Nat.le_refl _, Nat.le_refl _⟩ (fun u H locs hs1 hP hD hS => ?_)
  obtain ⟨RW1, OU1, WO1, ST1, WK1, ln1⟩ := u
  have hP : va_P G vwCl (mW g cA N zz D R F KD KR RW1 OU1 WO1 ST1 WK1 CA ln1 kp rd wr ft) _ := hP
  have hD : va_D _ (mW g cA N zz D R F KD KR RW1 OU1 WO1 ST1 WK1 CA ln1 kp rd wr ft) := hD
  refine lv_aload_n hx hb dX3_isNode_6 rfl (lv_at hl 0 rfl) ?_
  refine lv_iload_n hx hb dX3_isNode_7 rfl (lv_at hl 1 rfl) ?_
  refine lv_iload_n hx hb dX3_isNode_8 rfl (lv_at hl 2 rfl) ?_
  refine x_vi ⟨hx, hb, hml, hown, hts⟩ (c_X3_placeOf l G cA tF tC g _ N hN zz D R F KD KR RW1 OU1 WO1 ST1 WK1 CA ln1 kp rd wr ft (ql) (qk) (by omega)) (cwV 2 hts gX3_isNode_X3_placeOf rfl rfl rfl (by decide +kernel) ⟨Nat.le_of_ble_eq_true rfl, Nat.le_of_ble_eq_true rfl⟩) hK hP hD hS hT rfl 0 3 rfl rfl rfl hl.1 rfl (Nat.le_of_ble_eq_true rfl) dX3_isNode_9 ⟨Nat.le_refl _, Nat.le_refl _⟩ (fun r_3 u H locs hp_2 hP hD hS => ?_)
  have hP : va_P G vwCl (mW g cA N zz D R F KD KR RW1 OU1 WO1 ST1 WK1 CA ln1 kp rd wr ft) _ := hP
  have hD : va_D _ (mW g cA N zz D R F KD KR RW1 OU1 WO1 ST1 WK1 CA ln1 kp rd wr ft) := hD
  have hp_2 : r_3 = nI (plc N ql qk) := hp_2
  subst hp_2
  refine lv_istore_n (lv' := [(3, .int (nI (plc N ql qk))), (0, .ref (g 0)), (1, .int (nI ql)), (2, .int (nI qk))]) hx hb dX3_isNode_12 rfl hl (by decide) rfl (fun ls hl => ?_)
  refine lv_iconst (v := 1) hx hb dX3_isNode_13 (by decide) ?_
  refine lv_istore (lv' := [(4, .int 1), (3, .int (nI (plc N ql qk))), (0, .ref (g 0)), (1, .int (nI ql)), (2, .int (nI qk))]) hx hb dX3_isNode_14 hl (by decide) rfl (fun ls hl => ?_)
  refine lv_iconst (v := 0) hx hb dX3_isNode_16 (by decide) ?_
  refine lv_istore (lv' := [(5, .int 0), (4, .int 1), (3, .int (nI (plc N ql qk))), (0, .ref (g 0)), (1, .int (nI ql)), (2, .int (nI qk))]) hx hb dX3_isNode_17 hl (by decide) rfl (fun ls hl => ?_)
  have loop_19 : ∀ (n_19 : Nat) (zj : Nat), (32 - zj) < n_19 → (zj ≤ 32) → ∀ (H : Heap) (locs : List Loc) (ls : Array Slot), va_P G vwCl (mW g cA N zz D R F KD KR RW1 OU1 WO1 ST1 WK1 CA ln1 kp rd wr ft) H → va_D (wA g 14 s.heap.size) (mW g cA N zz D R F KD KR RW1 OU1 WO1 ST1 WK1 CA ln1 kp rd wr ft) → va_S (wA g 14 s.heap.size) s.heap H locs → lv_has ls 6 [(0, .ref (g 0)), (1, .int (nI ql)), (2, .int (nI qk)), (3, .int (nI (plc N ql qk))), (4, .int (bI (eqN (fun zi => D (plc N ql qk + zi)) OU1  zj))), (5, .int (nI zj))] → W p l e { frames := 5, cells := 0, slots := 0, locals := 122 } s m args below meth c H locs 0 0 Q (F0 m 19 ls []) := by
    intro n_19
    induction n_19 with
    | zero => intro zj hm_19; exact absurd hm_19 (Nat.not_lt_zero _)
    | succ n_19 ih_19 =>
      intro zj hm_19 hj H locs ls hP hD hS hl
      refine lv_iload hx hb dX3_isNode_19 (lv_at hl 5 rfl) ?_
      refine lv_bipush (v := 32) hx hb dX3_isNode_21 (by decide) ?_
      refine lv_icmp_ge (tgt := 63) hx hb dX3_isNode_23 (by decide) (fun c_4 => ?_) (fun c_4 => ?_)
      · skip
        have c_4 : 32 ≤ zj := (nI_leI (a := 32) (b := zj) (by omega) (by omega)).mp c_4
        obtain rfl : zj = 32 := by omega
        have hl : lv_has ls 6 [(0, .ref (g 0)), (1, .int (nI ql)), (2, .int (nI qk)), (3, .int (nI (plc N ql qk))), (4, .int (bI (eqN (fun zi => D (plc N ql qk + zi)) OU1  32))), (5, .int (nI 32))] := hl
        refine lv_iload hx hb dX3_isNode_63 (lv_at hl 4 rfl) ?_
        exact hret _ (RW1, OU1, WO1, ST1, WK1, ln1) _ _ _ _ dX3_isNode_65 hP hD hS (bI_z _) (by rw [eqN_cong ag_rf hs1]; rfl)
      · skip
        have c_4 : ¬ 32 ≤ zj := fun z => c_4 ((nI_leI (a := 32) (b := zj) (by omega) (by omega)).mpr z)
        refine lv_iload hx hb dX3_isNode_26 (lv_at hl 4 rfl) ?_
        refine lv_if_eq (tgt := 54) hx hb dX3_isNode_28 (by decide) (fun c_5 => ?_) (fun c_5 => ?_)
        · skip
          have hb0 := bI_0 c_5
          refine lv_iconst (v := 0) hx hb dX3_isNode_54 (by decide) ?_
          refine x_eqi (y := bI (eqN (fun zi => D (plc N ql qk + zi)) OU1  (zj + 1))) (by rw [eqN_s]; first | (rw [hb0]; rfl) | (simp [hb1, hne, bI]) | (simp [hb1, heq, bI])) ?_
          refine lv_istore (lv' := [(4, .int (bI (eqN (fun zi => D (plc N ql qk + zi)) OU1  (zj + 1)))), (0, .ref (g 0)), (1, .int (nI ql)), (2, .int (nI qk)), (3, .int (nI (plc N ql qk))), (5, .int (nI zj))]) hx hb dX3_isNode_55 hl (by decide) rfl (fun ls hl => ?_)
          refine lv_iinc (v := nI (zj + 1)) (lv' := [(5, .int (nI (zj + 1))), (4, .int (bI (eqN (fun zi => D (plc N ql qk + zi)) OU1  (zj + 1)))), (0, .ref (g 0)), (1, .int (nI ql)), (2, .int (nI qk)), (3, .int (nI (plc N ql qk)))]) hx hb dX3_isNode_57 hl (k := 5) rfl (nI_1 _) (by decide) rfl (fun ls hl => ?_)
          refine lv_goto (tgt := 19) hx hb dX3_isNode_60 (by decide) ?_
          exact ih_19 (zj + 1) (by omega) (by omega) _ _ _ hP hD hS (lv_sub hl [2, 3, 4, 5, 1, 0] rfl)
        · skip
          have hb1 := bI_1 c_5
          refine lv_aload_n hx hb dX3_isNode_31 rfl (lv_at hl 0 rfl) ?_
          refine va_get (D := G) (ci := 3) (v := .ref (g 3)) (C := RX3) (T := TX3) (N := 20) hx hb hts hinX3 hown hK hP 0 rfl rfl 4 (by decide) (hts (.fieldLink RX3 88 "SealedPagesModel" "disk" "[I") (by decide +kernel)) (fun _ h => h) rfl dX3_isNode_32 ?_
          refine lv_iload_n hx hb dX3_isNode_35 rfl (lv_at hl 3 rfl) ?_
          refine lv_iload hx hb dX3_isNode_36 (lv_at hl 5 rfl) ?_
          refine lv_iadd hx hb dX3_isNode_38 ?_
          refine x_eqi (y := nI ((plc N ql qk) + zj)) (nI_add (plc N ql qk) zj) ?_
          refine x_ald (i := (plc N ql qk) + zj) hx hb hK hP 3 0 rfl rfl (by omega) (by decide) dX3_isNode_39 ?_
          refine lv_aload_n hx hb dX3_isNode_40 rfl (lv_at hl 0 rfl) ?_
          refine va_get (D := G) (ci := 3) (v := .ref (g 9)) (C := RX3) (T := TX3) (N := 20) hx hb hts hinX3 hown hK hP 0 rfl rfl 15 (by decide) (hts (.fieldLink RX3 106 "SealedPagesModel" "out" "[I") (by decide +kernel)) (fun _ h => h) rfl dX3_isNode_41 ?_
          refine lv_iload hx hb dX3_isNode_44 (lv_at hl 5 rfl) ?_
          refine x_ald (i := zj) hx hb hK hP 9 0 rfl rfl (by omega) (by decide) dX3_isNode_46 ?_
          refine lv_icmp_ne (tgt := 54) hx hb dX3_isNode_47 (by decide) (fun c_6 => ?_) (fun c_6 => ?_)
          · skip
            have hne := c_6
            refine lv_iconst (v := 0) hx hb dX3_isNode_54 (by decide) ?_
            refine x_eqi (y := bI (eqN (fun zi => D (plc N ql qk + zi)) OU1  (zj + 1))) (by rw [eqN_s]; first | (rw [hb0]; rfl) | (simp [hb1, hne, bI]) | (simp [hb1, heq, bI])) ?_
            refine lv_istore (lv' := [(4, .int (bI (eqN (fun zi => D (plc N ql qk + zi)) OU1  (zj + 1)))), (0, .ref (g 0)), (1, .int (nI ql)), (2, .int (nI qk)), (3, .int (nI (plc N ql qk))), (5, .int (nI zj))]) hx hb dX3_isNode_55 hl (by decide) rfl (fun ls hl => ?_)
            refine lv_iinc (v := nI (zj + 1)) (lv' := [(5, .int (nI (zj + 1))), (4, .int (bI (eqN (fun zi => D (plc N ql qk + zi)) OU1  (zj + 1)))), (0, .ref (g 0)), (1, .int (nI ql)), (2, .int (nI qk)), (3, .int (nI (plc N ql qk)))]) hx hb dX3_isNode_57 hl (k := 5) rfl (nI_1 _) (by decide) rfl (fun ls hl => ?_)
            refine lv_goto (tgt := 19) hx hb dX3_isNode_60 (by decide) ?_
            exact ih_19 (zj + 1) (by omega) (by omega) _ _ _ hP hD hS (lv_sub hl [2, 3, 4, 5, 1, 0] rfl)
          · skip
            have heq := c_6
            refine lv_iconst (v := 1) hx hb dX3_isNode_50 (by decide) ?_
            refine lv_goto (tgt := 55) hx hb dX3_isNode_51 (by decide) ?_
            refine x_eqi (y := bI (eqN (fun zi => D (plc N ql qk + zi)) OU1  (zj + 1))) (by rw [eqN_s]; first | (rw [hb0]; rfl) | (simp [hb1, hne, bI]) | (simp [hb1, heq, bI])) ?_
            refine lv_istore (lv' := [(4, .int (bI (eqN (fun zi => D (plc N ql qk + zi)) OU1  (zj + 1)))), (0, .ref (g 0)), (1, .int (nI ql)), (2, .int (nI qk)), (3, .int (nI (plc N ql qk))), (5, .int (nI zj))]) hx hb dX3_isNode_55 hl (by decide) rfl (fun ls hl => ?_)
            refine lv_iinc (v := nI (zj + 1)) (lv' := [(5, .int (nI (zj + 1))), (4, .int (bI (eqN (fun zi => D (plc N ql qk + zi)) OU1  (zj + 1)))), (0, .ref (g 0)), (1, .int (nI ql)), (2, .int (nI qk)), (3, .int (nI (plc N ql qk)))]) hx hb dX3_isNode_57 hl (k := 5) rfl (nI_1 _) (by decide) rfl (fun ls hl => ?_)
            refine lv_goto (tgt := 19) hx hb dX3_isNode_60 (by decide) ?_
            exact ih_19 (zj + 1) (by omega) (by omega) _ _ _ hP hD hS (lv_sub hl [2, 3, 4, 5, 1, 0] rfl)
  exact loop_19 _ 0 (Nat.lt_succ_self _) (by omega) _ _ _ hP hD hS (lv_sub hl [3, 4, 5, 2, 1, 0] rfl)

set_option maxHeartbeats 4000000 in
set_option maxRecDepth 100000 in
theorem c_X3_putNode (l : Launch) (G : va_G) (cA : ClassId) (tF tC : Nat) (g : Nat → Nat) (sz N : Nat) (hN : 1 ≤ N ∧ N ≤ 64) (zz : Int32) (D R F KD KR RW OU WO ST WK CA : Nat → Int32) (ln kp rd wr ft : Int32) (ql qk : Nat) (hql : ql < lvs N) (hqk : qk < nod N ql) : CV l yX3_putNode wsX3_putNode 5 122 G cA tF tC g 14 sz (mW g cA N zz D R F KD KR RW OU WO ST WK CA ln kp rd wr ft) [.ref (g 0), .int (nI ql), .int (nI qk)] (fun (u : (Nat → Int32) × (Nat → Int32) × (Nat → Int32) × (Nat → Int32) × (Nat → Int32) × Int32) => mW g cA N zz (sNode N D ql qk) R F KD KR u.1 u.2.1 u.2.2.1 u.2.2.2.1 u.2.2.2.2.1 CA u.2.2.2.2.2 kp rd wr ft) (fun _ => True) := by
  refine x_entryV (cc := cX3_putNode) (maxL := 5) (by decide) rfl (fun _ => rfl) (Nat.le_of_ble_eq_true rfl) ?_
  intro p e s m args below meth c Q hx hb hml hown hts hK hP hD hS hT hret ls hl
  have hown : s.vm.findClass RX3 = some m.cls := hown
  have hl : lv_has ls 5 [(0, .ref (g 0)), (1, .int (nI ql)), (2, .int (nI qk))] := hl
  have hinX3 : ∀ w ∈ wsX30, w ∈ wsX3_putNode := by decide +kernel
  have hz := siz_le hN
  have hse := siz_eq N
  have hnd := nds_le hN
  have hlv := lvs_in hN
  have hpl := plc_in hN hql hqk
  refine lv_aload_n hx hb dX3_putNode_0 rfl (lv_at hl 0 rfl) ?_
  refine lv_iload_n hx hb dX3_putNode_1 rfl (lv_at hl 1 rfl) ?_
  refine lv_iload_n hx hb dX3_putNode_2 rfl (lv_at hl 2 rfl) ?_
  refine x_vv ⟨hx, hb, hml, hown, hts⟩ (c_X3_hashNode l G cA tF tC g _ N hN zz D R F KD KR RW OU WO ST WK CA ln kp rd wr ft ql qk hql hqk) (cwV 2 hts gX3_putNode_X3_hashNode rfl rfl rfl (by decide +kernel) ⟨Nat.le_of_ble_eq_true rfl, Nat.le_of_ble_eq_true rfl⟩) hK hP hD hS hT rfl 0 3 rfl rfl rfl hl.1 rfl (Nat.le_of_ble_eq_true rfl) dX3_putNode_3 ⟨Nat.le_refl _, Nat.le_refl _⟩ (fun u H locs hs1 hP hD hS => ?_)
  obtain ⟨RW1, OU1, WO1, ST1, WK1, ln1⟩ := u
  have hP : va_P G vwCl (mW g cA N zz D R F KD KR RW1 OU1 WO1 ST1 WK1 CA ln1 kp rd wr ft) _ := hP
  have hD : va_D _ (mW g cA N zz D R F KD KR RW1 OU1 WO1 ST1 WK1 CA ln1 kp rd wr ft) := hD
  refine lv_aload_n hx hb dX3_putNode_6 rfl (lv_at hl 0 rfl) ?_
  refine lv_iload_n hx hb dX3_putNode_7 rfl (lv_at hl 1 rfl) ?_
  refine lv_iload_n hx hb dX3_putNode_8 rfl (lv_at hl 2 rfl) ?_
  refine x_vi ⟨hx, hb, hml, hown, hts⟩ (c_X3_placeOf l G cA tF tC g _ N hN zz D R F KD KR RW1 OU1 WO1 ST1 WK1 CA ln1 kp rd wr ft (ql) (qk) (by omega)) (cwV 2 hts gX3_putNode_X3_placeOf rfl rfl rfl (by decide +kernel) ⟨Nat.le_of_ble_eq_true rfl, Nat.le_of_ble_eq_true rfl⟩) hK hP hD hS hT rfl 0 3 rfl rfl rfl hl.1 rfl (Nat.le_of_ble_eq_true rfl) dX3_putNode_9 ⟨Nat.le_refl _, Nat.le_refl _⟩ (fun r_3 u H locs hp_2 hP hD hS => ?_)
  have hP : va_P G vwCl (mW g cA N zz D R F KD KR RW1 OU1 WO1 ST1 WK1 CA ln1 kp rd wr ft) _ := hP
  have hD : va_D _ (mW g cA N zz D R F KD KR RW1 OU1 WO1 ST1 WK1 CA ln1 kp rd wr ft) := hD
  have hp_2 : r_3 = nI (plc N ql qk) := hp_2
  subst hp_2
  refine lv_istore_n (lv' := [(3, .int (nI (plc N ql qk))), (0, .ref (g 0)), (1, .int (nI ql)), (2, .int (nI qk))]) hx hb dX3_putNode_12 rfl hl (by decide) rfl (fun ls hl => ?_)
  refine lv_iconst (v := 0) hx hb dX3_putNode_13 (by decide) ?_
  refine lv_istore (lv' := [(4, .int 0), (3, .int (nI (plc N ql qk))), (0, .ref (g 0)), (1, .int (nI ql)), (2, .int (nI qk))]) hx hb dX3_putNode_14 hl (by decide) rfl (fun ls hl => ?_)
  have loop_16 : ∀ (n_16 : Nat) (zj : Nat), (32 - zj) < n_16 → (zj ≤ 32) → ∀ (H : Heap) (locs : List Loc) (ls : Array Slot), va_P G vwCl (mW g cA N zz (va_cpy OU1 D 0 (plc N ql qk) zj) R F KD KR RW1 OU1 WO1 ST1 WK1 CA ln1 kp rd wr ft) H → va_D (wA g 14 s.heap.size) (mW g cA N zz (va_cpy OU1 D 0 (plc N ql qk) zj) R F KD KR RW1 OU1 WO1 ST1 WK1 CA ln1 kp rd wr ft) → va_S (wA g 14 s.heap.size) s.heap H locs → lv_has ls 5 [(0, .ref (g 0)), (1, .int (nI ql)), (2, .int (nI qk)), (3, .int (nI (plc N ql qk))), (4, .int (nI zj))] → W p l e { frames := 5, cells := 0, slots := 0, locals := 122 } s m args below meth c H locs 0 0 Q (F0 m 16 ls []) := by
    intro n_16
    induction n_16 with
    | zero => intro zj hm_16; exact absurd hm_16 (Nat.not_lt_zero _)
    | succ n_16 ih_16 =>
      intro zj hm_16 hj H locs ls hP hD hS hl
      refine lv_iload hx hb dX3_putNode_16 (lv_at hl 4 rfl) ?_
      refine lv_bipush (v := 32) hx hb dX3_putNode_18 (by decide) ?_
      refine lv_icmp_ge (tgt := 45) hx hb dX3_putNode_20 (by decide) (fun c_4 => ?_) (fun c_4 => ?_)
      · skip
        have c_4 : 32 ≤ zj := (nI_leI (a := 32) (b := zj) (by omega) (by omega)).mp c_4
        obtain rfl : zj = 32 := by omega
        have hl : lv_has ls 5 [(0, .ref (g 0)), (1, .int (nI ql)), (2, .int (nI qk)), (3, .int (nI (plc N ql qk))), (4, .int (nI 32))] := hl
        have ec_5 : va_cpy OU1 D 0 (plc N ql qk) 32 = sNode N D ql qk := cpy_ag (fun q hq => by rw [Nat.zero_add]; exact hs1 q hq)
        rw [show mW g cA N zz (va_cpy OU1 D 0 (plc N ql qk) 32) R F KD KR RW1 OU1 WO1 ST1 WK1 CA ln1 kp rd wr ft = mW g cA N zz (sNode N D ql qk) R F KD KR RW1 OU1 WO1 ST1 WK1 CA ln1 kp rd wr ft from by rw [← ec_5]] at hP hD
        exact hret (RW1, OU1, WO1, ST1, WK1, ln1) _ _ _ _ dX3_putNode_45 hP hD hS trivial
      · skip
        have c_4 : ¬ 32 ≤ zj := fun z => c_4 ((nI_leI (a := 32) (b := zj) (by omega) (by omega)).mpr z)
        refine lv_aload_n hx hb dX3_putNode_23 rfl (lv_at hl 0 rfl) ?_
        refine va_get (D := G) (ci := 3) (v := .ref (g 3)) (C := RX3) (T := TX3) (N := 20) hx hb hts hinX3 hown hK hP 0 rfl rfl 4 (by decide) (hts (.fieldLink RX3 88 "SealedPagesModel" "disk" "[I") (by decide +kernel)) (fun _ h => h) rfl dX3_putNode_24 ?_
        refine lv_iload_n hx hb dX3_putNode_27 rfl (lv_at hl 3 rfl) ?_
        refine lv_iload hx hb dX3_putNode_28 (lv_at hl 4 rfl) ?_
        refine lv_iadd hx hb dX3_putNode_30 ?_
        refine x_eqi (y := nI ((plc N ql qk) + zj)) (nI_add (plc N ql qk) zj) ?_
        refine lv_aload_n hx hb dX3_putNode_31 rfl (lv_at hl 0 rfl) ?_
        refine va_get (D := G) (ci := 3) (v := .ref (g 9)) (C := RX3) (T := TX3) (N := 20) hx hb hts hinX3 hown hK hP 0 rfl rfl 15 (by decide) (hts (.fieldLink RX3 106 "SealedPagesModel" "out" "[I") (by decide +kernel)) (fun _ h => h) rfl dX3_putNode_32 ?_
        refine lv_iload hx hb dX3_putNode_35 (lv_at hl 4 rfl) ?_
        refine x_ald (i := zj) hx hb hK hP 9 0 rfl rfl (by omega) (by decide) dX3_putNode_37 ?_
        refine x_ast (i := (plc N ql qk) + zj) hx hb hK hP hD hS 3 0 rfl rfl (by omega) (by decide) dX3_putNode_38 (fun H locs hP hD hS => ?_)
        have hP : va_P G vwCl (mW g cA N zz (upd (va_cpy OU1 D 0 (plc N ql qk) zj) ((plc N ql qk) + zj) (OU1 zj)) R F KD KR RW1 OU1 WO1 ST1 WK1 CA ln1 kp rd wr ft) _ := hP
        have hD : va_D _ (mW g cA N zz (upd (va_cpy OU1 D 0 (plc N ql qk) zj) ((plc N ql qk) + zj) (OU1 zj)) R F KD KR RW1 OU1 WO1 ST1 WK1 CA ln1 kp rd wr ft) := hD
        have ec_6 : upd (va_cpy OU1 D 0 (plc N ql qk) zj) ((plc N ql qk) + zj) (OU1 zj) = va_cpy OU1 D 0 (plc N ql qk) (zj + 1) := by have h := cpy_s OU1 D 0 (plc N ql qk) zj; rwa [Nat.zero_add] at h
        rw [show mW g cA N zz (upd (va_cpy OU1 D 0 (plc N ql qk) zj) ((plc N ql qk) + zj) (OU1 zj)) R F KD KR RW1 OU1 WO1 ST1 WK1 CA ln1 kp rd wr ft = mW g cA N zz (va_cpy OU1 D 0 (plc N ql qk) (zj + 1)) R F KD KR RW1 OU1 WO1 ST1 WK1 CA ln1 kp rd wr ft from by rw [← ec_6]] at hP hD
        refine lv_iinc (v := nI (zj + 1)) (lv' := [(4, .int (nI (zj + 1))), (0, .ref (g 0)), (1, .int (nI ql)), (2, .int (nI qk)), (3, .int (nI (plc N ql qk)))]) hx hb dX3_putNode_39 hl (k := 4) rfl (nI_1 _) (by decide) rfl (fun ls hl => ?_)
        refine lv_goto (tgt := 16) hx hb dX3_putNode_42 (by decide) ?_
        exact ih_16 (zj + 1) (by omega) (by omega) _ _ _ hP hD hS (lv_sub hl [1, 2, 3, 4, 0] rfl)
  rw [← cpy_0 OU1 D 0 (plc N ql qk)] at hP hD
  exact loop_16 _ 0 (Nat.lt_succ_self _) (by omega) _ _ _ hP hD hS (lv_sub hl [2, 3, 4, 1, 0] rfl)

set_option maxHeartbeats 4000000 in
set_option maxRecDepth 100000 in
theorem c_X3_putRoot (l : Launch) (G : va_G) (cA : ClassId) (tF tC : Nat) (g : Nat → Nat) (sz N : Nat) (hN : 1 ≤ N ∧ N ≤ 64) (zz : Int32) (D R F KD KR RW OU WO ST WK CA : Nat → Int32) (ln kp rd wr ft : Int32)  : CV l yX3_putRoot wsX3_putRoot 5 119 G cA tF tC g 14 sz (mW g cA N zz D R F KD KR RW OU WO ST WK CA ln kp rd wr ft) [.ref (g 0)] (fun (u : (Nat → Int32) × (Nat → Int32) × (Nat → Int32) × (Nat → Int32) × (Nat → Int32) × Int32) => mW g cA N zz D (sRoot N D R) F KD KR u.1 u.2.1 u.2.2.1 u.2.2.2.1 u.2.2.2.2.1 CA u.2.2.2.2.2 kp rd wr ft) (fun _ => True) := by
  refine x_entryV (cc := cX3_putRoot) (maxL := 2) (by decide) rfl (fun _ => rfl) (Nat.le_of_ble_eq_true rfl) ?_
  intro p e s m args below meth c Q hx hb hml hown hts hK hP hD hS hT hret ls hl
  have hown : s.vm.findClass RX3 = some m.cls := hown
  have hl : lv_has ls 2 [(0, .ref (g 0))] := hl
  have hinX3 : ∀ w ∈ wsX30, w ∈ wsX3_putRoot := by decide +kernel
  refine lv_aload_n hx hb dX3_putRoot_0 rfl (lv_at hl 0 rfl) ?_
  refine x_vv ⟨hx, hb, hml, hown, hts⟩ (c_X3_hashRoot l G cA tF tC g _ N hN zz D R F KD KR RW OU WO ST WK CA ln kp rd wr ft ) (cwV 0 hts gX3_putRoot_X3_hashRoot rfl rfl rfl (by decide +kernel) ⟨Nat.le_of_ble_eq_true rfl, Nat.le_of_ble_eq_true rfl⟩) hK hP hD hS hT rfl 0 3 rfl rfl rfl hl.1 rfl (Nat.le_of_ble_eq_true rfl) dX3_putRoot_1 ⟨Nat.le_refl _, Nat.le_refl _⟩ (fun u H locs hs1 hP hD hS => ?_)
  obtain ⟨RW1, OU1, WO1, ST1, WK1, ln1⟩ := u
  have hP : va_P G vwCl (mW g cA N zz D R F KD KR RW1 OU1 WO1 ST1 WK1 CA ln1 kp rd wr ft) _ := hP
  have hD : va_D _ (mW g cA N zz D R F KD KR RW1 OU1 WO1 ST1 WK1 CA ln1 kp rd wr ft) := hD
  refine lv_iconst (v := 0) hx hb dX3_putRoot_4 (by decide) ?_
  refine lv_istore_n (lv' := [(1, .int 0), (0, .ref (g 0))]) hx hb dX3_putRoot_5 rfl hl (by decide) rfl (fun ls hl => ?_)
  have loop_6 : ∀ (n_6 : Nat) (zj : Nat), (32 - zj) < n_6 → (zj ≤ 32) → ∀ (H : Heap) (locs : List Loc) (ls : Array Slot), va_P G vwCl (mW g cA N zz D (va_cpy OU1 R 0 0 zj) F KD KR RW1 OU1 WO1 ST1 WK1 CA ln1 kp rd wr ft) H → va_D (wA g 14 s.heap.size) (mW g cA N zz D (va_cpy OU1 R 0 0 zj) F KD KR RW1 OU1 WO1 ST1 WK1 CA ln1 kp rd wr ft) → va_S (wA g 14 s.heap.size) s.heap H locs → lv_has ls 2 [(0, .ref (g 0)), (1, .int (nI zj))] → W p l e { frames := 5, cells := 0, slots := 0, locals := 119 } s m args below meth c H locs 0 0 Q (F0 m 6 ls []) := by
    intro n_6
    induction n_6 with
    | zero => intro zj hm_6; exact absurd hm_6 (Nat.not_lt_zero _)
    | succ n_6 ih_6 =>
      intro zj hm_6 hj H locs ls hP hD hS hl
      refine lv_iload_n hx hb dX3_putRoot_6 rfl (lv_at hl 1 rfl) ?_
      refine lv_bipush (v := 32) hx hb dX3_putRoot_7 (by decide) ?_
      refine lv_icmp_ge (tgt := 30) hx hb dX3_putRoot_9 (by decide) (fun c_2 => ?_) (fun c_2 => ?_)
      · skip
        have c_2 : 32 ≤ zj := (nI_leI (a := 32) (b := zj) (by omega) (by omega)).mp c_2
        obtain rfl : zj = 32 := by omega
        have hl : lv_has ls 2 [(0, .ref (g 0)), (1, .int (nI 32))] := hl
        have ec_3 : va_cpy OU1 R 0 0 32 = sRoot N D R := cpy_ag (fun q hq => by rw [Nat.zero_add]; exact hs1 q hq)
        rw [show mW g cA N zz D (va_cpy OU1 R 0 0 32) F KD KR RW1 OU1 WO1 ST1 WK1 CA ln1 kp rd wr ft = mW g cA N zz D (sRoot N D R) F KD KR RW1 OU1 WO1 ST1 WK1 CA ln1 kp rd wr ft from by rw [← ec_3]] at hP hD
        exact hret (RW1, OU1, WO1, ST1, WK1, ln1) _ _ _ _ dX3_putRoot_30 hP hD hS trivial
      · skip
        have c_2 : ¬ 32 ≤ zj := fun z => c_2 ((nI_leI (a := 32) (b := zj) (by omega) (by omega)).mpr z)
        refine lv_aload_n hx hb dX3_putRoot_12 rfl (lv_at hl 0 rfl) ?_
        refine va_get (D := G) (ci := 3) (v := .ref (g 4)) (C := RX3) (T := TX3) (N := 20) hx hb hts hinX3 hown hK hP 0 rfl rfl 5 (by decide) (hts (.fieldLink RX3 91 "SealedPagesModel" "root" "[I") (by decide +kernel)) (fun _ h => h) rfl dX3_putRoot_13 ?_
        refine lv_iload_n hx hb dX3_putRoot_16 rfl (lv_at hl 1 rfl) ?_
        refine lv_aload_n hx hb dX3_putRoot_17 rfl (lv_at hl 0 rfl) ?_
        refine va_get (D := G) (ci := 3) (v := .ref (g 9)) (C := RX3) (T := TX3) (N := 20) hx hb hts hinX3 hown hK hP 0 rfl rfl 15 (by decide) (hts (.fieldLink RX3 106 "SealedPagesModel" "out" "[I") (by decide +kernel)) (fun _ h => h) rfl dX3_putRoot_18 ?_
        refine lv_iload_n hx hb dX3_putRoot_21 rfl (lv_at hl 1 rfl) ?_
        refine x_ald (i := zj) hx hb hK hP 9 0 rfl rfl (by omega) (by decide) dX3_putRoot_22 ?_
        refine x_ast (i := zj) hx hb hK hP hD hS 4 0 rfl rfl (by omega) (by decide) dX3_putRoot_23 (fun H locs hP hD hS => ?_)
        have hP : va_P G vwCl (mW g cA N zz D (upd (va_cpy OU1 R 0 0 zj) zj (OU1 zj)) F KD KR RW1 OU1 WO1 ST1 WK1 CA ln1 kp rd wr ft) _ := hP
        have hD : va_D _ (mW g cA N zz D (upd (va_cpy OU1 R 0 0 zj) zj (OU1 zj)) F KD KR RW1 OU1 WO1 ST1 WK1 CA ln1 kp rd wr ft) := hD
        have ec_4 : upd (va_cpy OU1 R 0 0 zj) zj (OU1 zj) = va_cpy OU1 R 0 0 (zj + 1) := by have h := cpy_s OU1 R 0 0 zj; rwa [Nat.zero_add] at h
        rw [show mW g cA N zz D (upd (va_cpy OU1 R 0 0 zj) zj (OU1 zj)) F KD KR RW1 OU1 WO1 ST1 WK1 CA ln1 kp rd wr ft = mW g cA N zz D (va_cpy OU1 R 0 0 (zj + 1)) F KD KR RW1 OU1 WO1 ST1 WK1 CA ln1 kp rd wr ft from by rw [← ec_4]] at hP hD
        refine lv_iinc (v := nI (zj + 1)) (lv' := [(1, .int (nI (zj + 1))), (0, .ref (g 0))]) hx hb dX3_putRoot_24 hl (k := 1) rfl (nI_1 _) (by decide) rfl (fun ls hl => ?_)
        refine lv_goto (tgt := 6) hx hb dX3_putRoot_27 (by decide) ?_
        exact ih_6 (zj + 1) (by omega) (by omega) _ _ _ hP hD hS (lv_sub hl [1, 0] rfl)
  rw [← cpy_0 OU1 R 0 0] at hP hD
  exact loop_6 _ 0 (Nat.lt_succ_self _) (by omega) _ _ _ hP hD hS (lv_sub hl [1, 0] rfl)

set_option maxHeartbeats 4000000 in
set_option maxRecDepth 100000 in
theorem c_X3_nodeOn (l : Launch) (G : va_G) (cA : ClassId) (tF tC : Nat) (g : Nat → Nat) (sz N : Nat) (hN : 1 ≤ N ∧ N ≤ 64) (zz : Int32) (D R F KD KR RW OU WO ST WK CA : Nat → Int32) (ln kp rd wr ft : Int32) (p0 ql : Nat) (hp0 : p0 < 64) (hql : ql ≤ 7) : CI l yX3_nodeOn wsX3_nodeOn 0 0 G cA tF tC g 14 sz (mW g cA N zz D R F KD KR RW OU WO ST WK CA ln kp rd wr ft) [.ref (g 0), .int (nI p0), .int (nI ql)] (fun (u : Unit) => mW g cA N zz D R F KD KR RW OU WO ST WK CA ln kp rd wr ft) (fun r _ => r = nI (p0 / 2 ^ ql)) := by
  refine x_entryI (cc := cX3_nodeOn) (maxL := 5) (by decide) rfl (fun _ => rfl) (Nat.le_of_ble_eq_true rfl) ?_
  intro p e s m args below meth c Q hx hb hml hown hts hK hP hD hS hT hret ls hl
  have hown : s.vm.findClass RX3 = some m.cls := hown
  have hl : lv_has ls 5 [(0, .ref (g 0)), (1, .int (nI p0)), (2, .int (nI ql))] := hl
  refine lv_iload_n hx hb dX3_nodeOn_0 rfl (lv_at hl 1 rfl) ?_
  refine lv_istore_n (lv' := [(3, .int (nI p0)), (0, .ref (g 0)), (1, .int (nI p0)), (2, .int (nI ql))]) hx hb dX3_nodeOn_1 rfl hl (by decide) rfl (fun ls hl => ?_)
  refine lv_iconst (v := 0) hx hb dX3_nodeOn_2 (by decide) ?_
  refine lv_istore (lv' := [(4, .int 0), (3, .int (nI p0)), (0, .ref (g 0)), (1, .int (nI p0)), (2, .int (nI ql))]) hx hb dX3_nodeOn_3 hl (by decide) rfl (fun ls hl => ?_)
  have hl : lv_has ls 5 [(4, .int 0), (3, .int (nI (p0 / 2 ^ 0))), (0, .ref (g 0)), (1, .int (nI p0)), (2, .int (nI ql))] := by rw [Nat.pow_zero, Nat.div_one]; exact hl
  have loop_5 : ∀ (n_5 : Nat) (zj : Nat), (ql - zj) < n_5 → (zj ≤ ql) → ∀ (H : Heap) (locs : List Loc) (ls : Array Slot), va_P G vwCl (mW g cA N zz D R F KD KR RW OU WO ST WK CA ln kp rd wr ft) H → va_D (wA g 14 s.heap.size) (mW g cA N zz D R F KD KR RW OU WO ST WK CA ln kp rd wr ft) → va_S (wA g 14 s.heap.size) s.heap H locs → lv_has ls 5 [(0, .ref (g 0)), (1, .int (nI p0)), (2, .int (nI ql)), (3, .int (nI (p0 / 2 ^ zj))), (4, .int (nI zj))] → W p l e { frames := 0, cells := 0, slots := 0, locals := 0 } s m args below meth c H locs 0 0 Q (F0 m 5 ls []) := by
    intro n_5
    induction n_5 with
    | zero => intro zj hm_5; exact absurd hm_5 (Nat.not_lt_zero _)
    | succ n_5 ih_5 =>
      intro zj hm_5 hj H locs ls hP hD hS hl
      have hpw : p0 / 2 ^ zj ≤ p0 := Nat.div_le_self _ _
      refine lv_iload hx hb dX3_nodeOn_5 (lv_at hl 4 rfl) ?_
      refine lv_iload_n hx hb dX3_nodeOn_7 rfl (lv_at hl 2 rfl) ?_
      refine lv_icmp_ge (tgt := 21) hx hb dX3_nodeOn_8 (by decide) (fun c_1 => ?_) (fun c_1 => ?_)
      · skip
        have c_1 : ql ≤ zj := (nI_leI (a := ql) (b := zj) (by omega) (by omega)).mp c_1
        obtain rfl : ql = zj := by omega
        have hl : lv_has ls 5 [(0, .ref (g 0)), (1, .int (nI p0)), (2, .int (nI ql)), (3, .int (nI (p0 / 2 ^ ql))), (4, .int (nI ql))] := hl
        refine lv_iload_n hx hb dX3_nodeOn_21 rfl (lv_at hl 3 rfl) ?_
        exact hret _ () _ _ _ _ dX3_nodeOn_22 hP hD hS rfl
      · skip
        have c_1 : ¬ ql ≤ zj := fun z => c_1 ((nI_leI (a := ql) (b := zj) (by omega) (by omega)).mpr z)
        refine lv_iload_n hx hb dX3_nodeOn_11 rfl (lv_at hl 3 rfl) ?_
        refine lv_iconst (v := 2) hx hb dX3_nodeOn_12 (by decide) ?_
        refine lv_idiv hx hb dX3_nodeOn_13 (by decide) ?_
        refine x_eqi (y := nI ((p0 / 2 ^ zj) / 2)) (pk_div (a := p0 / 2 ^ zj) (d := 2) (by omega) (by omega) (by omega)) ?_
        refine x_eqi (y := nI (p0 / 2 ^ (zj + 1))) (by rw [Nat.pow_succ, ← Nat.div_div_eq_div_mul]) ?_
        refine lv_istore_n (lv' := [(3, .int (nI (p0 / 2 ^ (zj + 1)))), (0, .ref (g 0)), (1, .int (nI p0)), (2, .int (nI ql)), (4, .int (nI zj))]) hx hb dX3_nodeOn_14 rfl hl (by decide) rfl (fun ls hl => ?_)
        refine lv_iinc (v := nI (zj + 1)) (lv' := [(4, .int (nI (zj + 1))), (3, .int (nI (p0 / 2 ^ (zj + 1)))), (0, .ref (g 0)), (1, .int (nI p0)), (2, .int (nI ql))]) hx hb dX3_nodeOn_15 hl (k := 4) rfl (nI_1 _) (by decide) rfl (fun ls hl => ?_)
        refine lv_goto (tgt := 5) hx hb dX3_nodeOn_18 (by decide) ?_
        exact ih_5 (zj + 1) (by omega) (by omega) _ _ _ hP hD hS (lv_sub hl [2, 3, 4, 1, 0] rfl)
  exact loop_5 _ 0 (Nat.lt_succ_self _) (by omega) _ _ _ hP hD hS (lv_sub hl [2, 3, 4, 1, 0] rfl)

set_option maxHeartbeats 4000000 in
set_option maxRecDepth 100000 in
theorem c_X3_faultOf (l : Launch) (G : va_G) (cA : ClassId) (tF tC : Nat) (g : Nat → Nat) (sz N : Nat) (hN : 1 ≤ N ∧ N ≤ 64) (zz : Int32) (D R F KD KR RW OU WO ST WK CA : Nat → Int32) (ln kp rd wr ft : Int32) (p0 : Nat) (hp0 : p0 < N) : CI l yX3_faultOf wsX3_faultOf 6 147 G cA tF tC g 14 sz (mW g cA N zz D R F KD KR RW OU WO ST WK CA ln kp rd wr ft) [.ref (g 0), .int (nI p0)] (fun (u : (Nat → Int32) × (Nat → Int32) × (Nat → Int32) × (Nat → Int32) × (Nat → Int32) × Int32) => mW g cA N zz D R F KD KR u.1 u.2.1 u.2.2.1 u.2.2.2.1 u.2.2.2.2.1 CA u.2.2.2.2.2 kp rd wr ft) (fun r _ => r = nI (flt N D R p0)) := by
  refine x_entryI (cc := cX3_faultOf) (maxL := 3) (by decide) rfl (fun _ => rfl) (Nat.le_of_ble_eq_true rfl) ?_
  intro p e s m args below meth c Q hx hb hml hown hts hK hP hD hS hT hret ls hl
  have hown : s.vm.findClass RX3 = some m.cls := hown
  have hl : lv_has ls 3 [(0, .ref (g 0)), (1, .int (nI p0))] := hl
  have hinX3 : ∀ w ∈ wsX30, w ∈ wsX3_faultOf := by decide +kernel
  have hz := siz_le hN
  have hse := siz_eq N
  have hnd := nds_le hN
  have hlv := lvs_in hN
  refine lv_iconst (v := 0) hx hb dX3_faultOf_0 (by decide) ?_
  refine lv_istore_n (lv' := [(2, .int 0), (0, .ref (g 0)), (1, .int (nI p0))]) hx hb dX3_faultOf_1 rfl hl (by decide) rfl (fun ls hl => ?_)
  have loop_2 : ∀ (n_2 : Nat) (zi : Nat), (8 - zi) < n_2 → (zi ≤ 8) → (eqN D (hed N) zi = true) → ∀ (H : Heap) (locs : List Loc) (ls : Array Slot), va_P G vwCl (mW g cA N zz D R F KD KR RW OU WO ST WK CA ln kp rd wr ft) H → va_D (wA g 14 s.heap.size) (mW g cA N zz D R F KD KR RW OU WO ST WK CA ln kp rd wr ft) → va_S (wA g 14 s.heap.size) s.heap H locs → lv_has ls 3 [(0, .ref (g 0)), (1, .int (nI p0)), (2, .int (nI zi))] → W p l e { frames := 6, cells := 0, slots := 0, locals := 147 } s m args below meth c H locs 0 0 Q (F0 m 2 ls []) := by
    intro n_2
    induction n_2 with
    | zero => intro zi hm_2; exact absurd hm_2 (Nat.not_lt_zero _)
    | succ n_2 ih_2 =>
      intro zi hm_2 hi he H locs ls hP hD hS hl
      refine lv_iload_n hx hb dX3_faultOf_2 rfl (lv_at hl 2 rfl) ?_
      refine lv_bipush (v := 8) hx hb dX3_faultOf_3 (by decide) ?_
      refine lv_icmp_ge (tgt := 30) hx hb dX3_faultOf_5 (by decide) (fun c_1 => ?_) (fun c_1 => ?_)
      · skip
        have c_1 : 8 ≤ zi := (nI_leI (a := 8) (b := zi) (by omega) (by omega)).mp c_1
        obtain rfl : zi = 8 := by omega
        have hhok : hok N D = true := he
        have hl : lv_has ls 3 [(0, .ref (g 0)), (1, .int (nI p0)), (2, .int (nI 8))] := hl
        refine lv_aload_n hx hb dX3_faultOf_30 rfl (lv_at hl 0 rfl) ?_
        refine x_vv ⟨hx, hb, hml, hown, hts⟩ (c_X3_hashRoot l G cA tF tC g _ N hN zz D R F KD KR RW OU WO ST WK CA ln kp rd wr ft ) (cwV 0 hts gX3_faultOf_X3_hashRoot rfl rfl rfl (by decide +kernel) ⟨Nat.le_of_ble_eq_true rfl, Nat.le_of_ble_eq_true rfl⟩) hK hP hD hS hT rfl 0 3 rfl rfl rfl hl.1 rfl (Nat.le_of_ble_eq_true rfl) dX3_faultOf_31 ⟨Nat.le_refl _, Nat.le_refl _⟩ (fun u H locs hs1 hP hD hS => ?_)
        obtain ⟨RW1, OU1, WO1, ST1, WK1, ln1⟩ := u
        have hP : va_P G vwCl (mW g cA N zz D R F KD KR RW1 OU1 WO1 ST1 WK1 CA ln1 kp rd wr ft) _ := hP
        have hD : va_D _ (mW g cA N zz D R F KD KR RW1 OU1 WO1 ST1 WK1 CA ln1 kp rd wr ft) := hD
        refine lv_iconst (v := 0) hx hb dX3_faultOf_34 (by decide) ?_
        refine lv_istore_n (lv' := [(2, .int 0), (0, .ref (g 0)), (1, .int (nI p0))]) hx hb dX3_faultOf_35 rfl hl (by decide) rfl (fun ls hl => ?_)
        have loop_36 : ∀ (n_36 : Nat) (zi : Nat), (32 - zi) < n_36 → (zi ≤ 32) → (eqN R OU1 zi = true) → ∀ (H : Heap) (locs : List Loc) (ls : Array Slot), va_P G vwCl (mW g cA N zz D R F KD KR RW1 OU1 WO1 ST1 WK1 CA ln1 kp rd wr ft) H → va_D (wA g 14 s.heap.size) (mW g cA N zz D R F KD KR RW1 OU1 WO1 ST1 WK1 CA ln1 kp rd wr ft) → va_S (wA g 14 s.heap.size) s.heap H locs → lv_has ls 3 [(0, .ref (g 0)), (1, .int (nI p0)), (2, .int (nI zi))] → W p l e { frames := 6, cells := 0, slots := 0, locals := 147 } s m args below meth c H locs 0 0 Q (F0 m 36 ls []) := by
          intro n_36
          induction n_36 with
          | zero => intro zi hm_36; exact absurd hm_36 (Nat.not_lt_zero _)
          | succ n_36 ih_36 =>
            intro zi hm_36 hi he H locs ls hP hD hS hl
            refine lv_iload_n hx hb dX3_faultOf_36 rfl (lv_at hl 2 rfl) ?_
            refine lv_bipush (v := 32) hx hb dX3_faultOf_37 (by decide) ?_
            refine lv_icmp_ge (tgt := 65) hx hb dX3_faultOf_39 (by decide) (fun c_3 => ?_) (fun c_3 => ?_)
            · skip
              have c_3 : 32 ≤ zi := (nI_leI (a := 32) (b := zi) (by omega) (by omega)).mp c_3
              obtain rfl : zi = 32 := by omega
              have hrok : rok N D R = true := by have h := eqN_cong (f := R) (f' := R) ag_rf hs1; rw [he] at h; exact h.symm
              have hl : lv_has ls 3 [(0, .ref (g 0)), (1, .int (nI p0)), (2, .int (nI 32))] := hl
              refine lv_aload_n hx hb dX3_faultOf_65 rfl (lv_at hl 0 rfl) ?_
              refine x_vi ⟨hx, hb, hml, hown, hts⟩ (c_X3_levelsOf l G cA tF tC g _ N hN zz D R F KD KR RW1 OU1 WO1 ST1 WK1 CA ln1 kp rd wr ft ) (cwV 0 hts gX3_faultOf_X3_levelsOf rfl rfl rfl (by decide +kernel) ⟨Nat.le_of_ble_eq_true rfl, Nat.le_of_ble_eq_true rfl⟩) hK hP hD hS hT rfl 0 3 rfl rfl rfl hl.1 rfl (Nat.le_of_ble_eq_true rfl) dX3_faultOf_66 ⟨Nat.le_refl _, Nat.le_refl _⟩ (fun r_5 u H locs hp_4 hP hD hS => ?_)
              have hP : va_P G vwCl (mW g cA N zz D R F KD KR RW1 OU1 WO1 ST1 WK1 CA ln1 kp rd wr ft) _ := hP
              have hD : va_D _ (mW g cA N zz D R F KD KR RW1 OU1 WO1 ST1 WK1 CA ln1 kp rd wr ft) := hD
              have hp_4 : r_5 = nI (lvs N) := hp_4
              subst hp_4
              refine lv_iconst (v := 1) hx hb dX3_faultOf_69 (by decide) ?_
              refine lv_isub hx hb dX3_faultOf_70 ?_
              refine x_eqi (y := nI (lvs N) - 1) rfl ?_
              refine lv_istore_n (lv' := [(2, .int (nI (lvs N) - 1)), (0, .ref (g 0)), (1, .int (nI p0))]) hx hb dX3_faultOf_71 rfl hl (by decide) rfl (fun ls hl => ?_)
              have loop_72 : ∀ (n_72 : Nat) (zl : Nat) (RWz : Nat → Int32) (OUz : Nat → Int32) (WOz : Nat → Int32) (STz : Nat → Int32) (WKz : Nat → Int32) (lnz : Int32), zl < n_72 → (zl ≤ lvs N) → (flt N D R p0 = fltL N D p0 zl) → ∀ (H : Heap) (locs : List Loc) (ls : Array Slot), va_P G vwCl (mW g cA N zz D R F KD KR RWz OUz WOz STz WKz CA lnz kp rd wr ft) H → va_D (wA g 14 s.heap.size) (mW g cA N zz D R F KD KR RWz OUz WOz STz WKz CA lnz kp rd wr ft) → va_S (wA g 14 s.heap.size) s.heap H locs → lv_has ls 3 [(0, .ref (g 0)), (1, .int (nI p0)), (2, .int (nI zl - 1))] → W p l e { frames := 6, cells := 0, slots := 0, locals := 147 } s m args below meth c H locs 0 0 Q (F0 m 72 ls []) := by
                intro n_72
                induction n_72 with
                | zero => intro zl RWz OUz WOz STz WKz lnz hm_72; exact absurd hm_72 (Nat.not_lt_zero _)
                | succ n_72 ih_72 =>
                  intro zl RWz OUz WOz STz WKz lnz hm_72 hzl hfl H locs ls hP hD hS hl
                  refine lv_iload_n hx hb dX3_faultOf_72 rfl (lv_at hl 2 rfl) ?_
                  refine lv_if_lt (tgt := 100) hx hb dX3_faultOf_73 (by decide) (fun c_6 => ?_) (fun c_6 => ?_)
                  · skip
                    have h0 : zl = 0 := zl_0 (by omega) c_6
                    have hc9 : 0 = nI (flt N D R p0) := by rw [hfl, h0]; rfl
                    refine lv_iconst (v := 0) hx hb dX3_faultOf_100 (by decide) ?_
                    exact hret _ (RWz, OUz, WOz, STz, WKz, lnz) _ _ _ _ dX3_faultOf_101 hP hD hS hc9
                  · skip
                    obtain ⟨zm, rfl⟩ := zl_s c_6
                    have hpw : p0 / 2 ^ zm ≤ p0 := Nat.div_le_self _ _
                    have hl : lv_has ls 3 [(0, .ref (g 0)), (1, .int (nI p0)), (2, .int (nI (zm + 1) - 1))] := hl
                    have hl : lv_has ls 3 [(0, .ref (g 0)), (1, .int (nI p0)), (2, .int (nI zm))] := by rw [nI_pred] at hl; exact hl
                    refine lv_aload_n hx hb dX3_faultOf_76 rfl (lv_at hl 0 rfl) ?_
                    refine lv_iload_n hx hb dX3_faultOf_77 rfl (lv_at hl 2 rfl) ?_
                    refine lv_aload_n hx hb dX3_faultOf_78 rfl (lv_at hl 0 rfl) ?_
                    refine lv_iload_n hx hb dX3_faultOf_79 rfl (lv_at hl 1 rfl) ?_
                    refine lv_iload_n hx hb dX3_faultOf_80 rfl (lv_at hl 2 rfl) ?_
                    refine x_vi ⟨hx, hb, hml, hown, hts⟩ (c_X3_nodeOn l G cA tF tC g _ N hN zz D R F KD KR RWz OUz WOz STz WKz CA lnz kp rd wr ft p0 zm (by omega) (by omega)) (cwV 2 hts gX3_faultOf_X3_nodeOn rfl rfl rfl (by decide +kernel) ⟨Nat.le_of_ble_eq_true rfl, Nat.le_of_ble_eq_true rfl⟩) hK hP hD hS hT rfl 0 3 rfl rfl rfl hl.1 rfl (Nat.le_of_ble_eq_true rfl) dX3_faultOf_81 ⟨Nat.le_refl _, Nat.le_refl _⟩ (fun r_8 u H locs hp_7 hP hD hS => ?_)
                    have hP : va_P G vwCl (mW g cA N zz D R F KD KR RWz OUz WOz STz WKz CA lnz kp rd wr ft) _ := hP
                    have hD : va_D _ (mW g cA N zz D R F KD KR RWz OUz WOz STz WKz CA lnz kp rd wr ft) := hD
                    have hp_7 : r_8 = nI (p0 / 2 ^ zm) := hp_7
                    subst hp_7
                    refine x_vi ⟨hx, hb, hml, hown, hts⟩ (c_X3_isNode l G cA tF tC g _ N hN zz D R F KD KR RWz OUz WOz STz WKz CA lnz kp rd wr ft zm (p0 / 2 ^ zm) (by omega) (way_in hp0 zm)) (cwV 2 hts gX3_faultOf_X3_isNode rfl rfl rfl (by decide +kernel) ⟨Nat.le_of_ble_eq_true rfl, Nat.le_of_ble_eq_true rfl⟩) hK hP hD hS hT rfl 0 3 rfl rfl rfl hl.1 rfl (Nat.le_of_ble_eq_true rfl) dX3_faultOf_84 ⟨Nat.le_refl _, Nat.le_refl _⟩ (fun r_9 u H locs hp2 hP hD hS => ?_)
                    obtain ⟨RW2, OU2, WO2, ST2, WK2, ln2⟩ := u
                    have hP : va_P G vwCl (mW g cA N zz D R F KD KR RW2 OU2 WO2 ST2 WK2 CA ln2 kp rd wr ft) _ := hP
                    have hD : va_D _ (mW g cA N zz D R F KD KR RW2 OU2 WO2 ST2 WK2 CA ln2 kp rd wr ft) := hD
                    have hp2 : r_9 = bI (nok N D zm (p0 / 2 ^ zm)) := hp2
                    subst hp2
                    refine lv_if_ne (tgt := 94) hx hb dX3_faultOf_87 (by decide) (fun c_10 => ?_) (fun c_10 => ?_)
                    · skip
                      have hno := bI_1 c_10
                      refine lv_iinc (v := nI zm - 1) (lv' := [(2, .int (nI zm - 1)), (0, .ref (g 0)), (1, .int (nI p0))]) hx hb dX3_faultOf_94 hl (k := 2) rfl (dec_1 _) (by decide) rfl (fun ls hl => ?_)
                      refine lv_goto (tgt := 72) hx hb dX3_faultOf_97 (by decide) ?_
                      exact ih_72 zm RW2 OU2 WO2 ST2 WK2 ln2 (by omega) (by omega) (by rw [hfl]; show (if nok N D zm (p0 / 2 ^ zm) then fltL N D p0 zm else 3 + zm) = _; rw [if_pos hno]) _ _ _ hP hD hS (lv_sub hl [1, 2, 0] rfl)
                    · skip
                      have hno := bI_0 c_10
                      refine lv_iconst (v := 3) hx hb dX3_faultOf_90 (by decide) ?_
                      refine lv_iload_n hx hb dX3_faultOf_91 rfl (lv_at hl 2 rfl) ?_
                      refine lv_iadd hx hb dX3_faultOf_92 ?_
                      refine x_eqi (y := nI (3 + zm)) (nI_add 3 zm) ?_
                      exact hret _ (RW2, OU2, WO2, ST2, WK2, ln2) _ _ _ _ dX3_faultOf_93 hP hD hS (by rw [hfl]; show _ = nI (if nok N D zm (p0 / 2 ^ zm) then fltL N D p0 zm else 3 + zm); rw [hno]; rfl)
              exact loop_72 _ (lvs N) RW1 OU1 WO1 ST1 WK1 ln1 (Nat.lt_succ_self _) (by omega) (flt_0 p0 hhok hrok) _ _ _ hP hD hS (lv_sub hl [1, 2, 0] rfl)
            · skip
              have c_3 : ¬ 32 ≤ zi := fun z => c_3 ((nI_leI (a := 32) (b := zi) (by omega) (by omega)).mpr z)
              refine lv_aload_n hx hb dX3_faultOf_42 rfl (lv_at hl 0 rfl) ?_
              refine va_get (D := G) (ci := 3) (v := .ref (g 4)) (C := RX3) (T := TX3) (N := 20) hx hb hts hinX3 hown hK hP 0 rfl rfl 5 (by decide) (hts (.fieldLink RX3 91 "SealedPagesModel" "root" "[I") (by decide +kernel)) (fun _ h => h) rfl dX3_faultOf_43 ?_
              refine lv_iload_n hx hb dX3_faultOf_46 rfl (lv_at hl 2 rfl) ?_
              refine x_ald (i := zi) hx hb hK hP 4 0 rfl rfl (by omega) (by decide) dX3_faultOf_47 ?_
              refine lv_aload_n hx hb dX3_faultOf_48 rfl (lv_at hl 0 rfl) ?_
              refine va_get (D := G) (ci := 3) (v := .ref (g 9)) (C := RX3) (T := TX3) (N := 20) hx hb hts hinX3 hown hK hP 0 rfl rfl 15 (by decide) (hts (.fieldLink RX3 106 "SealedPagesModel" "out" "[I") (by decide +kernel)) (fun _ h => h) rfl dX3_faultOf_49 ?_
              refine lv_iload_n hx hb dX3_faultOf_52 rfl (lv_at hl 2 rfl) ?_
              refine x_ald (i := zi) hx hb hK hP 9 0 rfl rfl (by omega) (by decide) dX3_faultOf_53 ?_
              refine lv_icmp_eq (tgt := 59) hx hb dX3_faultOf_54 (by decide) (fun c_11 => ?_) (fun c_11 => ?_)
              · skip
                have hc := c_11
                refine lv_iinc (v := nI (zi + 1)) (lv' := [(2, .int (nI (zi + 1))), (0, .ref (g 0)), (1, .int (nI p0))]) hx hb dX3_faultOf_59 hl (k := 2) rfl (nI_1 _) (by decide) rfl (fun ls hl => ?_)
                refine lv_goto (tgt := 36) hx hb dX3_faultOf_62 (by decide) ?_
                exact ih_36 (zi + 1) (by omega) (by omega) (by rw [eqN_s, he]; simp [hc]) _ _ _ hP hD hS (lv_sub hl [1, 2, 0] rfl)
              · skip
                have hc := c_11
                refine lv_iconst (v := 2) hx hb dX3_faultOf_57 (by decide) ?_
                exact hret _ (RW1, OU1, WO1, ST1, WK1, ln1) _ _ _ _ dX3_faultOf_58 hP hD hS (by rw [flt_2 p0 hhok (by have h := eqN_cong (f := R) (f' := R) ag_rf hs1; rw [eqN_no (f := R) (h := OU1) hc (show zi < 32 by omega)] at h; exact h.symm)]; rfl)
        exact loop_36 _ 0 (Nat.lt_succ_self _) (by omega) rfl _ _ _ hP hD hS (lv_sub hl [1, 2, 0] rfl)
      · skip
        have c_1 : ¬ 8 ≤ zi := fun z => c_1 ((nI_leI (a := 8) (b := zi) (by omega) (by omega)).mpr z)
        refine lv_aload_n hx hb dX3_faultOf_8 rfl (lv_at hl 0 rfl) ?_
        refine va_get (D := G) (ci := 3) (v := .ref (g 3)) (C := RX3) (T := TX3) (N := 20) hx hb hts hinX3 hown hK hP 0 rfl rfl 4 (by decide) (hts (.fieldLink RX3 88 "SealedPagesModel" "disk" "[I") (by decide +kernel)) (fun _ h => h) rfl dX3_faultOf_9 ?_
        refine lv_iload_n hx hb dX3_faultOf_12 rfl (lv_at hl 2 rfl) ?_
        refine x_ald (i := zi) hx hb hK hP 3 0 rfl rfl (by omega) (by decide) dX3_faultOf_13 ?_
        refine lv_aload_n hx hb dX3_faultOf_14 rfl (lv_at hl 0 rfl) ?_
        refine lv_iload_n hx hb dX3_faultOf_15 rfl (lv_at hl 2 rfl) ?_
        refine x_vi ⟨hx, hb, hml, hown, hts⟩ (c_X3_headOf l G cA tF tC g _ N hN zz D R F KD KR RW OU WO ST WK CA ln kp rd wr ft zi (by omega)) (cwV 1 hts gX3_faultOf_X3_headOf rfl rfl rfl (by decide +kernel) ⟨Nat.le_of_ble_eq_true rfl, Nat.le_of_ble_eq_true rfl⟩) hK hP hD hS hT rfl 0 3 rfl rfl rfl hl.1 rfl (Nat.le_of_ble_eq_true rfl) dX3_faultOf_16 ⟨Nat.le_refl _, Nat.le_refl _⟩ (fun r_13 u H locs hp_12 hP hD hS => ?_)
        have hP : va_P G vwCl (mW g cA N zz D R F KD KR RW OU WO ST WK CA ln kp rd wr ft) _ := hP
        have hD : va_D _ (mW g cA N zz D R F KD KR RW OU WO ST WK CA ln kp rd wr ft) := hD
        have hp_12 : r_13 = hed N zi := hp_12
        subst hp_12
        refine lv_icmp_eq (tgt := 24) hx hb dX3_faultOf_19 (by decide) (fun c_14 => ?_) (fun c_14 => ?_)
        · skip
          have hc := c_14
          refine lv_iinc (v := nI (zi + 1)) (lv' := [(2, .int (nI (zi + 1))), (0, .ref (g 0)), (1, .int (nI p0))]) hx hb dX3_faultOf_24 hl (k := 2) rfl (nI_1 _) (by decide) rfl (fun ls hl => ?_)
          refine lv_goto (tgt := 2) hx hb dX3_faultOf_27 (by decide) ?_
          exact ih_2 (zi + 1) (by omega) (by omega) (by rw [eqN_s, he]; simp [hc]) _ _ _ hP hD hS (lv_sub hl [1, 2, 0] rfl)
        · skip
          have hc := c_14
          refine lv_iconst (v := 1) hx hb dX3_faultOf_22 (by decide) ?_
          exact hret _ (RW, OU, WO, ST, WK, ln) _ _ _ _ dX3_faultOf_23 hP hD hS (by rw [flt_1 p0 (eqN_no (f := D) (h := hed N) hc (show zi < 8 by omega))]; rfl)
  exact loop_2 _ 0 (Nat.lt_succ_self _) (by omega) rfl _ _ _ hP hD hS (lv_sub hl [1, 2, 0] rfl)

set_option maxHeartbeats 4000000 in
set_option maxRecDepth 100000 in
theorem c_X3_besideOf (l : Launch) (G : va_G) (cA : ClassId) (tF tC : Nat) (g : Nat → Nat) (sz N : Nat) (hN : 1 ≤ N ∧ N ≤ 64) (zz : Int32) (D R F KD KR RW OU WO ST WK CA : Nat → Int32) (ln kp rd wr ft : Int32) (p0 ql : Nat) (hp0 : p0 < N) (hql : ql < lvs N) : CI l yX3_besideOf wsX3_besideOf 1 24 G cA tF tC g 14 sz (mW g cA N zz D R F KD KR RW OU WO ST WK CA ln kp rd wr ft) [.ref (g 0), .int (nI p0), .int (nI ql)] (fun (u : Unit) => mW g cA N zz D R F KD KR RW OU WO ST WK CA ln kp rd wr ft) (fun r _ => r = bsdI N p0 ql) := by
  refine x_entryI (cc := cX3_besideOf) (maxL := 5) (by decide) rfl (fun _ => rfl) (Nat.le_of_ble_eq_true rfl) ?_
  intro p e s m args below meth c Q hx hb hml hown hts hK hP hD hS hT hret ls hl
  have hown : s.vm.findClass RX3 = some m.cls := hown
  have hl : lv_has ls 5 [(0, .ref (g 0)), (1, .int (nI p0)), (2, .int (nI ql))] := hl
  have hz := siz_le hN
  have hse := siz_eq N
  have hnd := nds_le hN
  have hlv := lvs_in hN
  have hpw : p0 / 2 ^ ql ≤ p0 := Nat.div_le_self _ _
  have hbl := bsd_lt (p := p0) (l := ql) (by omega)
  have hnk := nod_le N hN.1 ql
  refine lv_aload_n hx hb dX3_besideOf_0 rfl (lv_at hl 0 rfl) ?_
  refine lv_iload_n hx hb dX3_besideOf_1 rfl (lv_at hl 1 rfl) ?_
  refine lv_iload_n hx hb dX3_besideOf_2 rfl (lv_at hl 2 rfl) ?_
  refine x_vi ⟨hx, hb, hml, hown, hts⟩ (c_X3_nodeOn l G cA tF tC g _ N hN zz D R F KD KR RW OU WO ST WK CA ln kp rd wr ft p0 ql (by omega) (by omega)) (cwV 2 hts gX3_besideOf_X3_nodeOn rfl rfl rfl (by decide +kernel) ⟨Nat.le_of_ble_eq_true rfl, Nat.le_of_ble_eq_true rfl⟩) hK hP hD hS hT rfl 0 3 rfl rfl rfl hl.1 rfl (Nat.le_of_ble_eq_true rfl) dX3_besideOf_3 ⟨Nat.le_refl _, Nat.le_refl _⟩ (fun r_2 u H locs hp_1 hP hD hS => ?_)
  have hP : va_P G vwCl (mW g cA N zz D R F KD KR RW OU WO ST WK CA ln kp rd wr ft) _ := hP
  have hD : va_D _ (mW g cA N zz D R F KD KR RW OU WO ST WK CA ln kp rd wr ft) := hD
  have hp_1 : r_2 = nI (p0 / 2 ^ ql) := hp_1
  subst hp_1
  refine lv_istore_n (lv' := [(3, .int (nI (p0 / 2 ^ ql))), (0, .ref (g 0)), (1, .int (nI p0)), (2, .int (nI ql))]) hx hb dX3_besideOf_6 rfl hl (by decide) rfl (fun ls hl => ?_)
  refine lv_iload_n hx hb dX3_besideOf_7 rfl (lv_at hl 0 rfl) ?_
  refine lv_iconst (v := 2) hx hb dX3_besideOf_8 (by decide) ?_
  refine lv_irem hx hb dX3_besideOf_9 (by decide) ?_
  refine x_eqi (y := nI ((p0 / 2 ^ ql) % 2)) (pk_rem (a := p0 / 2 ^ ql) (d := 2) (by omega) (by omega) (by omega)) ?_
  refine lv_if_ne (tgt := 19) hx hb dX3_besideOf_10 (by decide) (fun c_3 => ?_) (fun c_3 => ?_)
  · skip
    have c_3 : ¬ ((p0 / 2 ^ ql) % 2) = 0 := fun z => c_3 ((nI_eq (a := ((p0 / 2 ^ ql) % 2)) (b := 0) (by omega) (by omega)).mpr z)
    have hc0 := c_3
    have hc2 : 1 ≤ p0 / 2 ^ ql := ge1 c_3
    refine lv_iload_n hx hb dX3_besideOf_19 rfl (lv_at hl 0 rfl) ?_
    refine lv_iconst (v := 1) hx hb dX3_besideOf_20 (by decide) ?_
    refine lv_isub hx hb dX3_besideOf_21 ?_
    refine x_eqi (y := nI (p0 / 2 ^ ql - 1)) (pk_sub (a := p0 / 2 ^ ql) (b := 1) hc2) ?_
    refine x_eqi (y := nI (bsd p0 ql)) (by unfold bsd; first | rw [if_pos hc1] | rw [if_neg hc0]) ?_
    refine lv_istore (lv' := [(4, .int (nI (bsd p0 ql))), (3, .int (nI (p0 / 2 ^ ql))), (0, .ref (g 0)), (1, .int (nI p0)), (2, .int (nI ql))]) hx hb dX3_besideOf_22 hl (by decide) rfl (fun ls hl => ?_)
    refine lv_iload hx hb dX3_besideOf_24 (lv_at hl 0 rfl) ?_
    refine lv_aload_n hx hb dX3_besideOf_26 rfl (lv_at hl 2 rfl) ?_
    refine lv_iload_n hx hb dX3_besideOf_27 rfl (lv_at hl 4 rfl) ?_
    refine x_vi ⟨hx, hb, hml, hown, hts⟩ (c_X3_nodesOf l G cA tF tC g _ N hN zz D R F KD KR RW OU WO ST WK CA ln kp rd wr ft (ql) (by omega)) (cwV 1 hts gX3_besideOf_X3_nodesOf rfl rfl rfl (by decide +kernel) ⟨Nat.le_of_ble_eq_true rfl, Nat.le_of_ble_eq_true rfl⟩) hK hP hD hS hT rfl 0 3 rfl rfl rfl hl.1 rfl (Nat.le_of_ble_eq_true rfl) dX3_besideOf_28 ⟨Nat.le_refl _, Nat.le_refl _⟩ (fun r_5 u H locs hp_4 hP hD hS => ?_)
    have hP : va_P G vwCl (mW g cA N zz D R F KD KR RW OU WO ST WK CA ln kp rd wr ft) _ := hP
    have hD : va_D _ (mW g cA N zz D R F KD KR RW OU WO ST WK CA ln kp rd wr ft) := hD
    have hp_4 : r_5 = nI (nod N ql) := hp_4
    subst hp_4
    refine lv_icmp_ge (tgt := 39) hx hb dX3_besideOf_31 (by decide) (fun c_6 => ?_) (fun c_6 => ?_)
    · skip
      have c_6 : (nod N ql) ≤ (bsd p0 ql) := (nI_leI (a := (nod N ql)) (b := (bsd p0 ql)) (by omega) (by omega)).mp c_6
      have hc : -1 = bsdI N p0 ql := by unfold bsdI; rw [if_neg (by omega)]
      refine lv_iconst (v := (-1)) hx hb dX3_besideOf_39 (by decide) ?_
      exact hret _ () _ _ _ _ dX3_besideOf_40 hP hD hS hc
    · skip
      have c_6 : ¬ (nod N ql) ≤ (bsd p0 ql) := fun z => c_6 ((nI_leI (a := (nod N ql)) (b := (bsd p0 ql)) (by omega) (by omega)).mpr z)
      have hc : nI (bsd p0 ql) = bsdI N p0 ql := by unfold bsdI; rw [if_pos (by omega)]
      refine lv_iload hx hb dX3_besideOf_34 (lv_at hl 0 rfl) ?_
      refine lv_goto (tgt := 40) hx hb dX3_besideOf_36 (by decide) ?_
      exact hret _ () _ _ _ _ dX3_besideOf_40 hP hD hS hc
  · skip
    have c_3 : ((p0 / 2 ^ ql) % 2) = 0 := (nI_eq (a := ((p0 / 2 ^ ql) % 2)) (b := 0) (by omega) (by omega)).mp c_3
    have hc1 := c_3
    refine lv_iload_n hx hb dX3_besideOf_13 rfl (lv_at hl 0 rfl) ?_
    refine lv_iconst (v := 1) hx hb dX3_besideOf_14 (by decide) ?_
    refine lv_iadd hx hb dX3_besideOf_15 ?_
    refine x_eqi (y := nI ((p0 / 2 ^ ql) + 1)) (nI_add (p0 / 2 ^ ql) 1) ?_
    refine lv_goto (tgt := 22) hx hb dX3_besideOf_16 (by decide) ?_
    refine x_eqi (y := nI (bsd p0 ql)) (by unfold bsd; first | rw [if_pos hc1] | rw [if_neg hc0]) ?_
    refine lv_istore (lv' := [(4, .int (nI (bsd p0 ql))), (3, .int (nI (p0 / 2 ^ ql))), (0, .ref (g 0)), (1, .int (nI p0)), (2, .int (nI ql))]) hx hb dX3_besideOf_22 hl (by decide) rfl (fun ls hl => ?_)
    refine lv_iload hx hb dX3_besideOf_24 (lv_at hl 0 rfl) ?_
    refine lv_aload_n hx hb dX3_besideOf_26 rfl (lv_at hl 2 rfl) ?_
    refine lv_iload_n hx hb dX3_besideOf_27 rfl (lv_at hl 4 rfl) ?_
    refine x_vi ⟨hx, hb, hml, hown, hts⟩ (c_X3_nodesOf l G cA tF tC g _ N hN zz D R F KD KR RW OU WO ST WK CA ln kp rd wr ft (ql) (by omega)) (cwV 1 hts gX3_besideOf_X3_nodesOf rfl rfl rfl (by decide +kernel) ⟨Nat.le_of_ble_eq_true rfl, Nat.le_of_ble_eq_true rfl⟩) hK hP hD hS hT rfl 0 3 rfl rfl rfl hl.1 rfl (Nat.le_of_ble_eq_true rfl) dX3_besideOf_28 ⟨Nat.le_refl _, Nat.le_refl _⟩ (fun r_8 u H locs hp_7 hP hD hS => ?_)
    have hP : va_P G vwCl (mW g cA N zz D R F KD KR RW OU WO ST WK CA ln kp rd wr ft) _ := hP
    have hD : va_D _ (mW g cA N zz D R F KD KR RW OU WO ST WK CA ln kp rd wr ft) := hD
    have hp_7 : r_8 = nI (nod N ql) := hp_7
    subst hp_7
    refine lv_icmp_ge (tgt := 39) hx hb dX3_besideOf_31 (by decide) (fun c_9 => ?_) (fun c_9 => ?_)
    · skip
      have c_9 : (nod N ql) ≤ (bsd p0 ql) := (nI_leI (a := (nod N ql)) (b := (bsd p0 ql)) (by omega) (by omega)).mp c_9
      have hc : -1 = bsdI N p0 ql := by unfold bsdI; rw [if_neg (by omega)]
      refine lv_iconst (v := (-1)) hx hb dX3_besideOf_39 (by decide) ?_
      exact hret _ () _ _ _ _ dX3_besideOf_40 hP hD hS hc
    · skip
      have c_9 : ¬ (nod N ql) ≤ (bsd p0 ql) := fun z => c_9 ((nI_leI (a := (nod N ql)) (b := (bsd p0 ql)) (by omega) (by omega)).mpr z)
      have hc : nI (bsd p0 ql) = bsdI N p0 ql := by unfold bsdI; rw [if_pos (by omega)]
      refine lv_iload hx hb dX3_besideOf_34 (lv_at hl 0 rfl) ?_
      refine lv_goto (tgt := 40) hx hb dX3_besideOf_36 (by decide) ?_
      exact hret _ () _ _ _ _ dX3_besideOf_40 hP hD hS hc
