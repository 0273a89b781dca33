set_option maxHeartbeats 4000000 in
set_option maxRecDepth 100000 in
theorem c_X3_put (l : Launch) (G : va_G) (cA : ClassId) (tF tC : Nat) (g : Nat → Nat) (sz N : Nat) (hN : 1 ≤ N ∧ N ≤ 64) (D R F KD KR RW OU WO ST WK CA : Nat → Int32) (ln kp rd wr ft : Int32) (x v : Int32) : CI l yX3_put wsX3_put 0 0 G cA tF tC g 14 sz (mW g cA N (nI (siz N)) D R F KD KR RW OU WO ST WK CA ln kp rd wr ft) [.ref (g 0), .int x, .int v] (fun (u : Unit) => mW g cA N (nI (siz N)) D R (s_put F x v) KD KR RW OU WO ST WK CA ln kp rd wr ft) (fun r _ => r = a_at F 64 x) := by
  refine x_entryI (cc := cX3_put) (maxL := 4) (by decide) rfl (fun _ => rfl) (Nat.le_of_ble_eq_true rfl) ?_
  intro p e s m args below meth c Q hx hb hml hown hts hK hP hD hS hT hret ls hl
  have hown : s.vm.findClass RX3 = some m.cls := hown
  have hl : lv_has ls 4 [(0, .ref (g 0)), (1, .int x), (2, .int v)] := hl
  have hinX3 : ∀ w ∈ wsX30, w ∈ wsX3_put := by decide +kernel
  refine lv_iload_n hx hb dX3_put_0 rfl (lv_at hl 1 rfl) ?_
  refine lv_if_lt (tgt := 10) hx hb dX3_put_1 (by decide) (fun c_1 => ?_) (fun c_1 => ?_)
  · skip
    have hc : inB x 64 = 0 := inB_f1 c_1
    have ec_2 : F = s_put F x v := s_put_0 hc
    rw [show mW g cA N (nI (siz N)) D R F KD KR RW OU WO ST WK CA ln kp rd wr ft = mW g cA N (nI (siz N)) D R (s_put F x v) KD KR RW OU WO ST WK CA ln kp rd wr ft from by rw [← ec_2]] at hP hD
    refine lv_iconst (v := (-1)) hx hb dX3_put_10 (by decide) ?_
    exact hret _ () _ _ _ _ dX3_put_11 hP hD hS ((a_at_0 hc).symm)
  · skip
    have hc1 := c_1
    refine lv_iload_n hx hb dX3_put_4 rfl (lv_at hl 1 rfl) ?_
    refine lv_bipush (v := 63) hx hb dX3_put_5 (by decide) ?_
    refine lv_icmp_le (tgt := 12) hx hb dX3_put_7 (by decide) (fun c_3 => ?_) (fun c_3 => ?_)
    · skip
      have hxn : ¬ inB x 64 = 0 := inB_a (n := 63) (by decide) hc1 c_3
      obtain ⟨zq, hq, rfl⟩ := inB_1 (by decide) hxn
      have hl : lv_has ls 4 [(0, .ref (g 0)), (1, .int (nI zq)), (2, .int v)] := hl
      refine lv_aload_n hx hb dX3_put_12 rfl (lv_at hl 0 rfl) ?_
      refine va_get (D := G) (ci := 3) (v := .ref (g 5)) (C := RX3) (T := TX3) (N := 20) hx hb hts hinX3 hown hK hP 0 rfl rfl 6 (by decide) (hts (.fieldLink RX3 94 "SealedPagesModel" "draft" "[I") (by decide +kernel)) (fun _ h => h) rfl dX3_put_13 ?_
      refine lv_iload_n hx hb dX3_put_16 rfl (lv_at hl 1 rfl) ?_
      refine x_ald (i := zq) hx hb hK hP 5 0 rfl rfl (by omega) (by decide) dX3_put_17 ?_
      refine lv_istore_n (lv' := [(3, .int (F zq)), (0, .ref (g 0)), (1, .int (nI zq)), (2, .int v)]) hx hb dX3_put_18 rfl hl (by decide) rfl (fun ls hl => ?_)
      refine lv_aload_n hx hb dX3_put_19 rfl (lv_at hl 1 rfl) ?_
      refine va_get (D := G) (ci := 3) (v := .ref (g 5)) (C := RX3) (T := TX3) (N := 20) hx hb hts hinX3 hown hK hP 0 rfl rfl 6 (by decide) (hts (.fieldLink RX3 94 "SealedPagesModel" "draft" "[I") (by decide +kernel)) (fun _ h => h) rfl dX3_put_20 ?_
      refine lv_iload_n hx hb dX3_put_23 rfl (lv_at hl 2 rfl) ?_
      refine lv_iload_n hx hb dX3_put_24 rfl (lv_at hl 3 rfl) ?_
      refine lv_sipush (v := 255) hx hb dX3_put_25 (by decide) ?_
      refine lv_iand hx hb dX3_put_28 ?_
      refine x_ast (i := zq) hx hb hK hP hD hS 5 0 rfl rfl (by omega) (by decide) dX3_put_29 (fun H locs hP hD hS => ?_)
      have hP : va_P G vwCl (mW g cA N (nI (siz N)) D R (upd F zq (v &&& 255)) KD KR RW OU WO ST WK CA ln kp rd wr ft) _ := hP
      have hD : va_D _ (mW g cA N (nI (siz N)) D R (upd F zq (v &&& 255)) KD KR RW OU WO ST WK CA ln kp rd wr ft) := hD
      have ec_4 : upd F zq (v &&& 255) = s_put F (nI zq) v := s_put_1 hq
      rw [show mW g cA N (nI (siz N)) D R (upd F zq (v &&& 255)) KD KR RW OU WO ST WK CA ln kp rd wr ft = mW g cA N (nI (siz N)) D R (s_put F (nI zq) v) KD KR RW OU WO ST WK CA ln kp rd wr ft from by rw [← ec_4]] at hP hD
      refine lv_iload_n hx hb dX3_put_30 rfl (lv_at hl 0 rfl) ?_
      exact hret _ () _ _ _ _ dX3_put_31 hP hD hS ((a_at_1 hq (by decide)).symm)
    · skip
      have hc : inB x 64 = 0 := inB_b (n := 63) (by decide) c_3
      have ec_5 : F = s_put F x v := s_put_0 hc
      rw [show mW g cA N (nI (siz N)) D R F KD KR RW OU WO ST WK CA ln kp rd wr ft = mW g cA N (nI (siz N)) D R (s_put F x v) KD KR RW OU WO ST WK CA ln kp rd wr ft from by rw [← ec_5]] at hP hD
      refine lv_iconst (v := (-1)) hx hb dX3_put_10 (by decide) ?_
      exact hret _ () _ _ _ _ dX3_put_11 hP hD hS ((a_at_0 hc).symm)

set_option maxHeartbeats 4000000 in
set_option maxRecDepth 100000 in
theorem c_X3_fill (l : Launch) (G : va_G) (cA : ClassId) (tF tC : Nat) (g : Nat → Nat) (sz N : Nat) (hN : 1 ≤ N ∧ N ≤ 64) (D R F KD KR RW OU WO ST WK CA : Nat → Int32) (ln kp rd wr ft : Int32) (x : Int32) (v : Int64) : CI l yX3_fill wsX3_fill 0 0 G cA tF tC g 14 sz (mW g cA N (nI (siz N)) D R F KD KR RW OU WO ST WK CA ln kp rd wr ft) [.ref (g 0), .int x, .long v] (fun (u : Unit) => mW g cA N (nI (siz N)) D R (s_fill F x v) KD KR RW OU WO ST WK CA ln kp rd wr ft) (fun r _ => r = a_fill x) := by
  refine x_entryI (cc := cX3_fill) (maxL := 5) (by decide) rfl (fun _ => rfl) (Nat.le_of_ble_eq_true rfl) ?_
  intro p e s m args below meth c Q hx hb hml hown hts hK hP hD hS hT hret ls hl
  have hown : s.vm.findClass RX3 = some m.cls := hown
  have hl : lv_has ls 5 [(0, .ref (g 0)), (1, .int x), (2, .long v)] := hl
  have hinX3 : ∀ w ∈ wsX30, w ∈ wsX3_fill := by decide +kernel
  refine lv_iload_n hx hb dX3_fill_0 rfl (lv_at hl 1 rfl) ?_
  refine lv_if_lt (tgt := 10) hx hb dX3_fill_1 (by decide) (fun c_1 => ?_) (fun c_1 => ?_)
  · skip
    have hc : inB x 8 = 0 := inB_f1 c_1
    have ec_2 : F = s_fill F x v := s_fill_0 hc
    rw [show mW g cA N (nI (siz N)) D R F KD KR RW OU WO ST WK CA ln kp rd wr ft = mW g cA N (nI (siz N)) D R (s_fill F x v) KD KR RW OU WO ST WK CA ln kp rd wr ft from by rw [← ec_2]] at hP hD
    refine lv_iconst (v := (-1)) hx hb dX3_fill_10 (by decide) ?_
    exact hret _ () _ _ _ _ dX3_fill_11 hP hD hS (a_fill_0 hc)
  · skip
    have hc1 := c_1
    refine lv_iload_n hx hb dX3_fill_4 rfl (lv_at hl 1 rfl) ?_
    refine lv_bipush (v := 7) hx hb dX3_fill_5 (by decide) ?_
    refine lv_icmp_le (tgt := 12) hx hb dX3_fill_7 (by decide) (fun c_3 => ?_) (fun c_3 => ?_)
    · skip
      have hxn : ¬ inB x 8 = 0 := inB_a (n := 7) (by decide) hc1 c_3
      obtain ⟨zq, hq, rfl⟩ := inB_1 (by decide) hxn
      have hl : lv_has ls 5 [(0, .ref (g 0)), (1, .int (nI zq)), (2, .long v)] := hl
      refine lv_iconst (v := 0) hx hb dX3_fill_12 (by decide) ?_
      refine lv_istore (lv' := [(4, .int 0), (0, .ref (g 0)), (1, .int (nI zq)), (2, .long v)]) hx hb dX3_fill_13 hl (by decide) rfl (fun ls hl => ?_)
      have loop_15 : ∀ (n_15 : Nat) (zi : Nat), (8 - zi) < n_15 → (zi ≤ 8) → ∀ (H : Heap) (locs : List Loc) (ls : Array Slot), va_P G vwCl (mW g cA N (nI (siz N)) D R (filN F zq v zi) KD KR RW OU WO ST WK CA ln kp rd wr ft) H → va_D (wA g 14 s.heap.size) (mW g cA N (nI (siz N)) D R (filN F zq v zi) KD KR RW OU WO ST WK CA ln kp rd wr ft) → va_S (wA g 14 s.heap.size) s.heap H locs → lv_has ls 5 [(0, .ref (g 0)), (1, .int (nI zq)), (2, .long v), (4, .int (nI zi))] → W p l e { frames := 0, cells := 0, slots := 0, locals := 0 } s m args below meth c H locs 0 0 Q (F0 m 15 ls []) := by
        intro n_15
        induction n_15 with
        | zero => intro zi hm_15; exact absurd hm_15 (Nat.not_lt_zero _)
        | succ n_15 ih_15 =>
          intro zi hm_15 hi H locs ls hP hD hS hl
          refine lv_iload hx hb dX3_fill_15 (lv_at hl 3 rfl) ?_
          refine lv_bipush (v := 8) hx hb dX3_fill_17 (by decide) ?_
          refine lv_icmp_ge (tgt := 55) hx hb dX3_fill_19 (by decide) (fun c_4 => ?_) (fun c_4 => ?_)
          · skip
            have c_4 : 8 ≤ zi := (nI_leI (a := 8) (b := zi) (by omega) (by omega)).mp c_4
            obtain rfl : zi = 8 := by omega
            have hl : lv_has ls 5 [(0, .ref (g 0)), (1, .int (nI zq)), (2, .long v), (4, .int (nI 8))] := hl
            have ec_5 : filN F zq v 8 = s_fill F (nI zq) v := s_fill_1 hq
            rw [show mW g cA N (nI (siz N)) D R (filN F zq v 8) KD KR RW OU WO ST WK CA ln kp rd wr ft = mW g cA N (nI (siz N)) D R (s_fill F (nI zq) v) KD KR RW OU WO ST WK CA ln kp rd wr ft from by rw [← ec_5]] at hP hD
            refine lv_bipush (v := 8) hx hb dX3_fill_55 (by decide) ?_
            refine lv_iload_n hx hb dX3_fill_57 rfl (lv_at hl 1 rfl) ?_
            refine lv_imul hx hb dX3_fill_58 ?_
            refine x_eqi (y := nI (8 * zq)) (pk_mul 8 zq) ?_
            exact hret _ () _ _ _ _ dX3_fill_59 hP hD hS (a_fill_1 hq)
          · skip
            have c_4 : ¬ 8 ≤ zi := fun z => c_4 ((nI_leI (a := 8) (b := zi) (by omega) (by omega)).mpr z)
            refine lv_aload_n hx hb dX3_fill_22 rfl (lv_at hl 0 rfl) ?_
            refine va_get (D := G) (ci := 3) (v := .ref (g 5)) (C := RX3) (T := TX3) (N := 20) hx hb hts hinX3 hown hK hP 0 rfl rfl 6 (by decide) (hts (.fieldLink RX3 94 "SealedPagesModel" "draft" "[I") (by decide +kernel)) (fun _ h => h) rfl dX3_fill_23 ?_
            refine lv_bipush (v := 8) hx hb dX3_fill_26 (by decide) ?_
            refine lv_iload_n hx hb dX3_fill_28 rfl (lv_at hl 1 rfl) ?_
            refine lv_imul hx hb dX3_fill_29 ?_
            refine x_eqi (y := nI (8 * zq)) (pk_mul 8 zq) ?_
            refine lv_iload hx hb dX3_fill_30 (lv_at hl 3 rfl) ?_
            refine lv_iadd hx hb dX3_fill_32 ?_
            refine x_eqi (y := nI ((8 * zq) + zi)) (nI_add (8 * zq) zi) ?_
            refine lv_lload_n hx hb dX3_fill_33 rfl (lv_at hl 2 rfl) ?_
            refine lv_bipush (v := 56) hx hb dX3_fill_34 (by decide) ?_
            refine lv_bipush (v := 8) hx hb dX3_fill_36 (by decide) ?_
            refine lv_iload hx hb dX3_fill_38 (lv_at hl 3 rfl) ?_
            refine lv_imul hx hb dX3_fill_40 ?_
            refine x_eqi (y := nI (8 * zi)) (pk_mul 8 zi) ?_
            refine lv_isub hx hb dX3_fill_41 ?_
            refine x_eqi (y := nI (56 - (8 * zi))) (pk_sub (a := 56) (b := 8 * zi) (by omega)) ?_
            refine lv_lushr (v := lus v (nI (56 - (8 * zi)))) hx hb dX3_fill_42 rfl ?_
            refine lv_l2i (v := (lus v (nI (56 - (8 * zi)))).toInt32) hx hb dX3_fill_43 rfl ?_
            refine lv_sipush (v := 255) hx hb dX3_fill_44 (by decide) ?_
            refine lv_iand hx hb dX3_fill_47 ?_
            refine x_ast (i := (8 * zq) + zi) hx hb hK hP hD hS 5 0 rfl rfl (by omega) (by decide) dX3_fill_48 (fun H locs hP hD hS => ?_)
            have hP : va_P G vwCl (mW g cA N (nI (siz N)) D R (upd (filN F zq v zi) ((8 * zq) + zi) (((lus v (nI (56 - (8 * zi)))).toInt32) &&& 255)) KD KR RW OU WO ST WK CA ln kp rd wr ft) _ := hP
            have hD : va_D _ (mW g cA N (nI (siz N)) D R (upd (filN F zq v zi) ((8 * zq) + zi) (((lus v (nI (56 - (8 * zi)))).toInt32) &&& 255)) KD KR RW OU WO ST WK CA ln kp rd wr ft) := hD
            have ec_6 : upd (filN F zq v zi) ((8 * zq) + zi) (((lus v (nI (56 - (8 * zi)))).toInt32) &&& 255) = filN F zq v (zi + 1) := rfl
            rw [show mW g cA N (nI (siz N)) D R (upd (filN F zq v zi) ((8 * zq) + zi) (((lus v (nI (56 - (8 * zi)))).toInt32) &&& 255)) KD KR RW OU WO ST WK CA ln kp rd wr ft = mW g cA N (nI (siz N)) D R (filN F zq v (zi + 1)) KD KR RW OU WO ST WK CA ln kp rd wr ft from by rw [← ec_6]] at hP hD
            refine lv_iinc (v := nI (zi + 1)) (lv' := [(4, .int (nI (zi + 1))), (0, .ref (g 0)), (1, .int (nI zq)), (2, .long v)]) hx hb dX3_fill_49 hl (k := 3) rfl (nI_1 _) (by decide) rfl (fun ls hl => ?_)
            refine lv_goto (tgt := 15) hx hb dX3_fill_52 (by decide) ?_
            exact ih_15 (zi + 1) (by omega) (by omega) _ _ _ hP hD hS (lv_sub hl [1, 2, 3, 0] rfl)
      exact loop_15 _ 0 (Nat.lt_succ_self _) (by omega) _ _ _ hP hD hS (lv_sub hl [1, 2, 3, 0] rfl)
    · skip
      have hc : inB x 8 = 0 := inB_b (n := 7) (by decide) c_3
      have ec_7 : F = s_fill F x v := s_fill_0 hc
      rw [show mW g cA N (nI (siz N)) D R F KD KR RW OU WO ST WK CA ln kp rd wr ft = mW g cA N (nI (siz N)) D R (s_fill F x v) KD KR RW OU WO ST WK CA ln kp rd wr ft from by rw [← ec_7]] at hP hD
      refine lv_iconst (v := (-1)) hx hb dX3_fill_10 (by decide) ?_
      exact hret _ () _ _ _ _ dX3_fill_11 hP hD hS (a_fill_0 hc)

set_option maxHeartbeats 4000000 in
set_option maxRecDepth 100000 in
theorem c_X3_draft (l : Launch) (G : va_G) (cA : ClassId) (tF tC : Nat) (g : Nat → Nat) (sz N : Nat) (hN : 1 ≤ N ∧ N ≤ 64) (D R F KD KR RW OU WO ST WK CA : Nat → Int32) (ln kp rd wr ft : Int32) (x : Int32) : CI l yX3_draft wsX3_draft 0 0 G cA tF tC g 14 sz (mW g cA N (nI (siz N)) D R F KD KR RW OU WO ST WK CA ln kp rd wr ft) [.ref (g 0), .int x] (fun (u : Unit) => mW g cA N (nI (siz N)) D R F KD KR RW OU WO ST WK CA ln kp rd wr ft) (fun r _ => r = a_at F 64 x) := by
  refine x_entryI (cc := cX3_draft) (maxL := 2) (by decide) rfl (fun _ => rfl) (Nat.le_of_ble_eq_true rfl) ?_
  intro p e s m args below meth c Q hx hb hml hown hts hK hP hD hS hT hret ls hl
  have hown : s.vm.findClass RX3 = some m.cls := hown
  have hl : lv_has ls 2 [(0, .ref (g 0)), (1, .int x)] := hl
  have hinX3 : ∀ w ∈ wsX30, w ∈ wsX3_draft := by decide +kernel
  refine lv_iload_n hx hb dX3_draft_0 rfl (lv_at hl 1 rfl) ?_
  refine lv_if_lt (tgt := 10) hx hb dX3_draft_1 (by decide) (fun c_1 => ?_) (fun c_1 => ?_)
  · skip
    have hc : inB x 64 = 0 := inB_f1 c_1
    have hc := (a_at_0 (F := F) hc).symm
    refine lv_iconst (v := (-1)) hx hb dX3_draft_10 (by decide) ?_
    refine lv_goto (tgt := 20) hx hb dX3_draft_11 (by decide) ?_
    exact hret _ () _ _ _ _ dX3_draft_20 hP hD hS hc
  · skip
    have hc1 := c_1
    refine lv_iload_n hx hb dX3_draft_4 rfl (lv_at hl 1 rfl) ?_
    refine lv_bipush (v := 63) hx hb dX3_draft_5 (by decide) ?_
    refine lv_icmp_le (tgt := 14) hx hb dX3_draft_7 (by decide) (fun c_2 => ?_) (fun c_2 => ?_)
    · skip
      have hxn : ¬ inB x 64 = 0 := inB_a (n := 63) (by decide) hc1 c_2
      obtain ⟨zq, hq, rfl⟩ := inB_1 (by decide) hxn
      have hc := (a_at_1 (F := F) hq (by decide)).symm
      have hl : lv_has ls 2 [(0, .ref (g 0)), (1, .int (nI zq))] := hl
      refine lv_aload_n hx hb dX3_draft_14 rfl (lv_at hl 0 rfl) ?_
      refine va_get (D := G) (ci := 3) (v := .ref (g 5)) (C := RX3) (T := TX3) (N := 20) hx hb hts hinX3 hown hK hP 0 rfl rfl 6 (by decide) (hts (.fieldLink RX3 94 "SealedPagesModel" "draft" "[I") (by decide +kernel)) (fun _ h => h) rfl dX3_draft_15 ?_
      refine lv_iload_n hx hb dX3_draft_18 rfl (lv_at hl 1 rfl) ?_
      refine x_ald (i := zq) hx hb hK hP 5 0 rfl rfl (by omega) (by decide) dX3_draft_19 ?_
      exact hret _ () _ _ _ _ dX3_draft_20 hP hD hS hc
    · skip
      have hc : inB x 64 = 0 := inB_b (n := 63) (by decide) c_2
      have hc := (a_at_0 (F := F) hc).symm
      refine lv_iconst (v := (-1)) hx hb dX3_draft_10 (by decide) ?_
      refine lv_goto (tgt := 20) hx hb dX3_draft_11 (by decide) ?_
      exact hret _ () _ _ _ _ dX3_draft_20 hP hD hS hc

set_option maxHeartbeats 4000000 in
set_option maxRecDepth 100000 in
theorem c_X3_root (l : Launch) (G : va_G) (cA : ClassId) (tF tC : Nat) (g : Nat → Nat) (sz N : Nat) (hN : 1 ≤ N ∧ N ≤ 64) (D R F KD KR RW OU WO ST WK CA : Nat → Int32) (ln kp rd wr ft : Int32) (x : Int32) : CI l yX3_root wsX3_root 0 0 G cA tF tC g 14 sz (mW g cA N (nI (siz N)) D R F KD KR RW OU WO ST WK CA ln kp rd wr ft) [.ref (g 0), .int x] (fun (u : Unit) => mW g cA N (nI (siz N)) D R F KD KR RW OU WO ST WK CA ln kp rd wr ft) (fun r _ => r = a_at R 32 x) := by
  refine x_entryI (cc := cX3_root) (maxL := 2) (by decide) rfl (fun _ => rfl) (Nat.le_of_ble_eq_true rfl) ?_
  intro p e s m args below meth c Q hx hb hml hown hts hK hP hD hS hT hret ls hl
  have hown : s.vm.findClass RX3 = some m.cls := hown
  have hl : lv_has ls 2 [(0, .ref (g 0)), (1, .int x)] := hl
  have hinX3 : ∀ w ∈ wsX30, w ∈ wsX3_root := by decide +kernel
  refine lv_iload_n hx hb dX3_root_0 rfl (lv_at hl 1 rfl) ?_
  refine lv_if_lt (tgt := 10) hx hb dX3_root_1 (by decide) (fun c_1 => ?_) (fun c_1 => ?_)
  · skip
    have hc : inB x 32 = 0 := inB_f1 c_1
    have hc := (a_at_0 (F := R) hc).symm
    refine lv_iconst (v := (-1)) hx hb dX3_root_10 (by decide) ?_
    refine lv_goto (tgt := 20) hx hb dX3_root_11 (by decide) ?_
    exact hret _ () _ _ _ _ dX3_root_20 hP hD hS hc
  · skip
    have hc1 := c_1
    refine lv_iload_n hx hb dX3_root_4 rfl (lv_at hl 1 rfl) ?_
    refine lv_bipush (v := 31) hx hb dX3_root_5 (by decide) ?_
    refine lv_icmp_le (tgt := 14) hx hb dX3_root_7 (by decide) (fun c_2 => ?_) (fun c_2 => ?_)
    · skip
      have hxn : ¬ inB x 32 = 0 := inB_a (n := 31) (by decide) hc1 c_2
      obtain ⟨zq, hq, rfl⟩ := inB_1 (by decide) hxn
      have hc := (a_at_1 (F := R) hq (by decide)).symm
      have hl : lv_has ls 2 [(0, .ref (g 0)), (1, .int (nI zq))] := hl
      refine lv_aload_n hx hb dX3_root_14 rfl (lv_at hl 0 rfl) ?_
      refine va_get (D := G) (ci := 3) (v := .ref (g 4)) (C := RX3) (T := TX3) (N := 20) hx hb hts hinX3 hown hK hP 0 rfl rfl 5 (by decide) (hts (.fieldLink RX3 91 "SealedPagesModel" "root" "[I") (by decide +kernel)) (fun _ h => h) rfl dX3_root_15 ?_
      refine lv_iload_n hx hb dX3_root_18 rfl (lv_at hl 1 rfl) ?_
      refine x_ald (i := zq) hx hb hK hP 4 0 rfl rfl (by omega) (by decide) dX3_root_19 ?_
      exact hret _ () _ _ _ _ dX3_root_20 hP hD hS hc
    · skip
      have hc : inB x 32 = 0 := inB_b (n := 31) (by decide) c_2
      have hc := (a_at_0 (F := R) hc).symm
      refine lv_iconst (v := (-1)) hx hb dX3_root_10 (by decide) ?_
      refine lv_goto (tgt := 20) hx hb dX3_root_11 (by decide) ?_
      exact hret _ () _ _ _ _ dX3_root_20 hP hD hS hc

set_option maxHeartbeats 4000000 in
set_option maxRecDepth 100000 in
theorem c_X3_size (l : Launch) (G : va_G) (cA : ClassId) (tF tC : Nat) (g : Nat → Nat) (sz N : Nat) (hN : 1 ≤ N ∧ N ≤ 64) (D R F KD KR RW OU WO ST WK CA : Nat → Int32) (ln kp rd wr ft : Int32)  : CI l yX3_size wsX3_size 0 0 G cA tF tC g 14 sz (mW g cA N (nI (siz N)) D R F KD KR RW OU WO ST WK CA ln kp rd wr ft) [.ref (g 0)] (fun (u : Unit) => mW g cA N (nI (siz N)) D R F KD KR RW OU WO ST WK CA ln kp rd wr ft) (fun r _ => r = nI (siz N)) := by
  refine x_entryI (cc := cX3_size) (maxL := 1) (by decide) rfl (fun _ => rfl) (Nat.le_of_ble_eq_true rfl) ?_
  intro p e s m args below meth c Q hx hb hml hown hts hK hP hD hS hT hret ls hl
  have hown : s.vm.findClass RX3 = some m.cls := hown
  have hl : lv_has ls 1 [(0, .ref (g 0))] := hl
  have hinX3 : ∀ w ∈ wsX30, w ∈ wsX3_size := by decide +kernel
  refine lv_aload_n hx hb dX3_size_0 rfl (lv_at hl 0 rfl) ?_
  refine va_get (D := G) (ci := 3) (v := .int (nI (siz N))) (C := RX3) (T := TX3) (N := 20) hx hb hts hinX3 hown hK hP 0 rfl rfl 3 (by decide) (hts (.fieldLink RX3 133 "SealedPagesModel" "size" "I") (by decide +kernel)) (fun _ h => h) rfl dX3_size_1 ?_
  exact hret _ () _ _ _ _ dX3_size_4 hP hD hS rfl

set_option maxHeartbeats 4000000 in
set_option maxRecDepth 100000 in
theorem c_X3_levels (l : Launch) (G : va_G) (cA : ClassId) (tF tC : Nat) (g : Nat → Nat) (sz N : Nat) (hN : 1 ≤ N ∧ N ≤ 64) (D R F KD KR RW OU WO ST WK CA : Nat → Int32) (ln kp rd wr ft : Int32)  : CI l yX3_levels wsX3_levels 2 44 G cA tF tC g 14 sz (mW g cA N (nI (siz N)) D R F KD KR RW OU WO ST WK CA ln kp rd wr ft) [.ref (g 0)] (fun (u : Unit) => mW g cA N (nI (siz N)) D R F KD KR RW OU WO ST WK CA ln kp rd wr ft) (fun r _ => r = nI (lvs N)) := by
  refine x_entryI (cc := cX3_levels) (maxL := 1) (by decide) rfl (fun _ => rfl) (Nat.le_of_ble_eq_true rfl) ?_
  intro p e s m args below meth c Q hx hb hml hown hts hK hP hD hS hT hret ls hl
  have hown : s.vm.findClass RX3 = some m.cls := hown
  have hl : lv_has ls 1 [(0, .ref (g 0))] := hl
  refine lv_aload_n hx hb dX3_levels_0 rfl (lv_at hl 0 rfl) ?_
  refine x_vi ⟨hx, hb, hml, hown, hts⟩ (c_X3_levelsOf l G cA tF tC g _ N hN (nI (siz N)) D R F KD KR RW OU WO ST WK CA ln kp rd wr ft ) (cwV 0 hts gX3_levels_X3_levelsOf rfl rfl rfl (by decide +kernel) ⟨Nat.le_of_ble_eq_true rfl, Nat.le_of_ble_eq_true rfl⟩) hK hP hD hS hT rfl 0 3 rfl rfl rfl hl.1 rfl (Nat.le_of_ble_eq_true rfl) dX3_levels_1 ⟨Nat.le_refl _, Nat.le_refl _⟩ (fun r_2 u H locs hp_1 hP hD hS => ?_)
  have hP : va_P G vwCl (mW g cA N (nI (siz N)) D R F KD KR RW OU WO ST WK CA ln kp rd wr ft) _ := hP
  have hD : va_D _ (mW g cA N (nI (siz N)) D R F KD KR RW OU WO ST WK CA ln kp rd wr ft) := hD
  have hp_1 : r_2 = nI (lvs N) := hp_1
  subst hp_1
  exact hret _ () _ _ _ _ dX3_levels_4 hP hD hS rfl

set_option maxHeartbeats 4000000 in
set_option maxRecDepth 100000 in
theorem c_X3_disk (l : Launch) (G : va_G) (cA : ClassId) (tF tC : Nat) (g : Nat → Nat) (sz N : Nat) (hN : 1 ≤ N ∧ N ≤ 64) (D R F KD KR RW OU WO ST WK CA : Nat → Int32) (ln kp rd wr ft : Int32) (x : Int32) : CI l yX3_disk wsX3_disk 1 21 G cA tF tC g 14 sz (mW g cA N (nI (siz N)) D R F KD KR RW OU WO ST WK CA ln kp rd wr ft) [.ref (g 0), .int x] (fun (u : Unit) => mW g cA N (nI (siz N)) D R F KD KR RW OU WO ST WK CA ln kp rd wr ft) (fun r _ => r = a_at D (siz N) x) := by
  refine x_entryI (cc := cX3_disk) (maxL := 2) (by decide) rfl (fun _ => rfl) (Nat.le_of_ble_eq_true rfl) ?_
  intro p e s m args below meth c Q hx hb hml hown hts hK hP hD hS hT hret ls hl
  have hown : s.vm.findClass RX3 = some m.cls := hown
  have hl : lv_has ls 2 [(0, .ref (g 0)), (1, .int x)] := hl
  have hinX3 : ∀ w ∈ wsX30, w ∈ wsX3_disk := by decide +kernel
  have hz := siz_le hN
  have hse := siz_eq N
  have hnd := nds_le hN
  have hlv := lvs_in hN
  refine lv_aload_n hx hb dX3_disk_0 rfl (lv_at hl 0 rfl) ?_
  refine lv_iload_n hx hb dX3_disk_1 rfl (lv_at hl 1 rfl) ?_
  refine x_vi ⟨hx, hb, hml, hown, hts⟩ (c_X3_isByte l G cA tF tC g _ N hN D R F KD KR RW OU WO ST WK CA ln kp rd wr ft x) (cwV 1 hts gX3_disk_X3_isByte rfl rfl rfl (by decide +kernel) ⟨Nat.le_of_ble_eq_true rfl, Nat.le_of_ble_eq_true rfl⟩) hK hP hD hS hT rfl 0 3 rfl rfl rfl hl.1 rfl (Nat.le_of_ble_eq_true rfl) dX3_disk_2 ⟨Nat.le_refl _, Nat.le_refl _⟩ (fun r_2 u H locs hp_1 hP hD hS => ?_)
  have hP : va_P G vwCl (mW g cA N (nI (siz N)) D R F KD KR RW OU WO ST WK CA ln kp rd wr ft) _ := hP
  have hD : va_D _ (mW g cA N (nI (siz N)) D R F KD KR RW OU WO ST WK CA ln kp rd wr ft) := hD
  have hp_1 : r_2 = inB x (siz N) := hp_1
  subst hp_1
  refine lv_if_eq (tgt := 17) hx hb dX3_disk_5 (by decide) (fun c_3 => ?_) (fun c_3 => ?_)
  · skip
    have hc := (a_at_0 (F := D) c_3).symm
    refine lv_iconst (v := (-1)) hx hb dX3_disk_17 (by decide) ?_
    exact hret _ () _ _ _ _ dX3_disk_18 hP hD hS hc
  · skip
    obtain ⟨zq, hq, rfl⟩ := inB_1 (by omega) c_3
    have hc := (a_at_1 (F := D) hq (by omega)).symm
    have hl : lv_has ls 2 [(0, .ref (g 0)), (1, .int (nI zq))] := hl
    refine lv_aload_n hx hb dX3_disk_8 rfl (lv_at hl 0 rfl) ?_
    refine va_get (D := G) (ci := 3) (v := .ref (g 3)) (C := RX3) (T := TX3) (N := 20) hx hb hts hinX3 hown hK hP 0 rfl rfl 4 (by decide) (hts (.fieldLink RX3 88 "SealedPagesModel" "disk" "[I") (by decide +kernel)) (fun _ h => h) rfl dX3_disk_9 ?_
    refine lv_iload_n hx hb dX3_disk_12 rfl (lv_at hl 1 rfl) ?_
    refine x_ald (i := zq) hx hb hK hP 3 0 rfl rfl (by omega) (by decide) dX3_disk_13 ?_
    refine lv_goto (tgt := 18) hx hb dX3_disk_14 (by decide) ?_
    exact hret _ () _ _ _ _ dX3_disk_18 hP hD hS hc

set_option maxHeartbeats 4000000 in
set_option maxRecDepth 100000 in
theorem c_X3_alter (l : Launch) (G : va_G) (cA : ClassId) (tF tC : Nat) (g : Nat → Nat) (sz N : Nat) (hN : 1 ≤ N ∧ N ≤ 64) (D R F KD KR RW OU WO ST WK CA : Nat → Int32) (ln kp rd wr ft : Int32) (x v : Int32) : CI l yX3_alter wsX3_alter 1 21 G cA tF tC g 14 sz (mW g cA N (nI (siz N)) D R F KD KR RW OU WO ST WK CA ln kp rd wr ft) [.ref (g 0), .int x, .int v] (fun (u : Unit) => mW g cA N (nI (siz N)) (s_alt N D x v) R F KD KR RW OU WO ST WK CA ln kp rd wr ft) (fun r _ => r = a_at D (siz N) x) := by
  refine x_entryI (cc := cX3_alter) (maxL := 4) (by decide) rfl (fun _ => rfl) (Nat.le_of_ble_eq_true rfl) ?_
  intro p e s m args below meth c Q hx hb hml hown hts hK hP hD hS hT hret ls hl
  have hown : s.vm.findClass RX3 = some m.cls := hown
  have hl : lv_has ls 4 [(0, .ref (g 0)), (1, .int x), (2, .int v)] := hl
  have hinX3 : ∀ w ∈ wsX30, w ∈ wsX3_alter := by decide +kernel
  have hz := siz_le hN
  have hse := siz_eq N
  have hnd := nds_le hN
  have hlv := lvs_in hN
  refine lv_aload_n hx hb dX3_alter_0 rfl (lv_at hl 0 rfl) ?_
  refine lv_iload_n hx hb dX3_alter_1 rfl (lv_at hl 1 rfl) ?_
  refine x_vi ⟨hx, hb, hml, hown, hts⟩ (c_X3_isByte l G cA tF tC g _ N hN D R F KD KR RW OU WO ST WK CA ln kp rd wr ft x) (cwV 1 hts gX3_alter_X3_isByte rfl rfl rfl (by decide +kernel) ⟨Nat.le_of_ble_eq_true rfl, Nat.le_of_ble_eq_true rfl⟩) hK hP hD hS hT rfl 0 3 rfl rfl rfl hl.1 rfl (Nat.le_of_ble_eq_true rfl) dX3_alter_2 ⟨Nat.le_refl _, Nat.le_refl _⟩ (fun r_2 u H locs hp_1 hP hD hS => ?_)
  have hP : va_P G vwCl (mW g cA N (nI (siz N)) D R F KD KR RW OU WO ST WK CA ln kp rd wr ft) _ := hP
  have hD : va_D _ (mW g cA N (nI (siz N)) D R F KD KR RW OU WO ST WK CA ln kp rd wr ft) := hD
  have hp_1 : r_2 = inB x (siz N) := hp_1
  subst hp_1
  refine lv_if_ne (tgt := 10) hx hb dX3_alter_5 (by decide) (fun c_3 => ?_) (fun c_3 => ?_)
  · skip
    obtain ⟨zq, hq, rfl⟩ := inB_1 (by omega) c_3
    have hl : lv_has ls 4 [(0, .ref (g 0)), (1, .int (nI zq)), (2, .int v)] := hl
    refine lv_aload_n hx hb dX3_alter_10 rfl (lv_at hl 0 rfl) ?_
    refine va_get (D := G) (ci := 3) (v := .ref (g 3)) (C := RX3) (T := TX3) (N := 20) hx hb hts hinX3 hown hK hP 0 rfl rfl 4 (by decide) (hts (.fieldLink RX3 88 "SealedPagesModel" "disk" "[I") (by decide +kernel)) (fun _ h => h) rfl dX3_alter_11 ?_
    refine lv_iload_n hx hb dX3_alter_14 rfl (lv_at hl 1 rfl) ?_
    refine x_ald (i := zq) hx hb hK hP 3 0 rfl rfl (by omega) (by decide) dX3_alter_15 ?_
    refine lv_istore_n (lv' := [(3, .int (D zq)), (0, .ref (g 0)), (1, .int (nI zq)), (2, .int v)]) hx hb dX3_alter_16 rfl hl (by decide) rfl (fun ls hl => ?_)
    refine lv_aload_n hx hb dX3_alter_17 rfl (lv_at hl 1 rfl) ?_
    refine va_get (D := G) (ci := 3) (v := .ref (g 3)) (C := RX3) (T := TX3) (N := 20) hx hb hts hinX3 hown hK hP 0 rfl rfl 4 (by decide) (hts (.fieldLink RX3 88 "SealedPagesModel" "disk" "[I") (by decide +kernel)) (fun _ h => h) rfl dX3_alter_18 ?_
    refine lv_iload_n hx hb dX3_alter_21 rfl (lv_at hl 2 rfl) ?_
    refine lv_iload_n hx hb dX3_alter_22 rfl (lv_at hl 0 rfl) ?_
    refine lv_iload_n hx hb dX3_alter_23 rfl (lv_at hl 3 rfl) ?_
    refine lv_sipush (v := 255) hx hb dX3_alter_24 (by decide) ?_
    refine lv_iand hx hb dX3_alter_27 ?_
    refine lv_ixor hx hb dX3_alter_28 ?_
    refine x_ast (i := zq) hx hb hK hP hD hS 3 0 rfl rfl (by omega) (by decide) dX3_alter_29 (fun H locs hP hD hS => ?_)
    have hP : va_P G vwCl (mW g cA N (nI (siz N)) (upd D zq ((D zq) ^^^ (v &&& 255))) R F KD KR RW OU WO ST WK CA ln kp rd wr ft) _ := hP
    have hD : va_D _ (mW g cA N (nI (siz N)) (upd D zq ((D zq) ^^^ (v &&& 255))) R F KD KR RW OU WO ST WK CA ln kp rd wr ft) := hD
    have ec_4 : upd D zq ((D zq) ^^^ (v &&& 255)) = s_alt N D (nI zq) v := s_alt_1 hN hq
    rw [show mW g cA N (nI (siz N)) (upd D zq ((D zq) ^^^ (v &&& 255))) R F KD KR RW OU WO ST WK CA ln kp rd wr ft = mW g cA N (nI (siz N)) (s_alt N D (nI zq) v) R F KD KR RW OU WO ST WK CA ln kp rd wr ft from by rw [← ec_4]] at hP hD
    refine lv_iload_n hx hb dX3_alter_30 rfl (lv_at hl 0 rfl) ?_
    exact hret _ () _ _ _ _ dX3_alter_31 hP hD hS ((a_at_1 hq (by omega)).symm)
  · skip
    have hc := c_3
    have ec_5 : D = s_alt N D x v := s_alt_0 hc
    rw [show mW g cA N (nI (siz N)) D R F KD KR RW OU WO ST WK CA ln kp rd wr ft = mW g cA N (nI (siz N)) (s_alt N D x v) R F KD KR RW OU WO ST WK CA ln kp rd wr ft from by rw [← ec_5]] at hP hD
    refine lv_iconst (v := (-1)) hx hb dX3_alter_8 (by decide) ?_
    exact hret _ () _ _ _ _ dX3_alter_9 hP hD hS ((a_at_0 hc).symm)

set_option maxHeartbeats 4000000 in
set_option maxRecDepth 100000 in
theorem c_X3_carry (l : Launch) (G : va_G) (cA : ClassId) (tF tC : Nat) (g : Nat → Nat) (sz N : Nat) (hN : 1 ≤ N ∧ N ≤ 64) (D R F KD KR RW OU WO ST WK CA : Nat → Int32) (ln kp rd wr ft : Int32) (x y z : Int32) : CI l yX3_carry wsX3_carry 0 0 G cA tF tC g 14 sz (mW g cA N (nI (siz N)) D R F KD KR RW OU WO ST WK CA ln kp rd wr ft) [.ref (g 0), .int x, .int y, .int z] (fun (u : Nat → Int32) => mW g cA N (nI (siz N)) (s_car N D x y z) R F KD KR RW OU WO ST WK u ln kp rd wr ft) (fun r _ => r = a_car N x y z) := by
  refine x_entryI (cc := cX3_carry) (maxL := 5) (by decide) rfl (fun _ => rfl) (Nat.le_of_ble_eq_true rfl) ?_
  intro p e s m args below meth c Q hx hb hml hown hts hK hP hD hS hT hret ls hl
  have hown : s.vm.findClass RX3 = some m.cls := hown
  have hl : lv_has ls 5 [(0, .ref (g 0)), (1, .int x), (2, .int y), (3, .int z)] := hl
  have hinX3 : ∀ w ∈ wsX30, w ∈ wsX3_carry := by decide +kernel
  have hz := siz_le hN
  have hse := siz_eq N
  have hnd := nds_le hN
  have hlv := lvs_in hN
  refine lv_iload_n hx hb dX3_carry_0 rfl (lv_at hl 3 rfl) ?_
  refine lv_if_lt (tgt := 40) hx hb dX3_carry_1 (by decide) (fun c_1 => ?_) (fun c_1 => ?_)
  · skip
    have hc : carB N x y z = false := car_f (fun h => by have h1 := h.1; rw [Int32.lt_iff_toInt_lt, Int32.toInt_zero] at c_1; omega)
    have ec_2 : D = s_car N D x y z := by unfold s_car; rw [if_neg (by rw [hc]; decide)]
    rw [show mW g cA N (nI (siz N)) D R F KD KR RW OU WO ST WK CA ln kp rd wr ft = mW g cA N (nI (siz N)) (s_car N D x y z) R F KD KR RW OU WO ST WK CA ln kp rd wr ft from by rw [← ec_2]] at hP hD
    refine lv_iconst (v := (-1)) hx hb dX3_carry_40 (by decide) ?_
    exact hret _ CA _ _ _ _ dX3_carry_41 hP hD hS (by unfold a_car; rw [if_neg (by rw [hc]; decide)])
  · skip
    have hz0 := c_1
    refine lv_iload_n hx hb dX3_carry_4 rfl (lv_at hl 1 rfl) ?_
    refine lv_if_lt (tgt := 40) hx hb dX3_carry_5 (by decide) (fun c_3 => ?_) (fun c_3 => ?_)
    · skip
      have hc : carB N x y z = false := car_f (fun h => by have h1 := h.2.1; rw [Int32.lt_iff_toInt_lt, Int32.toInt_zero] at c_3; omega)
      have ec_4 : D = s_car N D x y z := by unfold s_car; rw [if_neg (by rw [hc]; decide)]
      rw [show mW g cA N (nI (siz N)) D R F KD KR RW OU WO ST WK CA ln kp rd wr ft = mW g cA N (nI (siz N)) (s_car N D x y z) R F KD KR RW OU WO ST WK CA ln kp rd wr ft from by rw [← ec_4]] at hP hD
      refine lv_iconst (v := (-1)) hx hb dX3_carry_40 (by decide) ?_
      exact hret _ CA _ _ _ _ dX3_carry_41 hP hD hS (by unfold a_car; rw [if_neg (by rw [hc]; decide)])
    · skip
      have hx0 := c_3
      refine lv_iload_n hx hb dX3_carry_8 rfl (lv_at hl 2 rfl) ?_
      refine lv_if_lt (tgt := 40) hx hb dX3_carry_9 (by decide) (fun c_5 => ?_) (fun c_5 => ?_)
      · skip
        have hc : carB N x y z = false := car_f (fun h => by have h1 := h.2.2.1; rw [Int32.lt_iff_toInt_lt, Int32.toInt_zero] at c_5; omega)
        have ec_6 : D = s_car N D x y z := by unfold s_car; rw [if_neg (by rw [hc]; decide)]
        rw [show mW g cA N (nI (siz N)) D R F KD KR RW OU WO ST WK CA ln kp rd wr ft = mW g cA N (nI (siz N)) (s_car N D x y z) R F KD KR RW OU WO ST WK CA ln kp rd wr ft from by rw [← ec_6]] at hP hD
        refine lv_iconst (v := (-1)) hx hb dX3_carry_40 (by decide) ?_
        exact hret _ CA _ _ _ _ dX3_carry_41 hP hD hS (by unfold a_car; rw [if_neg (by rw [hc]; decide)])
      · skip
        have hy0 := c_5
        refine lv_iload_n hx hb dX3_carry_12 rfl (lv_at hl 3 rfl) ?_
        refine lv_aload_n hx hb dX3_carry_13 rfl (lv_at hl 0 rfl) ?_
        refine va_get (D := G) (ci := 3) (v := .int (nI (siz N))) (C := RX3) (T := TX3) (N := 20) hx hb hts hinX3 hown hK hP 0 rfl rfl 3 (by decide) (hts (.fieldLink RX3 133 "SealedPagesModel" "size" "I") (by decide +kernel)) (fun _ h => h) rfl dX3_carry_14 ?_
        refine lv_icmp_gt (tgt := 40) hx hb dX3_carry_17 (by decide) (fun c_7 => ?_) (fun c_7 => ?_)
        · skip
          have hc : carB N x y z = false := car_f (fun h => by have h1 := h.2.2.2.1; have h2 := h.2.1; rw [Int32.lt_iff_toInt_lt, nI_toInt (by omega)] at c_7; omega)
          have ec_8 : D = s_car N D x y z := by unfold s_car; rw [if_neg (by rw [hc]; decide)]
          rw [show mW g cA N (nI (siz N)) D R F KD KR RW OU WO ST WK CA ln kp rd wr ft = mW g cA N (nI (siz N)) (s_car N D x y z) R F KD KR RW OU WO ST WK CA ln kp rd wr ft from by rw [← ec_8]] at hP hD
          refine lv_iconst (v := (-1)) hx hb dX3_carry_40 (by decide) ?_
          exact hret _ CA _ _ _ _ dX3_carry_41 hP hD hS (by unfold a_car; rw [if_neg (by rw [hc]; decide)])
        · skip
          refine lv_iload_n hx hb dX3_carry_20 rfl (lv_at hl 1 rfl) ?_
          refine lv_aload_n hx hb dX3_carry_21 rfl (lv_at hl 0 rfl) ?_
          refine va_get (D := G) (ci := 3) (v := .int (nI (siz N))) (C := RX3) (T := TX3) (N := 20) hx hb hts hinX3 hown hK hP 0 rfl rfl 3 (by decide) (hts (.fieldLink RX3 133 "SealedPagesModel" "size" "I") (by decide +kernel)) (fun _ h => h) rfl dX3_carry_22 ?_
          refine lv_iload_n hx hb dX3_carry_25 rfl (lv_at hl 3 rfl) ?_
          refine lv_isub hx hb dX3_carry_26 ?_
          refine lv_icmp_gt (tgt := 40) hx hb dX3_carry_27 (by decide) (fun c_9 => ?_) (fun c_9 => ?_)
          · skip
            have hc : carB N x y z = false := car_f (fun h => by have h1 := h.2.2.2.1; rw [Int32.lt_iff_toInt_lt, sub_in (by omega) hz0] at c_9; omega)
            have ec_10 : D = s_car N D x y z := by unfold s_car; rw [if_neg (by rw [hc]; decide)]
            rw [show mW g cA N (nI (siz N)) D R F KD KR RW OU WO ST WK CA ln kp rd wr ft = mW g cA N (nI (siz N)) (s_car N D x y z) R F KD KR RW OU WO ST WK CA ln kp rd wr ft from by rw [← ec_10]] at hP hD
            refine lv_iconst (v := (-1)) hx hb dX3_carry_40 (by decide) ?_
            exact hret _ CA _ _ _ _ dX3_carry_41 hP hD hS (by unfold a_car; rw [if_neg (by rw [hc]; decide)])
          · skip
            have hx1 := c_9
            refine lv_iload_n hx hb dX3_carry_30 rfl (lv_at hl 2 rfl) ?_
            refine lv_aload_n hx hb dX3_carry_31 rfl (lv_at hl 0 rfl) ?_
            refine va_get (D := G) (ci := 3) (v := .int (nI (siz N))) (C := RX3) (T := TX3) (N := 20) hx hb hts hinX3 hown hK hP 0 rfl rfl 3 (by decide) (hts (.fieldLink RX3 133 "SealedPagesModel" "size" "I") (by decide +kernel)) (fun _ h => h) rfl dX3_carry_32 ?_
            refine lv_iload_n hx hb dX3_carry_35 rfl (lv_at hl 3 rfl) ?_
            refine lv_isub hx hb dX3_carry_36 ?_
            refine lv_icmp_le (tgt := 42) hx hb dX3_carry_37 (by decide) (fun c_11 => ?_) (fun c_11 => ?_)
            · skip
              have hct : carB N x y z = true := (carB_iff N x y z).mpr (by
                have hy1 := c_11
                rw [Int32.le_iff_toInt_le, sub_in (by omega) hz0] at hy1
                rw [Int32.lt_iff_toInt_lt, sub_in (by omega) hz0] at hx1
                rw [Int32.lt_iff_toInt_lt, Int32.toInt_zero] at hz0 hx0 hy0
                exact ⟨by omega, by omega, by omega, by omega, by omega⟩)
              obtain ⟨qx, qy, qz, rfl, rfl, rfl, hcx, hcy⟩ := car_t hN hct
              have hl : lv_has ls 5 [(0, .ref (g 0)), (1, .int (nI qx)), (2, .int (nI qy)), (3, .int (nI qz))] := hl
              refine lv_iconst (v := 0) hx hb dX3_carry_42 (by decide) ?_
              refine lv_istore (lv' := [(4, .int 0), (0, .ref (g 0)), (1, .int (nI qx)), (2, .int (nI qy)), (3, .int (nI qz))]) hx hb dX3_carry_43 hl (by decide) rfl (fun ls hl => ?_)
              have loop_45 : ∀ (n_45 : Nat) (zi : Nat), (qz - zi) < n_45 → (zi ≤ qz) → ∀ (H : Heap) (locs : List Loc) (ls : Array Slot), va_P G vwCl (mW g cA N (nI (siz N)) D R F KD KR RW OU WO ST WK (va_cpy D CA qx 0 zi) ln kp rd wr ft) H → va_D (wA g 14 s.heap.size) (mW g cA N (nI (siz N)) D R F KD KR RW OU WO ST WK (va_cpy D CA qx 0 zi) ln kp rd wr ft) → va_S (wA g 14 s.heap.size) s.heap H locs → lv_has ls 5 [(0, .ref (g 0)), (1, .int (nI qx)), (2, .int (nI qy)), (3, .int (nI qz)), (4, .int (nI zi))] → W p l e { frames := 0, cells := 0, slots := 0, locals := 0 } s m args below meth c H locs 0 0 Q (F0 m 45 ls []) := by
                intro n_45
                induction n_45 with
                | zero => intro zi hm_45; exact absurd hm_45 (Nat.not_lt_zero _)
                | succ n_45 ih_45 =>
                  intro zi hm_45 hi H locs ls hP hD hS hl
                  refine lv_iload hx hb dX3_carry_45 (lv_at hl 4 rfl) ?_
                  refine lv_iload_n hx hb dX3_carry_47 rfl (lv_at hl 3 rfl) ?_
                  refine lv_icmp_ge (tgt := 73) hx hb dX3_carry_48 (by decide) (fun c_12 => ?_) (fun c_12 => ?_)
                  · skip
                    have c_12 : qz ≤ zi := (nI_leI (a := qz) (b := zi) (by omega) (by omega)).mp c_12
                    obtain rfl : qz = zi := by omega
                    have hl : lv_has ls 5 [(0, .ref (g 0)), (1, .int (nI qx)), (2, .int (nI qy)), (3, .int (nI qz)), (4, .int (nI qz))] := hl
                    refine lv_iconst (v := 0) hx hb dX3_carry_73 (by decide) ?_
                    refine lv_istore (lv' := [(4, .int 0), (0, .ref (g 0)), (1, .int (nI qx)), (2, .int (nI qy)), (3, .int (nI qz))]) hx hb dX3_carry_74 hl (by decide) rfl (fun ls hl => ?_)
                    have ec_13 : D = va_cpy (va_cpy D CA qx 0 qz) D 0 qy 0 := (cpy_0 (va_cpy D CA qx 0 qz) D 0 qy).symm
                    rw [show mW g cA N (nI (siz N)) D R F KD KR RW OU WO ST WK (va_cpy D CA qx 0 qz) ln kp rd wr ft = mW g cA N (nI (siz N)) (va_cpy (va_cpy D CA qx 0 qz) D 0 qy 0) R F KD KR RW OU WO ST WK (va_cpy D CA qx 0 qz) ln kp rd wr ft from by rw [← ec_13]] at hP hD
                    have loop_76 : ∀ (n_76 : Nat) (zi : Nat), (qz - zi) < n_76 → (zi ≤ qz) → ∀ (H : Heap) (locs : List Loc) (ls : Array Slot), va_P G vwCl (mW g cA N (nI (siz N)) (va_cpy (va_cpy D CA qx 0 qz) D 0 qy zi) R F KD KR RW OU WO ST WK (va_cpy D CA qx 0 qz) ln kp rd wr ft) H → va_D (wA g 14 s.heap.size) (mW g cA N (nI (siz N)) (va_cpy (va_cpy D CA qx 0 qz) D 0 qy zi) R F KD KR RW OU WO ST WK (va_cpy D CA qx 0 qz) ln kp rd wr ft) → va_S (wA g 14 s.heap.size) s.heap H locs → lv_has ls 5 [(0, .ref (g 0)), (1, .int (nI qx)), (2, .int (nI qy)), (3, .int (nI qz)), (4, .int (nI zi))] → W p l e { frames := 0, cells := 0, slots := 0, locals := 0 } s m args below meth c H locs 0 0 Q (F0 m 76 ls []) := by
                      intro n_76
                      induction n_76 with
                      | zero => intro zi hm_76; exact absurd hm_76 (Nat.not_lt_zero _)
                      | succ n_76 ih_76 =>
                        intro zi hm_76 hi H locs ls hP hD hS hl
                        refine lv_iload hx hb dX3_carry_76 (lv_at hl 4 rfl) ?_
                        refine lv_iload_n hx hb dX3_carry_78 rfl (lv_at hl 3 rfl) ?_
                        refine lv_icmp_ge (tgt := 104) hx hb dX3_carry_79 (by decide) (fun c_14 => ?_) (fun c_14 => ?_)
                        · skip
                          have c_14 : qz ≤ zi := (nI_leI (a := qz) (b := zi) (by omega) (by omega)).mp c_14
                          obtain rfl : qz = zi := by omega
                          have hl : lv_has ls 5 [(0, .ref (g 0)), (1, .int (nI qx)), (2, .int (nI qy)), (3, .int (nI qz)), (4, .int (nI qz))] := hl
                          have ec_15 : va_cpy (va_cpy D CA qx 0 qz) D 0 qy qz = s_car N D (nI qx) (nI qy) (nI qz) := by unfold s_car; rw [if_pos hct, nI_clamp (by omega), nI_clamp (by omega), nI_clamp (by omega)]; exact cpy_ag (fun q hq => by rw [Nat.zero_add, pk_cpy_in (by omega) (by omega)]; congr 1)
                          rw [show mW g cA N (nI (siz N)) (va_cpy (va_cpy D CA qx 0 qz) D 0 qy qz) R F KD KR RW OU WO ST WK (va_cpy D CA qx 0 qz) ln kp rd wr ft = mW g cA N (nI (siz N)) (s_car N D (nI qx) (nI qy) (nI qz)) R F KD KR RW OU WO ST WK (va_cpy D CA qx 0 qz) ln kp rd wr ft from by rw [← ec_15]] at hP hD
                          refine lv_iload_n hx hb dX3_carry_104 rfl (lv_at hl 3 rfl) ?_
                          exact hret _ (va_cpy D CA qx 0 qz) _ _ _ _ dX3_carry_105 hP hD hS (by unfold a_car; rw [if_pos hct])
                        · skip
                          have c_14 : ¬ qz ≤ zi := fun z => c_14 ((nI_leI (a := qz) (b := zi) (by omega) (by omega)).mpr z)
                          refine lv_aload_n hx hb dX3_carry_82 rfl (lv_at hl 0 rfl) ?_
                          refine va_get (D := G) (ci := 3) (v := .ref (g 3)) (C := RX3) (T := TX3) (N := 20) hx hb hts hinX3 hown hK hP 0 rfl rfl 4 (by decide) (hts (.fieldLink RX3 88 "SealedPagesModel" "disk" "[I") (by decide +kernel)) (fun _ h => h) rfl dX3_carry_83 ?_
                          refine lv_iload_n hx hb dX3_carry_86 rfl (lv_at hl 2 rfl) ?_
                          refine lv_iload hx hb dX3_carry_87 (lv_at hl 4 rfl) ?_
                          refine lv_iadd hx hb dX3_carry_89 ?_
                          refine x_eqi (y := nI (qy + zi)) (nI_add qy zi) ?_
                          refine lv_aload_n hx hb dX3_carry_90 rfl (lv_at hl 0 rfl) ?_
                          refine va_get (D := G) (ci := 3) (v := .ref (g 13)) (C := RX3) (T := TX3) (N := 20) hx hb hts hinX3 hown hK hP 0 rfl rfl 19 (by decide) (hts (.fieldLink RX3 118 "SealedPagesModel" "carried" "[I") (by decide +kernel)) (fun _ h => h) rfl dX3_carry_91 ?_
                          refine lv_iload hx hb dX3_carry_94 (lv_at hl 4 rfl) ?_
                          refine x_ald (i := zi) hx hb hK hP 13 0 rfl rfl (by omega) (by decide) dX3_carry_96 ?_
                          refine x_ast (i := qy + zi) hx hb hK hP hD hS 3 0 rfl rfl (by omega) (by decide) dX3_carry_97 (fun H locs hP hD hS => ?_)
                          have hP : va_P G vwCl (mW g cA N (nI (siz N)) (upd (va_cpy (va_cpy D CA qx 0 qz) D 0 qy zi) (qy + zi) ((va_cpy D CA qx 0 qz) zi)) R F KD KR RW OU WO ST WK (va_cpy D CA qx 0 qz) ln kp rd wr ft) _ := hP
                          have hD : va_D _ (mW g cA N (nI (siz N)) (upd (va_cpy (va_cpy D CA qx 0 qz) D 0 qy zi) (qy + zi) ((va_cpy D CA qx 0 qz) zi)) R F KD KR RW OU WO ST WK (va_cpy D CA qx 0 qz) ln kp rd wr ft) := hD
                          have ec_16 : upd (va_cpy (va_cpy D CA qx 0 qz) D 0 qy zi) (qy + zi) ((va_cpy D CA qx 0 qz) zi) = va_cpy (va_cpy D CA qx 0 qz) D 0 qy (zi + 1) := by have h := cpy_s (va_cpy D CA qx 0 qz) D 0 qy zi; rwa [Nat.zero_add] at h
                          rw [show mW g cA N (nI (siz N)) (upd (va_cpy (va_cpy D CA qx 0 qz) D 0 qy zi) (qy + zi) ((va_cpy D CA qx 0 qz) zi)) R F KD KR RW OU WO ST WK (va_cpy D CA qx 0 qz) ln kp rd wr ft = mW g cA N (nI (siz N)) (va_cpy (va_cpy D CA qx 0 qz) D 0 qy (zi + 1)) R F KD KR RW OU WO ST WK (va_cpy D CA qx 0 qz) ln kp rd wr ft from by rw [← ec_16]] at hP hD
                          refine lv_iinc (v := nI (zi + 1)) (lv' := [(4, .int (nI (zi + 1))), (0, .ref (g 0)), (1, .int (nI qx)), (2, .int (nI qy)), (3, .int (nI qz))]) hx hb dX3_carry_98 hl (k := 4) rfl (nI_1 _) (by decide) rfl (fun ls hl => ?_)
                          refine lv_goto (tgt := 76) hx hb dX3_carry_101 (by decide) ?_
                          exact ih_76 (zi + 1) (by omega) (by omega) _ _ _ hP hD hS (lv_sub hl [1, 2, 3, 4, 0] rfl)
                    exact loop_76 _ 0 (Nat.lt_succ_self _) (by omega) _ _ _ hP hD hS (lv_sub hl [1, 2, 3, 4, 0] rfl)
                  · skip
                    have c_12 : ¬ qz ≤ zi := fun z => c_12 ((nI_leI (a := qz) (b := zi) (by omega) (by omega)).mpr z)
                    refine lv_aload_n hx hb dX3_carry_51 rfl (lv_at hl 0 rfl) ?_
                    refine va_get (D := G) (ci := 3) (v := .ref (g 13)) (C := RX3) (T := TX3) (N := 20) hx hb hts hinX3 hown hK hP 0 rfl rfl 19 (by decide) (hts (.fieldLink RX3 118 "SealedPagesModel" "carried" "[I") (by decide +kernel)) (fun _ h => h) rfl dX3_carry_52 ?_
                    refine lv_iload hx hb dX3_carry_55 (lv_at hl 4 rfl) ?_
                    refine lv_aload_n hx hb dX3_carry_57 rfl (lv_at hl 0 rfl) ?_
                    refine va_get (D := G) (ci := 3) (v := .ref (g 3)) (C := RX3) (T := TX3) (N := 20) hx hb hts hinX3 hown hK hP 0 rfl rfl 4 (by decide) (hts (.fieldLink RX3 88 "SealedPagesModel" "disk" "[I") (by decide +kernel)) (fun _ h => h) rfl dX3_carry_58 ?_
                    refine lv_iload_n hx hb dX3_carry_61 rfl (lv_at hl 1 rfl) ?_
                    refine lv_iload hx hb dX3_carry_62 (lv_at hl 4 rfl) ?_
                    refine lv_iadd hx hb dX3_carry_64 ?_
                    refine x_eqi (y := nI (qx + zi)) (nI_add qx zi) ?_
                    refine x_ald (i := qx + zi) hx hb hK hP 3 0 rfl rfl (by omega) (by decide) dX3_carry_65 ?_
                    refine x_ast (i := zi) hx hb hK hP hD hS 13 0 rfl rfl (by omega) (by decide) dX3_carry_66 (fun H locs hP hD hS => ?_)
                    have hP : va_P G vwCl (mW g cA N (nI (siz N)) D R F KD KR RW OU WO ST WK (upd (va_cpy D CA qx 0 zi) zi (D (qx + zi))) ln kp rd wr ft) _ := hP
                    have hD : va_D _ (mW g cA N (nI (siz N)) D R F KD KR RW OU WO ST WK (upd (va_cpy D CA qx 0 zi) zi (D (qx + zi))) ln kp rd wr ft) := hD
                    have ec_17 : upd (va_cpy D CA qx 0 zi) zi (D (qx + zi)) = va_cpy D CA qx 0 (zi + 1) := by have h := cpy_s D CA qx 0 zi; rwa [Nat.zero_add] at h
                    rw [show mW g cA N (nI (siz N)) D R F KD KR RW OU WO ST WK (upd (va_cpy D CA qx 0 zi) zi (D (qx + zi))) ln kp rd wr ft = mW g cA N (nI (siz N)) D R F KD KR RW OU WO ST WK (va_cpy D CA qx 0 (zi + 1)) ln kp rd wr ft from by rw [← ec_17]] at hP hD
                    refine lv_iinc (v := nI (zi + 1)) (lv' := [(4, .int (nI (zi + 1))), (0, .ref (g 0)), (1, .int (nI qx)), (2, .int (nI qy)), (3, .int (nI qz))]) hx hb dX3_carry_67 hl (k := 4) rfl (nI_1 _) (by decide) rfl (fun ls hl => ?_)
                    refine lv_goto (tgt := 45) hx hb dX3_carry_70 (by decide) ?_
                    exact ih_45 (zi + 1) (by omega) (by omega) _ _ _ hP hD hS (lv_sub hl [1, 2, 3, 4, 0] rfl)
              rw [← cpy_0 D CA qx 0] at hP hD
              exact loop_45 _ 0 (Nat.lt_succ_self _) (by omega) _ _ _ hP hD hS (lv_sub hl [1, 2, 3, 4, 0] rfl)
            · skip
              have hc : carB N x y z = false := car_f (fun h => by have h1 := h.2.2.2.2; rw [Int32.le_iff_toInt_le, sub_in (by omega) hz0] at c_11; omega)
              have ec_18 : D = s_car N D x y z := by unfold s_car; rw [if_neg (by rw [hc]; decide)]
              rw [show mW g cA N (nI (siz N)) D R F KD KR RW OU WO ST WK CA ln kp rd wr ft = mW g cA N (nI (siz N)) (s_car N D x y z) R F KD KR RW OU WO ST WK CA ln kp rd wr ft from by rw [← ec_18]] at hP hD
              refine lv_iconst (v := (-1)) hx hb dX3_carry_40 (by decide) ?_
              exact hret _ CA _ _ _ _ dX3_carry_41 hP hD hS (by unfold a_car; rw [if_neg (by rw [hc]; decide)])

set_option maxHeartbeats 4000000 in
set_option maxRecDepth 100000 in
theorem c_X3_fault (l : Launch) (G : va_G) (cA : ClassId) (tF tC : Nat) (g : Nat → Nat) (sz N : Nat) (hN : 1 ≤ N ∧ N ≤ 64) (D R F KD KR RW OU WO ST WK CA : Nat → Int32) (ln kp rd wr ft : Int32) (x : Int32) : CI l yX3_fault wsX3_fault 7 169 G cA tF tC g 14 sz (mW g cA N (nI (siz N)) D R F KD KR RW OU WO ST WK CA ln kp rd wr ft) [.ref (g 0), .int x] (fun (u : (Nat → Int32) × (Nat → Int32) × (Nat → Int32) × (Nat → Int32) × (Nat → Int32) × Int32) => mW g cA N (nI (siz N)) D R F KD KR u.1 u.2.1 u.2.2.1 u.2.2.2.1 u.2.2.2.2.1 CA u.2.2.2.2.2 kp rd wr ft) (fun r _ => r = a_flt N D R x) := by
  refine x_entryI (cc := cX3_fault) (maxL := 2) (by decide) rfl (fun _ => rfl) (Nat.le_of_ble_eq_true rfl) ?_
  intro p e s m args below meth c Q hx hb hml hown hts hK hP hD hS hT hret ls hl
  have hown : s.vm.findClass RX3 = some m.cls := hown
  have hl : lv_has ls 2 [(0, .ref (g 0)), (1, .int x)] := hl
  have hz := siz_le hN
  have hse := siz_eq N
  have hnd := nds_le hN
  have hlv := lvs_in hN
  refine lv_aload_n hx hb dX3_fault_0 rfl (lv_at hl 0 rfl) ?_
  refine lv_iload_n hx hb dX3_fault_1 rfl (lv_at hl 1 rfl) ?_
  refine x_vi ⟨hx, hb, hml, hown, hts⟩ (c_X3_isPage l G cA tF tC g _ N hN (nI (siz N)) D R F KD KR RW OU WO ST WK CA ln kp rd wr ft x) (cwV 1 hts gX3_fault_X3_isPage rfl rfl rfl (by decide +kernel) ⟨Nat.le_of_ble_eq_true rfl, Nat.le_of_ble_eq_true rfl⟩) hK hP hD hS hT rfl 0 3 rfl rfl rfl hl.1 rfl (Nat.le_of_ble_eq_true rfl) dX3_fault_2 ⟨Nat.le_refl _, Nat.le_refl _⟩ (fun r_2 u H locs hp_1 hP hD hS => ?_)
  have hP : va_P G vwCl (mW g cA N (nI (siz N)) D R F KD KR RW OU WO ST WK CA ln kp rd wr ft) _ := hP
  have hD : va_D _ (mW g cA N (nI (siz N)) D R F KD KR RW OU WO ST WK CA ln kp rd wr ft) := hD
  have hp_1 : r_2 = inB x N := hp_1
  subst hp_1
  refine lv_if_eq (tgt := 16) hx hb dX3_fault_5 (by decide) (fun c_3 => ?_) (fun c_3 => ?_)
  · skip
    have hc := (a_flt_0 (D := D) (R := R) c_3).symm
    refine lv_iconst (v := (-1)) hx hb dX3_fault_16 (by decide) ?_
    exact hret _ (RW, OU, WO, ST, WK, ln) _ _ _ _ dX3_fault_17 hP hD hS hc
  · skip
    obtain ⟨zq, hq, rfl⟩ := inB_1 (by omega) c_3
    have hc := (a_flt_1 (D := D) (R := R) hN hq).symm
    have hl : lv_has ls 2 [(0, .ref (g 0)), (1, .int (nI zq))] := hl
    refine lv_aload_n hx hb dX3_fault_8 rfl (lv_at hl 0 rfl) ?_
    refine lv_iload_n hx hb dX3_fault_9 rfl (lv_at hl 1 rfl) ?_
    refine x_vi ⟨hx, hb, hml, hown, hts⟩ (c_X3_faultOf l G cA tF tC g _ N hN (nI (siz N)) D R F KD KR RW OU WO ST WK CA ln kp rd wr ft zq (by omega)) (cwV 1 hts gX3_fault_X3_faultOf rfl rfl rfl (by decide +kernel) ⟨Nat.le_of_ble_eq_true rfl, Nat.le_of_ble_eq_true rfl⟩) hK hP hD hS hT rfl 0 3 rfl rfl rfl hl.1 rfl (Nat.le_of_ble_eq_true rfl) dX3_fault_10 ⟨Nat.le_refl _, Nat.le_refl _⟩ (fun r_4 u H locs hp1 hP hD hS => ?_)
    obtain ⟨RW1, OU1, WO1, ST1, WK1, ln1⟩ := u
    have hP : va_P G vwCl (mW g cA N (nI (siz N)) D R F KD KR RW1 OU1 WO1 ST1 WK1 CA ln1 kp rd wr ft) _ := hP
    have hD : va_D _ (mW g cA N (nI (siz N)) D R F KD KR RW1 OU1 WO1 ST1 WK1 CA ln1 kp rd wr ft) := hD
    have hp1 : r_4 = nI (flt N D R zq) := hp1
    subst hp1
    refine lv_goto (tgt := 17) hx hb dX3_fault_13 (by decide) ?_
    exact hret _ (RW1, OU1, WO1, ST1, WK1, ln1) _ _ _ _ dX3_fault_17 hP hD hS hc

set_option maxHeartbeats 4000000 in
set_option maxRecDepth 100000 in
theorem c_X3_read (l : Launch) (G : va_G) (cA : ClassId) (tF tC : Nat) (g : Nat → Nat) (sz N : Nat) (hN : 1 ≤ N ∧ N ≤ 64) (D R F KD KR RW OU WO ST WK CA : Nat → Int32) (ln kp rd wr ft : Int32) (x : Int32) : CI l yX3_read wsX3_read 7 169 G cA tF tC g 14 sz (mW g cA N (nI (siz N)) D R F KD KR RW OU WO ST WK CA ln kp rd wr ft) [.ref (g 0), .int x] (fun (u : (Nat → Int32) × (Nat → Int32) × (Nat → Int32) × (Nat → Int32) × (Nat → Int32) × Int32) => mW g cA N (nI (siz N)) D R (s_rdF N D R F x) KD KR u.1 u.2.1 u.2.2.1 u.2.2.2.1 u.2.2.2.2.1 CA u.2.2.2.2.2 kp (s_inc N D R x rd) wr (s_ft N D R x ft)) (fun r _ => r = a_flt N D R x) := by
  refine x_entryI (cc := cX3_read) (maxL := 4) (by decide) rfl (fun _ => rfl) (Nat.le_of_ble_eq_true rfl) ?_
  intro p e s m args below meth c Q hx hb hml hown hts hK hP hD hS hT hret ls hl
  have hown : s.vm.findClass RX3 = some m.cls := hown
  have hl : lv_has ls 4 [(0, .ref (g 0)), (1, .int x)] := hl
  have hinX3 : ∀ w ∈ wsX30, w ∈ wsX3_read := by decide +kernel
  have hz := siz_le hN
  have hse := siz_eq N
  have hnd := nds_le hN
  have hlv := lvs_in hN
  refine lv_aload_n hx hb dX3_read_0 rfl (lv_at hl 0 rfl) ?_
  refine lv_iload_n hx hb dX3_read_1 rfl (lv_at hl 1 rfl) ?_
  refine x_vi ⟨hx, hb, hml, hown, hts⟩ (c_X3_isPage l G cA tF tC g _ N hN (nI (siz N)) D R F KD KR RW OU WO ST WK CA ln kp rd wr ft x) (cwV 1 hts gX3_read_X3_isPage rfl rfl rfl (by decide +kernel) ⟨Nat.le_of_ble_eq_true rfl, Nat.le_of_ble_eq_true rfl⟩) hK hP hD hS hT rfl 0 3 rfl rfl rfl hl.1 rfl (Nat.le_of_ble_eq_true rfl) dX3_read_2 ⟨Nat.le_refl _, Nat.le_refl _⟩ (fun r_2 u H locs hp_1 hP hD hS => ?_)
  have hP : va_P G vwCl (mW g cA N (nI (siz N)) D R F KD KR RW OU WO ST WK CA ln kp rd wr ft) _ := hP
  have hD : va_D _ (mW g cA N (nI (siz N)) D R F KD KR RW OU WO ST WK CA ln kp rd wr ft) := hD
  have hp_1 : r_2 = inB x N := hp_1
  subst hp_1
  refine lv_if_ne (tgt := 10) hx hb dX3_read_5 (by decide) (fun c_3 => ?_) (fun c_3 => ?_)
  · skip
    obtain ⟨zq, hq, rfl⟩ := inB_1 (by omega) c_3
    have hfl := flt_le hN D R zq
    have haf := a_flt_1 (D := D) (R := R) hN hq
    have hl : lv_has ls 4 [(0, .ref (g 0)), (1, .int (nI zq))] := hl
    refine lv_aload_n hx hb dX3_read_10 rfl (lv_at hl 0 rfl) ?_
    refine lv_iload_n hx hb dX3_read_11 rfl (lv_at hl 1 rfl) ?_
    refine x_vi ⟨hx, hb, hml, hown, hts⟩ (c_X3_faultOf l G cA tF tC g _ N hN (nI (siz N)) D R F KD KR RW OU WO ST WK CA ln kp rd wr ft zq (by omega)) (cwV 1 hts gX3_read_X3_faultOf rfl rfl rfl (by decide +kernel) ⟨Nat.le_of_ble_eq_true rfl, Nat.le_of_ble_eq_true rfl⟩) hK hP hD hS hT rfl 0 3 rfl rfl rfl hl.1 rfl (Nat.le_of_ble_eq_true rfl) dX3_read_12 ⟨Nat.le_refl _, Nat.le_refl _⟩ (fun r_4 u H locs hp1 hP hD hS => ?_)
    obtain ⟨RW1, OU1, WO1, ST1, WK1, ln1⟩ := u
    have hP : va_P G vwCl (mW g cA N (nI (siz N)) D R F KD KR RW1 OU1 WO1 ST1 WK1 CA ln1 kp rd wr ft) _ := hP
    have hD : va_D _ (mW g cA N (nI (siz N)) D R F KD KR RW1 OU1 WO1 ST1 WK1 CA ln1 kp rd wr ft) := hD
    have hp1 : r_4 = nI (flt N D R zq) := hp1
    subst hp1
    refine lv_istore_n (lv' := [(2, .int (nI (flt N D R zq))), (0, .ref (g 0)), (1, .int (nI zq))]) hx hb dX3_read_15 rfl hl (by decide) rfl (fun ls hl => ?_)
    refine lv_iload_n hx hb dX3_read_16 rfl (lv_at hl 0 rfl) ?_
    refine lv_if_eq (tgt := 32) hx hb dX3_read_17 (by decide) (fun c_5 => ?_) (fun c_5 => ?_)
    · skip
      have c_5 : (flt N D R zq) = 0 := (nI_eq (a := (flt N D R zq)) (b := 0) (by omega) (by omega)).mp c_5
      have hz0 : a_flt N D R (nI zq) = 0 := by rw [haf, c_5]; rfl
      have hpi := page_in hq
      refine lv_iconst (v := 0) hx hb dX3_read_32 (by decide) ?_
      refine lv_istore_n (lv' := [(3, .int 0), (2, .int (nI (flt N D R zq))), (0, .ref (g 0)), (1, .int (nI zq))]) hx hb dX3_read_33 rfl hl (by decide) rfl (fun ls hl => ?_)
      have loop_34 : ∀ (n_34 : Nat) (zi : Nat), (64 - zi) < n_34 → (zi ≤ 64) → ∀ (H : Heap) (locs : List Loc) (ls : Array Slot), va_P G vwCl (mW g cA N (nI (siz N)) D R (va_cpy D F (8 + 64 * zq) 0 zi) KD KR RW1 OU1 WO1 ST1 WK1 CA ln1 kp rd wr ft) H → va_D (wA g 14 s.heap.size) (mW g cA N (nI (siz N)) D R (va_cpy D F (8 + 64 * zq) 0 zi) KD KR RW1 OU1 WO1 ST1 WK1 CA ln1 kp rd wr ft) → va_S (wA g 14 s.heap.size) s.heap H locs → lv_has ls 4 [(0, .ref (g 0)), (1, .int (nI zq)), (2, .int (nI (flt N D R zq))), (3, .int (nI zi))] → W p l e { frames := 7, cells := 0, slots := 0, locals := 169 } s m args below meth c H locs 0 0 Q (F0 m 34 ls []) := by
        intro n_34
        induction n_34 with
        | zero => intro zi hm_34; exact absurd hm_34 (Nat.not_lt_zero _)
        | succ n_34 ih_34 =>
          intro zi hm_34 hi H locs ls hP hD hS hl
          refine lv_iload_n hx hb dX3_read_34 rfl (lv_at hl 3 rfl) ?_
          refine lv_bipush (v := 64) hx hb dX3_read_35 (by decide) ?_
          refine lv_icmp_ge (tgt := 66) hx hb dX3_read_37 (by decide) (fun c_6 => ?_) (fun c_6 => ?_)
          · skip
            have c_6 : 64 ≤ zi := (nI_leI (a := 64) (b := zi) (by omega) (by omega)).mp c_6
            obtain rfl : zi = 64 := by omega
            have hl : lv_has ls 4 [(0, .ref (g 0)), (1, .int (nI zq)), (2, .int (nI (flt N D R zq))), (3, .int (nI 64))] := hl
            refine lv_aload_n hx hb dX3_read_66 rfl (lv_at hl 0 rfl) ?_
            refine lv_dup hx hb dX3_read_67 rfl ?_
            refine va_get (D := G) (ci := 3) (v := .int rd) (C := RX3) (T := TX3) (N := 20) hx hb hts hinX3 hown hK hP 0 rfl rfl 10 (by decide) (hts (.fieldLink RX3 189 "SealedPagesModel" "reads" "I") (by decide +kernel)) (fun _ h => h) rfl dX3_read_68 ?_
            refine lv_iconst (v := 1) hx hb dX3_read_71 (by decide) ?_
            refine lv_iadd hx hb dX3_read_72 ?_
            refine va_put (D := G) (ci := 3) (v := .int (rd + 1)) (ty := .int) (C := RX3) (T := TX3) (N := 20) hx hb hts hinX3 tyX3 tyX3_ok nmX3 hown hK hP hD hS 0 rfl rfl 10 (by decide) (hts (.fieldLink RX3 189 "SealedPagesModel" "reads" "I") (by decide +kernel)) (fun _ h => h) rfl (by decide +kernel) rfl rfl (Nat.le_of_ble_eq_true rfl) dX3_read_73 (fun H locs hP hD hS => ?_)
            have hP : va_P G vwCl (mW g cA N (nI (siz N)) D R (va_cpy D F (8 + 64 * zq) 0 64) KD KR RW1 OU1 WO1 ST1 WK1 CA ln1 kp (rd + 1) wr ft) _ := hP
            have hD : va_D _ (mW g cA N (nI (siz N)) D R (va_cpy D F (8 + 64 * zq) 0 64) KD KR RW1 OU1 WO1 ST1 WK1 CA ln1 kp (rd + 1) wr ft) := hD
            have ec_7 : va_cpy D F (8 + 64 * zq) 0 64 = s_rdF N D R F (nI zq) := s_rdF_0 hz0 rfl (by omega)
            rw [show mW g cA N (nI (siz N)) D R (va_cpy D F (8 + 64 * zq) 0 64) KD KR RW1 OU1 WO1 ST1 WK1 CA ln1 kp (rd + 1) wr ft = mW g cA N (nI (siz N)) D R (s_rdF N D R F (nI zq)) KD KR RW1 OU1 WO1 ST1 WK1 CA ln1 kp (rd + 1) wr ft from by rw [← ec_7]] at hP hD
            have ec_8 : rd + 1 = s_inc N D R (nI zq) rd := s_inc_0 hz0
            rw [show mW g cA N (nI (siz N)) D R (s_rdF N D R F (nI zq)) KD KR RW1 OU1 WO1 ST1 WK1 CA ln1 kp (rd + 1) wr ft = mW g cA N (nI (siz N)) D R (s_rdF N D R F (nI zq)) KD KR RW1 OU1 WO1 ST1 WK1 CA ln1 kp (s_inc N D R (nI zq) rd) wr ft from by rw [← ec_8]] at hP hD
            have ec_9 : ft = s_ft N D R (nI zq) ft := s_ft_0 hz0
            rw [show mW g cA N (nI (siz N)) D R (s_rdF N D R F (nI zq)) KD KR RW1 OU1 WO1 ST1 WK1 CA ln1 kp (s_inc N D R (nI zq) rd) wr ft = mW g cA N (nI (siz N)) D R (s_rdF N D R F (nI zq)) KD KR RW1 OU1 WO1 ST1 WK1 CA ln1 kp (s_inc N D R (nI zq) rd) wr (s_ft N D R (nI zq) ft) from by rw [← ec_9]] at hP hD
            refine lv_iconst (v := 0) hx hb dX3_read_76 (by decide) ?_
            exact hret _ (RW1, OU1, WO1, ST1, WK1, ln1) _ _ _ _ dX3_read_77 hP hD hS hz0.symm
          · skip
            have c_6 : ¬ 64 ≤ zi := fun z => c_6 ((nI_leI (a := 64) (b := zi) (by omega) (by omega)).mpr z)
            refine lv_aload_n hx hb dX3_read_40 rfl (lv_at hl 0 rfl) ?_
            refine va_get (D := G) (ci := 3) (v := .ref (g 5)) (C := RX3) (T := TX3) (N := 20) hx hb hts hinX3 hown hK hP 0 rfl rfl 6 (by decide) (hts (.fieldLink RX3 94 "SealedPagesModel" "draft" "[I") (by decide +kernel)) (fun _ h => h) rfl dX3_read_41 ?_
            refine lv_iload_n hx hb dX3_read_44 rfl (lv_at hl 3 rfl) ?_
            refine lv_aload_n hx hb dX3_read_45 rfl (lv_at hl 0 rfl) ?_
            refine va_get (D := G) (ci := 3) (v := .ref (g 3)) (C := RX3) (T := TX3) (N := 20) hx hb hts hinX3 hown hK hP 0 rfl rfl 4 (by decide) (hts (.fieldLink RX3 88 "SealedPagesModel" "disk" "[I") (by decide +kernel)) (fun _ h => h) rfl dX3_read_46 ?_
            refine lv_bipush (v := 8) hx hb dX3_read_49 (by decide) ?_
            refine lv_bipush (v := 64) hx hb dX3_read_51 (by decide) ?_
            refine lv_iload_n hx hb dX3_read_53 rfl (lv_at hl 1 rfl) ?_
            refine lv_imul hx hb dX3_read_54 ?_
            refine x_eqi (y := nI (64 * zq)) (pk_mul 64 zq) ?_
            refine lv_iadd hx hb dX3_read_55 ?_
            refine x_eqi (y := nI (8 + (64 * zq))) (nI_add 8 (64 * zq)) ?_
            refine lv_iload_n hx hb dX3_read_56 rfl (lv_at hl 3 rfl) ?_
            refine lv_iadd hx hb dX3_read_57 ?_
            refine x_eqi (y := nI ((8 + (64 * zq)) + zi)) (nI_add (8 + (64 * zq)) zi) ?_
            refine x_ald (i := (8 + (64 * zq)) + zi) hx hb hK hP 3 0 rfl rfl (by omega) (by decide) dX3_read_58 ?_
            refine x_ast (i := zi) hx hb hK hP hD hS 5 0 rfl rfl (by omega) (by decide) dX3_read_59 (fun H locs hP hD hS => ?_)
            have hP : va_P G vwCl (mW g cA N (nI (siz N)) D R (upd (va_cpy D F (8 + 64 * zq) 0 zi) zi (D ((8 + (64 * zq)) + zi))) KD KR RW1 OU1 WO1 ST1 WK1 CA ln1 kp rd wr ft) _ := hP
            have hD : va_D _ (mW g cA N (nI (siz N)) D R (upd (va_cpy D F (8 + 64 * zq) 0 zi) zi (D ((8 + (64 * zq)) + zi))) KD KR RW1 OU1 WO1 ST1 WK1 CA ln1 kp rd wr ft) := hD
            have ec_10 : upd (va_cpy D F (8 + 64 * zq) 0 zi) zi (D ((8 + (64 * zq)) + zi)) = va_cpy D F (8 + 64 * zq) 0 (zi + 1) := by have h := cpy_s D F (8 + 64 * zq) 0 zi; rwa [Nat.zero_add] at h
            rw [show mW g cA N (nI (siz N)) D R (upd (va_cpy D F (8 + 64 * zq) 0 zi) zi (D ((8 + (64 * zq)) + zi))) KD KR RW1 OU1 WO1 ST1 WK1 CA ln1 kp rd wr ft = mW g cA N (nI (siz N)) D R (va_cpy D F (8 + 64 * zq) 0 (zi + 1)) KD KR RW1 OU1 WO1 ST1 WK1 CA ln1 kp rd wr ft from by rw [← ec_10]] at hP hD
            refine lv_iinc (v := nI (zi + 1)) (lv' := [(3, .int (nI (zi + 1))), (0, .ref (g 0)), (1, .int (nI zq)), (2, .int (nI (flt N D R zq)))]) hx hb dX3_read_60 hl (k := 3) rfl (nI_1 _) (by decide) rfl (fun ls hl => ?_)
            refine lv_goto (tgt := 34) hx hb dX3_read_63 (by decide) ?_
            exact ih_34 (zi + 1) (by omega) (by omega) _ _ _ hP hD hS (lv_sub hl [1, 2, 3, 0] rfl)
      rw [← cpy_0 D F (8 + 64 * zq) 0] at hP hD
      exact loop_34 _ 0 (Nat.lt_succ_self _) (by omega) _ _ _ hP hD hS (lv_sub hl [2, 3, 1, 0] rfl)
    · skip
      have c_5 : ¬ (flt N D R zq) = 0 := fun z => c_5 ((nI_eq (a := (flt N D R zq)) (b := 0) (by omega) (by omega)).mpr z)
      have hzn : ¬ a_flt N D R (nI zq) = 0 := by rw [haf]; exact fun h => c_5 ((nI_eq (by omega) (by decide)).mp h)
      have hz2 : ¬ a_flt N D R (nI zq) = -1 := by rw [haf]; exact fl_m1 (by omega)
      refine lv_aload_n hx hb dX3_read_20 rfl (lv_at hl 1 rfl) ?_
      refine lv_dup hx hb dX3_read_21 rfl ?_
      refine va_get (D := G) (ci := 3) (v := .int ft) (C := RX3) (T := TX3) (N := 20) hx hb hts hinX3 hown hK hP 0 rfl rfl 12 (by decide) (hts (.fieldLink RX3 186 "SealedPagesModel" "faults" "I") (by decide +kernel)) (fun _ h => h) rfl dX3_read_22 ?_
      refine lv_iconst (v := 1) hx hb dX3_read_25 (by decide) ?_
      refine lv_iadd hx hb dX3_read_26 ?_
      refine va_put (D := G) (ci := 3) (v := .int (ft + 1)) (ty := .int) (C := RX3) (T := TX3) (N := 20) hx hb hts hinX3 tyX3 tyX3_ok nmX3 hown hK hP hD hS 0 rfl rfl 12 (by decide) (hts (.fieldLink RX3 186 "SealedPagesModel" "faults" "I") (by decide +kernel)) (fun _ h => h) rfl (by decide +kernel) rfl rfl (Nat.le_of_ble_eq_true rfl) dX3_read_27 (fun H locs hP hD hS => ?_)
      have hP : va_P G vwCl (mW g cA N (nI (siz N)) D R F KD KR RW1 OU1 WO1 ST1 WK1 CA ln1 kp rd wr (ft + 1)) _ := hP
      have hD : va_D _ (mW g cA N (nI (siz N)) D R F KD KR RW1 OU1 WO1 ST1 WK1 CA ln1 kp rd wr (ft + 1)) := hD
      have ec_11 : F = s_rdF N D R F (nI zq) := s_rdF_1 hzn
      rw [show mW g cA N (nI (siz N)) D R F KD KR RW1 OU1 WO1 ST1 WK1 CA ln1 kp rd wr (ft + 1) = mW g cA N (nI (siz N)) D R (s_rdF N D R F (nI zq)) KD KR RW1 OU1 WO1 ST1 WK1 CA ln1 kp rd wr (ft + 1) from by rw [← ec_11]] at hP hD
      have ec_12 : rd = s_inc N D R (nI zq) rd := s_inc_1 hzn
      rw [show mW g cA N (nI (siz N)) D R (s_rdF N D R F (nI zq)) KD KR RW1 OU1 WO1 ST1 WK1 CA ln1 kp rd wr (ft + 1) = mW g cA N (nI (siz N)) D R (s_rdF N D R F (nI zq)) KD KR RW1 OU1 WO1 ST1 WK1 CA ln1 kp (s_inc N D R (nI zq) rd) wr (ft + 1) from by rw [← ec_12]] at hP hD
      have ec_13 : ft + 1 = s_ft N D R (nI zq) ft := s_ft_2 hzn hz2
      rw [show mW g cA N (nI (siz N)) D R (s_rdF N D R F (nI zq)) KD KR RW1 OU1 WO1 ST1 WK1 CA ln1 kp (s_inc N D R (nI zq) rd) wr (ft + 1) = mW g cA N (nI (siz N)) D R (s_rdF N D R F (nI zq)) KD KR RW1 OU1 WO1 ST1 WK1 CA ln1 kp (s_inc N D R (nI zq) rd) wr (s_ft N D R (nI zq) ft) from by rw [← ec_13]] at hP hD
      refine lv_iload_n hx hb dX3_read_30 rfl (lv_at hl 0 rfl) ?_
      exact hret _ (RW1, OU1, WO1, ST1, WK1, ln1) _ _ _ _ dX3_read_31 hP hD hS haf.symm
  · skip
    have hz1 : a_flt N D R x = -1 := a_flt_0 c_3
    have hzn : ¬ a_flt N D R x = 0 := by rw [hz1]; decide
    have ec_14 : F = s_rdF N D R F x := s_rdF_1 hzn
    rw [show mW g cA N (nI (siz N)) D R F KD KR RW OU WO ST WK CA ln kp rd wr ft = mW g cA N (nI (siz N)) D R (s_rdF N D R F x) KD KR RW OU WO ST WK CA ln kp rd wr ft from by rw [← ec_14]] at hP hD
    have ec_15 : rd = s_inc N D R x rd := s_inc_1 hzn
    rw [show mW g cA N (nI (siz N)) D R (s_rdF N D R F x) KD KR RW OU WO ST WK CA ln kp rd wr ft = mW g cA N (nI (siz N)) D R (s_rdF N D R F x) KD KR RW OU WO ST WK CA ln kp (s_inc N D R x rd) wr ft from by rw [← ec_15]] at hP hD
    have ec_16 : ft = s_ft N D R x ft := s_ft_1 hzn hz1
    rw [show mW g cA N (nI (siz N)) D R (s_rdF N D R F x) KD KR RW OU WO ST WK CA ln kp (s_inc N D R x rd) wr ft = mW g cA N (nI (siz N)) D R (s_rdF N D R F x) KD KR RW OU WO ST WK CA ln kp (s_inc N D R x rd) wr (s_ft N D R x ft) from by rw [← ec_16]] at hP hD
    refine lv_iconst (v := (-1)) hx hb dX3_read_8 (by decide) ?_
    exact hret _ (RW, OU, WO, ST, WK, ln) _ _ _ _ dX3_read_9 hP hD hS hz1.symm

set_option maxHeartbeats 4000000 in
set_option maxRecDepth 100000 in
theorem c_X3_write (l : Launch) (G : va_G) (cA : ClassId) (tF tC : Nat) (g : Nat → Nat) (sz N : Nat) (hN : 1 ≤ N ∧ N ≤ 64) (D R F KD KR RW OU WO ST WK CA : Nat → Int32) (ln kp rd wr ft : Int32) (x : Int32) : CI l yX3_write wsX3_write 7 169 G cA tF tC g 14 sz (mW g cA N (nI (siz N)) D R F KD KR RW OU WO ST WK CA ln kp rd wr ft) [.ref (g 0), .int x] (fun (u : (Nat → Int32) × (Nat → Int32) × (Nat → Int32) × (Nat → Int32) × (Nat → Int32) × Int32) => mW g cA N (nI (siz N)) (s_wrD N D R F x) (s_wrR N D R F x) F KD KR u.1 u.2.1 u.2.2.1 u.2.2.2.1 u.2.2.2.2.1 CA u.2.2.2.2.2 kp rd (s_inc N D R x wr) (s_ft N D R x ft)) (fun r _ => r = a_flt N D R x) := by
  refine x_entryI (cc := cX3_write) (maxL := 5) (by decide) rfl (fun _ => rfl) (Nat.le_of_ble_eq_true rfl) ?_
  intro p e s m args below meth c Q hx hb hml hown hts hK hP hD hS hT hret ls hl
  have hown : s.vm.findClass RX3 = some m.cls := hown
  have hl : lv_has ls 5 [(0, .ref (g 0)), (1, .int x)] := hl
  have hinX3 : ∀ w ∈ wsX30, w ∈ wsX3_write := by decide +kernel
  have hz := siz_le hN
  have hse := siz_eq N
  have hnd := nds_le hN
  have hlv := lvs_in hN
  refine lv_aload_n hx hb dX3_write_0 rfl (lv_at hl 0 rfl) ?_
  refine lv_iload_n hx hb dX3_write_1 rfl (lv_at hl 1 rfl) ?_
  refine x_vi ⟨hx, hb, hml, hown, hts⟩ (c_X3_isPage l G cA tF tC g _ N hN (nI (siz N)) D R F KD KR RW OU WO ST WK CA ln kp rd wr ft x) (cwV 1 hts gX3_write_X3_isPage rfl rfl rfl (by decide +kernel) ⟨Nat.le_of_ble_eq_true rfl, Nat.le_of_ble_eq_true rfl⟩) hK hP hD hS hT rfl 0 3 rfl rfl rfl hl.1 rfl (Nat.le_of_ble_eq_true rfl) dX3_write_2 ⟨Nat.le_refl _, Nat.le_refl _⟩ (fun r_2 u H locs hp_1 hP hD hS => ?_)
  have hP : va_P G vwCl (mW g cA N (nI (siz N)) D R F KD KR RW OU WO ST WK CA ln kp rd wr ft) _ := hP
  have hD : va_D _ (mW g cA N (nI (siz N)) D R F KD KR RW OU WO ST WK CA ln kp rd wr ft) := hD
  have hp_1 : r_2 = inB x N := hp_1
  subst hp_1
  refine lv_if_ne (tgt := 10) hx hb dX3_write_5 (by decide) (fun c_3 => ?_) (fun c_3 => ?_)
  · skip
    obtain ⟨zq, hq, rfl⟩ := inB_1 (by omega) c_3
    have hfl := flt_le hN D R zq
    have haf := a_flt_1 (D := D) (R := R) hN hq
    have hl : lv_has ls 5 [(0, .ref (g 0)), (1, .int (nI zq))] := hl
    refine lv_aload_n hx hb dX3_write_10 rfl (lv_at hl 0 rfl) ?_
    refine lv_iload_n hx hb dX3_write_11 rfl (lv_at hl 1 rfl) ?_
    refine x_vi ⟨hx, hb, hml, hown, hts⟩ (c_X3_faultOf l G cA tF tC g _ N hN (nI (siz N)) D R F KD KR RW OU WO ST WK CA ln kp rd wr ft zq (by omega)) (cwV 1 hts gX3_write_X3_faultOf rfl rfl rfl (by decide +kernel) ⟨Nat.le_of_ble_eq_true rfl, Nat.le_of_ble_eq_true rfl⟩) hK hP hD hS hT rfl 0 3 rfl rfl rfl hl.1 rfl (Nat.le_of_ble_eq_true rfl) dX3_write_12 ⟨Nat.le_refl _, Nat.le_refl _⟩ (fun r_4 u H locs hp1 hP hD hS => ?_)
    obtain ⟨RW1, OU1, WO1, ST1, WK1, ln1⟩ := u
    have hP : va_P G vwCl (mW g cA N (nI (siz N)) D R F KD KR RW1 OU1 WO1 ST1 WK1 CA ln1 kp rd wr ft) _ := hP
    have hD : va_D _ (mW g cA N (nI (siz N)) D R F KD KR RW1 OU1 WO1 ST1 WK1 CA ln1 kp rd wr ft) := hD
    have hp1 : r_4 = nI (flt N D R zq) := hp1
    subst hp1
    refine lv_istore_n (lv' := [(2, .int (nI (flt N D R zq))), (0, .ref (g 0)), (1, .int (nI zq))]) hx hb dX3_write_15 rfl hl (by decide) rfl (fun ls hl => ?_)
    refine lv_iload_n hx hb dX3_write_16 rfl (lv_at hl 0 rfl) ?_
    refine lv_if_eq (tgt := 32) hx hb dX3_write_17 (by decide) (fun c_5 => ?_) (fun c_5 => ?_)
    · skip
      have c_5 : (flt N D R zq) = 0 := (nI_eq (a := (flt N D R zq)) (b := 0) (by omega) (by omega)).mp c_5
      have hz0 : a_flt N D R (nI zq) = 0 := by rw [haf, c_5]; rfl
      have hpi := page_in hq
      refine lv_iconst (v := 0) hx hb dX3_write_32 (by decide) ?_
      refine lv_istore_n (lv' := [(3, .int 0), (2, .int (nI (flt N D R zq))), (0, .ref (g 0)), (1, .int (nI zq))]) hx hb dX3_write_33 rfl hl (by decide) rfl (fun ls hl => ?_)
      have loop_34 : ∀ (n_34 : Nat) (zi : Nat), (64 - zi) < n_34 → (zi ≤ 64) → ∀ (H : Heap) (locs : List Loc) (ls : Array Slot), va_P G vwCl (mW g cA N (nI (siz N)) (va_cpy F D 0 (8 + 64 * zq) zi) R F KD KR RW1 OU1 WO1 ST1 WK1 CA ln1 kp rd wr ft) H → va_D (wA g 14 s.heap.size) (mW g cA N (nI (siz N)) (va_cpy F D 0 (8 + 64 * zq) zi) R F KD KR RW1 OU1 WO1 ST1 WK1 CA ln1 kp rd wr ft) → va_S (wA g 14 s.heap.size) s.heap H locs → lv_has ls 5 [(0, .ref (g 0)), (1, .int (nI zq)), (2, .int (nI (flt N D R zq))), (3, .int (nI zi))] → W p l e { frames := 7, cells := 0, slots := 0, locals := 169 } s m args below meth c H locs 0 0 Q (F0 m 34 ls []) := by
        intro n_34
        induction n_34 with
        | zero => intro zi hm_34; exact absurd hm_34 (Nat.not_lt_zero _)
        | succ n_34 ih_34 =>
          intro zi hm_34 hi H locs ls hP hD hS hl
          refine lv_iload_n hx hb dX3_write_34 rfl (lv_at hl 3 rfl) ?_
          refine lv_bipush (v := 64) hx hb dX3_write_35 (by decide) ?_
          refine lv_icmp_ge (tgt := 66) hx hb dX3_write_37 (by decide) (fun c_6 => ?_) (fun c_6 => ?_)
          · skip
            have c_6 : 64 ≤ zi := (nI_leI (a := 64) (b := zi) (by omega) (by omega)).mp c_6
            obtain rfl : zi = 64 := by omega
            have hl : lv_has ls 5 [(0, .ref (g 0)), (1, .int (nI zq)), (2, .int (nI (flt N D R zq))), (3, .int (nI 64))] := hl
            refine lv_aload_n hx hb dX3_write_66 rfl (lv_at hl 0 rfl) ?_
            refine x_vi ⟨hx, hb, hml, hown, hts⟩ (c_X3_levelsOf l G cA tF tC g _ N hN (nI (siz N)) (va_cpy F D 0 (8 + 64 * zq) 64) R F KD KR RW1 OU1 WO1 ST1 WK1 CA ln1 kp rd wr ft ) (cwV 0 hts gX3_write_X3_levelsOf rfl rfl rfl (by decide +kernel) ⟨Nat.le_of_ble_eq_true rfl, Nat.le_of_ble_eq_true rfl⟩) hK hP hD hS hT rfl 0 3 rfl rfl rfl hl.1 rfl (Nat.le_of_ble_eq_true rfl) dX3_write_67 ⟨Nat.le_refl _, Nat.le_refl _⟩ (fun r_8 u H locs hp_7 hP hD hS => ?_)
            have hP : va_P G vwCl (mW g cA N (nI (siz N)) (va_cpy F D 0 (8 + 64 * zq) 64) R F KD KR RW1 OU1 WO1 ST1 WK1 CA ln1 kp rd wr ft) _ := hP
            have hD : va_D _ (mW g cA N (nI (siz N)) (va_cpy F D 0 (8 + 64 * zq) 64) R F KD KR RW1 OU1 WO1 ST1 WK1 CA ln1 kp rd wr ft) := hD
            have hp_7 : r_8 = nI (lvs N) := hp_7
            subst hp_7
            refine lv_istore_n (lv' := [(3, .int (nI (lvs N))), (0, .ref (g 0)), (1, .int (nI zq)), (2, .int (nI (flt N D R zq)))]) hx hb dX3_write_70 rfl hl (by decide) rfl (fun ls hl => ?_)
            refine lv_iconst (v := 0) hx hb dX3_write_71 (by decide) ?_
            refine lv_istore (lv' := [(4, .int 0), (3, .int (nI (lvs N))), (0, .ref (g 0)), (1, .int (nI zq)), (2, .int (nI (flt N D R zq)))]) hx hb dX3_write_72 hl (by decide) rfl (fun ls hl => ?_)
            have loop_74 : ∀ (n_74 : Nat) (ql : Nat) (RWz : Nat → Int32) (OUz : Nat → Int32) (WOz : Nat → Int32) (STz : Nat → Int32) (WKz : Nat → Int32) (lnz : Int32), (lvs N - ql) < n_74 → (ql ≤ lvs N) → ∀ (H : Heap) (locs : List Loc) (ls : Array Slot), va_P G vwCl (mW g cA N (nI (siz N)) (sWay N (va_cpy F D 0 (8 + 64 * zq) 64) zq ql) R F KD KR RWz OUz WOz STz WKz CA lnz kp rd wr ft) H → va_D (wA g 14 s.heap.size) (mW g cA N (nI (siz N)) (sWay N (va_cpy F D 0 (8 + 64 * zq) 64) zq ql) R F KD KR RWz OUz WOz STz WKz CA lnz kp rd wr ft) → va_S (wA g 14 s.heap.size) s.heap H locs → lv_has ls 5 [(0, .ref (g 0)), (1, .int (nI zq)), (2, .int (nI (flt N D R zq))), (3, .int (nI (lvs N))), (4, .int (nI ql))] → W p l e { frames := 7, cells := 0, slots := 0, locals := 169 } s m args below meth c H locs 0 0 Q (F0 m 74 ls []) := by
              intro n_74
              induction n_74 with
              | zero => intro ql RWz OUz WOz STz WKz lnz hm_74; exact absurd hm_74 (Nat.not_lt_zero _)
              | succ n_74 ih_74 =>
                intro ql RWz OUz WOz STz WKz lnz hm_74 hql H locs ls hP hD hS hl
                have hpw : zq / 2 ^ ql ≤ zq := Nat.div_le_self _ _
                refine lv_iload hx hb dX3_write_74 (lv_at hl 4 rfl) ?_
                refine lv_iload_n hx hb dX3_write_76 rfl (lv_at hl 3 rfl) ?_
                refine lv_icmp_ge (tgt := 99) hx hb dX3_write_77 (by decide) (fun c_9 => ?_) (fun c_9 => ?_)
                · skip
                  have c_9 : (lvs N) ≤ ql := (nI_leI (a := (lvs N)) (b := ql) (by omega) (by omega)).mp c_9
                  obtain rfl : ql = lvs N := by omega
                  have hl : lv_has ls 5 [(0, .ref (g 0)), (1, .int (nI zq)), (2, .int (nI (flt N D R zq))), (3, .int (nI (lvs N))), (4, .int (nI (lvs N)))] := hl
                  refine lv_aload_n hx hb dX3_write_99 rfl (lv_at hl 0 rfl) ?_
                  refine x_vv ⟨hx, hb, hml, hown, hts⟩ (c_X3_putRoot l G cA tF tC g _ N hN (nI (siz N)) (sWay N (va_cpy F D 0 (8 + 64 * zq) 64) zq (lvs N)) R F KD KR RWz OUz WOz STz WKz CA lnz kp rd wr ft ) (cwV 0 hts gX3_write_X3_putRoot rfl rfl rfl (by decide +kernel) ⟨Nat.le_of_ble_eq_true rfl, Nat.le_of_ble_eq_true rfl⟩) hK hP hD hS hT rfl 0 3 rfl rfl rfl hl.1 rfl (Nat.le_of_ble_eq_true rfl) dX3_write_100 ⟨Nat.le_refl _, Nat.le_refl _⟩ (fun u H locs hp3 hP hD hS => ?_)
                  obtain ⟨RW3, OU3, WO3, ST3, WK3, ln3⟩ := u
                  have hP : va_P G vwCl (mW g cA N (nI (siz N)) (sWay N (va_cpy F D 0 (8 + 64 * zq) 64) zq (lvs N)) (sRoot N (sWay N (va_cpy F D 0 (8 + 64 * zq) 64) zq (lvs N)) R) F KD KR RW3 OU3 WO3 ST3 WK3 CA ln3 kp rd wr ft) _ := hP
                  have hD : va_D _ (mW g cA N (nI (siz N)) (sWay N (va_cpy F D 0 (8 + 64 * zq) 64) zq (lvs N)) (sRoot N (sWay N (va_cpy F D 0 (8 + 64 * zq) 64) zq (lvs N)) R) F KD KR RW3 OU3 WO3 ST3 WK3 CA ln3 kp rd wr ft) := hD
                  refine lv_aload_n hx hb dX3_write_103 rfl (lv_at hl 0 rfl) ?_
                  refine lv_dup hx hb dX3_write_104 rfl ?_
                  refine va_get (D := G) (ci := 3) (v := .int wr) (C := RX3) (T := TX3) (N := 20) hx hb hts hinX3 hown hK hP 0 rfl rfl 11 (by decide) (hts (.fieldLink RX3 198 "SealedPagesModel" "writes" "I") (by decide +kernel)) (fun _ h => h) rfl dX3_write_105 ?_
                  refine lv_iconst (v := 1) hx hb dX3_write_108 (by decide) ?_
                  refine lv_iadd hx hb dX3_write_109 ?_
                  refine va_put (D := G) (ci := 3) (v := .int (wr + 1)) (ty := .int) (C := RX3) (T := TX3) (N := 20) hx hb hts hinX3 tyX3 tyX3_ok nmX3 hown hK hP hD hS 0 rfl rfl 11 (by decide) (hts (.fieldLink RX3 198 "SealedPagesModel" "writes" "I") (by decide +kernel)) (fun _ h => h) rfl (by decide +kernel) rfl rfl (Nat.le_of_ble_eq_true rfl) dX3_write_110 (fun H locs hP hD hS => ?_)
                  have hP : va_P G vwCl (mW g cA N (nI (siz N)) (sWay N (va_cpy F D 0 (8 + 64 * zq) 64) zq (lvs N)) (sRoot N (sWay N (va_cpy F D 0 (8 + 64 * zq) 64) zq (lvs N)) R) F KD KR RW3 OU3 WO3 ST3 WK3 CA ln3 kp rd (wr + 1) ft) _ := hP
                  have hD : va_D _ (mW g cA N (nI (siz N)) (sWay N (va_cpy F D 0 (8 + 64 * zq) 64) zq (lvs N)) (sRoot N (sWay N (va_cpy F D 0 (8 + 64 * zq) 64) zq (lvs N)) R) F KD KR RW3 OU3 WO3 ST3 WK3 CA ln3 kp rd (wr + 1) ft) := hD
                  have ec_11 : sRoot N (sWay N (va_cpy F D 0 (8 + 64 * zq) 64) zq (lvs N)) R = s_wrR N D R F (nI zq) := s_wrR_0 hz0 rfl (by omega)
                  rw [show mW g cA N (nI (siz N)) (sWay N (va_cpy F D 0 (8 + 64 * zq) 64) zq (lvs N)) (sRoot N (sWay N (va_cpy F D 0 (8 + 64 * zq) 64) zq (lvs N)) R) F KD KR RW3 OU3 WO3 ST3 WK3 CA ln3 kp rd (wr + 1) ft = mW g cA N (nI (siz N)) (sWay N (va_cpy F D 0 (8 + 64 * zq) 64) zq (lvs N)) (s_wrR N D R F (nI zq)) F KD KR RW3 OU3 WO3 ST3 WK3 CA ln3 kp rd (wr + 1) ft from by rw [← ec_11]] at hP hD
                  have ec_12 : sWay N (va_cpy F D 0 (8 + 64 * zq) 64) zq (lvs N) = s_wrD N D R F (nI zq) := s_wrD_0 hz0 rfl (by omega)
                  rw [show mW g cA N (nI (siz N)) (sWay N (va_cpy F D 0 (8 + 64 * zq) 64) zq (lvs N)) (s_wrR N D R F (nI zq)) F KD KR RW3 OU3 WO3 ST3 WK3 CA ln3 kp rd (wr + 1) ft = mW g cA N (nI (siz N)) (s_wrD N D R F (nI zq)) (s_wrR N D R F (nI zq)) F KD KR RW3 OU3 WO3 ST3 WK3 CA ln3 kp rd (wr + 1) ft from by rw [← ec_12]] at hP hD
                  have ec_13 : wr + 1 = s_inc N D R (nI zq) wr := s_inc_0 hz0
                  rw [show mW g cA N (nI (siz N)) (s_wrD N D R F (nI zq)) (s_wrR N D R F (nI zq)) F KD KR RW3 OU3 WO3 ST3 WK3 CA ln3 kp rd (wr + 1) ft = mW g cA N (nI (siz N)) (s_wrD N D R F (nI zq)) (s_wrR N D R F (nI zq)) F KD KR RW3 OU3 WO3 ST3 WK3 CA ln3 kp rd (s_inc N D R (nI zq) wr) ft from by rw [← ec_13]] at hP hD
                  have ec_14 : ft = s_ft N D R (nI zq) ft := s_ft_0 hz0
                  rw [show mW g cA N (nI (siz N)) (s_wrD N D R F (nI zq)) (s_wrR N D R F (nI zq)) F KD KR RW3 OU3 WO3 ST3 WK3 CA ln3 kp rd (s_inc N D R (nI zq) wr) ft = mW g cA N (nI (siz N)) (s_wrD N D R F (nI zq)) (s_wrR N D R F (nI zq)) F KD KR RW3 OU3 WO3 ST3 WK3 CA ln3 kp rd (s_inc N D R (nI zq) wr) (s_ft N D R (nI zq) ft) from by rw [← ec_14]] at hP hD
                  refine lv_iconst (v := 0) hx hb dX3_write_113 (by decide) ?_
                  exact hret _ (RW3, OU3, WO3, ST3, WK3, ln3) _ _ _ _ dX3_write_114 hP hD hS hz0.symm
                · skip
                  have c_9 : ¬ (lvs N) ≤ ql := fun z => c_9 ((nI_leI (a := (lvs N)) (b := ql) (by omega) (by omega)).mpr z)
                  refine lv_aload_n hx hb dX3_write_80 rfl (lv_at hl 0 rfl) ?_
                  refine lv_iload hx hb dX3_write_81 (lv_at hl 4 rfl) ?_
                  refine lv_aload_n hx hb dX3_write_83 rfl (lv_at hl 0 rfl) ?_
                  refine lv_iload_n hx hb dX3_write_84 rfl (lv_at hl 1 rfl) ?_
                  refine lv_iload hx hb dX3_write_85 (lv_at hl 4 rfl) ?_
                  refine x_vi ⟨hx, hb, hml, hown, hts⟩ (c_X3_nodeOn l G cA tF tC g _ N hN (nI (siz N)) (sWay N (va_cpy F D 0 (8 + 64 * zq) 64) zq ql) R F KD KR RWz OUz WOz STz WKz CA lnz kp rd wr ft zq ql (by omega) (by omega)) (cwV 2 hts gX3_write_X3_nodeOn rfl rfl rfl (by decide +kernel) ⟨Nat.le_of_ble_eq_true rfl, Nat.le_of_ble_eq_true rfl⟩) hK hP hD hS hT rfl 0 3 rfl rfl rfl hl.1 rfl (Nat.le_of_ble_eq_true rfl) dX3_write_87 ⟨Nat.le_refl _, Nat.le_refl _⟩ (fun r_16 u H locs hp_15 hP hD hS => ?_)
                  have hP : va_P G vwCl (mW g cA N (nI (siz N)) (sWay N (va_cpy F D 0 (8 + 64 * zq) 64) zq ql) R F KD KR RWz OUz WOz STz WKz CA lnz kp rd wr ft) _ := hP
                  have hD : va_D _ (mW g cA N (nI (siz N)) (sWay N (va_cpy F D 0 (8 + 64 * zq) 64) zq ql) R F KD KR RWz OUz WOz STz WKz CA lnz kp rd wr ft) := hD
                  have hp_15 : r_16 = nI (zq / 2 ^ ql) := hp_15
                  subst hp_15
                  refine x_vv ⟨hx, hb, hml, hown, hts⟩ (c_X3_putNode l G cA tF tC g _ N hN (nI (siz N)) (sWay N (va_cpy F D 0 (8 + 64 * zq) 64) zq ql) R F KD KR RWz OUz WOz STz WKz CA lnz kp rd wr ft ql (zq / 2 ^ ql) (by omega) (way_in hq ql)) (cwV 2 hts gX3_write_X3_putNode rfl rfl rfl (by decide +kernel) ⟨Nat.le_of_ble_eq_true rfl, Nat.le_of_ble_eq_true rfl⟩) hK hP hD hS hT rfl 0 3 rfl rfl rfl hl.1 rfl (Nat.le_of_ble_eq_true rfl) dX3_write_90 ⟨Nat.le_refl _, Nat.le_refl _⟩ (fun u H locs hp2 hP hD hS => ?_)
                  obtain ⟨RW2, OU2, WO2, ST2, WK2, ln2⟩ := u
                  have hP : va_P G vwCl (mW g cA N (nI (siz N)) (sWay N (va_cpy F D 0 (8 + 64 * zq) 64) zq (ql + 1)) R F KD KR RW2 OU2 WO2 ST2 WK2 CA ln2 kp rd wr ft) _ := hP
                  have hD : va_D _ (mW g cA N (nI (siz N)) (sWay N (va_cpy F D 0 (8 + 64 * zq) 64) zq (ql + 1)) R F KD KR RW2 OU2 WO2 ST2 WK2 CA ln2 kp rd wr ft) := hD
                  refine lv_iinc (v := nI (ql + 1)) (lv' := [(4, .int (nI (ql + 1))), (0, .ref (g 0)), (1, .int (nI zq)), (2, .int (nI (flt N D R zq))), (3, .int (nI (lvs N)))]) hx hb dX3_write_93 hl (k := 4) rfl (nI_1 _) (by decide) rfl (fun ls hl => ?_)
                  refine lv_goto (tgt := 74) hx hb dX3_write_96 (by decide) ?_
                  exact ih_74 (ql + 1) RW2 OU2 WO2 ST2 WK2 ln2 (by omega) (by omega) _ _ _ hP hD hS (lv_sub hl [1, 2, 3, 4, 0] rfl)
            exact loop_74 _ 0 RW1 OU1 WO1 ST1 WK1 ln1 (Nat.lt_succ_self _) (by omega) _ _ _ hP hD hS (lv_sub hl [2, 3, 4, 1, 0] rfl)
          · skip
            have c_6 : ¬ 64 ≤ zi := fun z => c_6 ((nI_leI (a := 64) (b := zi) (by omega) (by omega)).mpr z)
            refine lv_aload_n hx hb dX3_write_40 rfl (lv_at hl 0 rfl) ?_
            refine va_get (D := G) (ci := 3) (v := .ref (g 3)) (C := RX3) (T := TX3) (N := 20) hx hb hts hinX3 hown hK hP 0 rfl rfl 4 (by decide) (hts (.fieldLink RX3 88 "SealedPagesModel" "disk" "[I") (by decide +kernel)) (fun _ h => h) rfl dX3_write_41 ?_
            refine lv_bipush (v := 8) hx hb dX3_write_44 (by decide) ?_
            refine lv_bipush (v := 64) hx hb dX3_write_46 (by decide) ?_
            refine lv_iload_n hx hb dX3_write_48 rfl (lv_at hl 1 rfl) ?_
            refine lv_imul hx hb dX3_write_49 ?_
            refine x_eqi (y := nI (64 * zq)) (pk_mul 64 zq) ?_
            refine lv_iadd hx hb dX3_write_50 ?_
            refine x_eqi (y := nI (8 + (64 * zq))) (nI_add 8 (64 * zq)) ?_
            refine lv_iload_n hx hb dX3_write_51 rfl (lv_at hl 3 rfl) ?_
            refine lv_iadd hx hb dX3_write_52 ?_
            refine x_eqi (y := nI ((8 + (64 * zq)) + zi)) (nI_add (8 + (64 * zq)) zi) ?_
            refine lv_aload_n hx hb dX3_write_53 rfl (lv_at hl 0 rfl) ?_
            refine va_get (D := G) (ci := 3) (v := .ref (g 5)) (C := RX3) (T := TX3) (N := 20) hx hb hts hinX3 hown hK hP 0 rfl rfl 6 (by decide) (hts (.fieldLink RX3 94 "SealedPagesModel" "draft" "[I") (by decide +kernel)) (fun _ h => h) rfl dX3_write_54 ?_
            refine lv_iload_n hx hb dX3_write_57 rfl (lv_at hl 3 rfl) ?_
            refine x_ald (i := zi) hx hb hK hP 5 0 rfl rfl (by omega) (by decide) dX3_write_58 ?_
            refine x_ast (i := (8 + (64 * zq)) + zi) hx hb hK hP hD hS 3 0 rfl rfl (by omega) (by decide) dX3_write_59 (fun H locs hP hD hS => ?_)
            have hP : va_P G vwCl (mW g cA N (nI (siz N)) (upd (va_cpy F D 0 (8 + 64 * zq) zi) ((8 + (64 * zq)) + zi) (F zi)) R F KD KR RW1 OU1 WO1 ST1 WK1 CA ln1 kp rd wr ft) _ := hP
            have hD : va_D _ (mW g cA N (nI (siz N)) (upd (va_cpy F D 0 (8 + 64 * zq) zi) ((8 + (64 * zq)) + zi) (F zi)) R F KD KR RW1 OU1 WO1 ST1 WK1 CA ln1 kp rd wr ft) := hD
            have ec_18 : upd (va_cpy F D 0 (8 + 64 * zq) zi) ((8 + (64 * zq)) + zi) (F zi) = va_cpy F D 0 (8 + 64 * zq) (zi + 1) := by have h := cpy_s F D 0 (8 + 64 * zq) zi; rwa [Nat.zero_add] at h
            rw [show mW g cA N (nI (siz N)) (upd (va_cpy F D 0 (8 + 64 * zq) zi) ((8 + (64 * zq)) + zi) (F zi)) R F KD KR RW1 OU1 WO1 ST1 WK1 CA ln1 kp rd wr ft = mW g cA N (nI (siz N)) (va_cpy F D 0 (8 + 64 * zq) (zi + 1)) R F KD KR RW1 OU1 WO1 ST1 WK1 CA ln1 kp rd wr ft from by rw [← ec_18]] at hP hD
            refine lv_iinc (v := nI (zi + 1)) (lv' := [(3, .int (nI (zi + 1))), (0, .ref (g 0)), (1, .int (nI zq)), (2, .int (nI (flt N D R zq)))]) hx hb dX3_write_60 hl (k := 3) rfl (nI_1 _) (by decide) rfl (fun ls hl => ?_)
            refine lv_goto (tgt := 34) hx hb dX3_write_63 (by decide) ?_
            exact ih_34 (zi + 1) (by omega) (by omega) _ _ _ hP hD hS (lv_sub hl [1, 2, 3, 0] rfl)
      rw [← cpy_0 F D 0 (8 + 64 * zq)] at hP hD
      exact loop_34 _ 0 (Nat.lt_succ_self _) (by omega) _ _ _ hP hD hS (lv_sub hl [2, 3, 1, 0] rfl)
    · skip
      have c_5 : ¬ (flt N D R zq) = 0 := fun z => c_5 ((nI_eq (a := (flt N D R zq)) (b := 0) (by omega) (by omega)).mpr z)
      have hzn : ¬ a_flt N D R (nI zq) = 0 := by rw [haf]; exact fun h => c_5 ((nI_eq (by omega) (by decide)).mp h)
      have hz2 : ¬ a_flt N D R (nI zq) = -1 := by rw [haf]; exact fl_m1 (by omega)
      refine lv_aload_n hx hb dX3_write_20 rfl (lv_at hl 1 rfl) ?_
      refine lv_dup hx hb dX3_write_21 rfl ?_
      refine va_get (D := G) (ci := 3) (v := .int ft) (C := RX3) (T := TX3) (N := 20) hx hb hts hinX3 hown hK hP 0 rfl rfl 12 (by decide) (hts (.fieldLink RX3 186 "SealedPagesModel" "faults" "I") (by decide +kernel)) (fun _ h => h) rfl dX3_write_22 ?_
      refine lv_iconst (v := 1) hx hb dX3_write_25 (by decide) ?_
      refine lv_iadd hx hb dX3_write_26 ?_
      refine va_put (D := G) (ci := 3) (v := .int (ft + 1)) (ty := .int) (C := RX3) (T := TX3) (N := 20) hx hb hts hinX3 tyX3 tyX3_ok nmX3 hown hK hP hD hS 0 rfl rfl 12 (by decide) (hts (.fieldLink RX3 186 "SealedPagesModel" "faults" "I") (by decide +kernel)) (fun _ h => h) rfl (by decide +kernel) rfl rfl (Nat.le_of_ble_eq_true rfl) dX3_write_27 (fun H locs hP hD hS => ?_)
      have hP : va_P G vwCl (mW g cA N (nI (siz N)) D R F KD KR RW1 OU1 WO1 ST1 WK1 CA ln1 kp rd wr (ft + 1)) _ := hP
      have hD : va_D _ (mW g cA N (nI (siz N)) D R F KD KR RW1 OU1 WO1 ST1 WK1 CA ln1 kp rd wr (ft + 1)) := hD
      have ec_19 : R = s_wrR N D R F (nI zq) := s_wrR_1 hzn
      rw [show mW g cA N (nI (siz N)) D R F KD KR RW1 OU1 WO1 ST1 WK1 CA ln1 kp rd wr (ft + 1) = mW g cA N (nI (siz N)) D (s_wrR N D R F (nI zq)) F KD KR RW1 OU1 WO1 ST1 WK1 CA ln1 kp rd wr (ft + 1) from by rw [← ec_19]] at hP hD
      have ec_20 : D = s_wrD N D R F (nI zq) := s_wrD_1 hzn
      rw [show mW g cA N (nI (siz N)) D (s_wrR N D R F (nI zq)) F KD KR RW1 OU1 WO1 ST1 WK1 CA ln1 kp rd wr (ft + 1) = mW g cA N (nI (siz N)) (s_wrD N D R F (nI zq)) (s_wrR N D R F (nI zq)) F KD KR RW1 OU1 WO1 ST1 WK1 CA ln1 kp rd wr (ft + 1) from by rw [← ec_20]] at hP hD
      have ec_21 : wr = s_inc N D R (nI zq) wr := s_inc_1 hzn
      rw [show mW g cA N (nI (siz N)) (s_wrD N D R F (nI zq)) (s_wrR N D R F (nI zq)) F KD KR RW1 OU1 WO1 ST1 WK1 CA ln1 kp rd wr (ft + 1) = mW g cA N (nI (siz N)) (s_wrD N D R F (nI zq)) (s_wrR N D R F (nI zq)) F KD KR RW1 OU1 WO1 ST1 WK1 CA ln1 kp rd (s_inc N D R (nI zq) wr) (ft + 1) from by rw [← ec_21]] at hP hD
      have ec_22 : ft + 1 = s_ft N D R (nI zq) ft := s_ft_2 hzn hz2
      rw [show mW g cA N (nI (siz N)) (s_wrD N D R F (nI zq)) (s_wrR N D R F (nI zq)) F KD KR RW1 OU1 WO1 ST1 WK1 CA ln1 kp rd (s_inc N D R (nI zq) wr) (ft + 1) = mW g cA N (nI (siz N)) (s_wrD N D R F (nI zq)) (s_wrR N D R F (nI zq)) F KD KR RW1 OU1 WO1 ST1 WK1 CA ln1 kp rd (s_inc N D R (nI zq) wr) (s_ft N D R (nI zq) ft) from by rw [← ec_22]] at hP hD
      refine lv_iload_n hx hb dX3_write_30 rfl (lv_at hl 0 rfl) ?_
      exact hret _ (RW1, OU1, WO1, ST1, WK1, ln1) _ _ _ _ dX3_write_31 hP hD hS haf.symm
  · skip
    have hz1 : a_flt N D R x = -1 := a_flt_0 c_3
    have hzn : ¬ a_flt N D R x = 0 := by rw [hz1]; decide
    have ec_23 : R = s_wrR N D R F x := s_wrR_1 hzn
    rw [show mW g cA N (nI (siz N)) D R F KD KR RW OU WO ST WK CA ln kp rd wr ft = mW g cA N (nI (siz N)) D (s_wrR N D R F x) F KD KR RW OU WO ST WK CA ln kp rd wr ft from by rw [← ec_23]] at hP hD
    have ec_24 : D = s_wrD N D R F x := s_wrD_1 hzn
    rw [show mW g cA N (nI (siz N)) D (s_wrR N D R F x) F KD KR RW OU WO ST WK CA ln kp rd wr ft = mW g cA N (nI (siz N)) (s_wrD N D R F x) (s_wrR N D R F x) F KD KR RW OU WO ST WK CA ln kp rd wr ft from by rw [← ec_24]] at hP hD
    have ec_25 : wr = s_inc N D R x wr := s_inc_1 hzn
    rw [show mW g cA N (nI (siz N)) (s_wrD N D R F x) (s_wrR N D R F x) F KD KR RW OU WO ST WK CA ln kp rd wr ft = mW g cA N (nI (siz N)) (s_wrD N D R F x) (s_wrR N D R F x) F KD KR RW OU WO ST WK CA ln kp rd (s_inc N D R x wr) ft from by rw [← ec_25]] at hP hD
    have ec_26 : ft = s_ft N D R x ft := s_ft_1 hzn hz1
    rw [show mW g cA N (nI (siz N)) (s_wrD N D R F x) (s_wrR N D R F x) F KD KR RW OU WO ST WK CA ln kp rd (s_inc N D R x wr) ft = mW g cA N (nI (siz N)) (s_wrD N D R F x) (s_wrR N D R F x) F KD KR RW OU WO ST WK CA ln kp rd (s_inc N D R x wr) (s_ft N D R x ft) from by rw [← ec_26]] at hP hD
    refine lv_iconst (v := (-1)) hx hb dX3_write_8 (by decide) ?_
    exact hret _ (RW, OU, WO, ST, WK, ln) _ _ _ _ dX3_write_9 hP hD hS hz1.symm

set_option maxHeartbeats 4000000 in
set_option maxRecDepth 100000 in
theorem c_X3_seal (l : Launch) (G : va_G) (cA : ClassId) (tF tC : Nat) (g : Nat → Nat) (sz N : Nat) (hN : 1 ≤ N ∧ N ≤ 64) (D R F KD KR RW OU WO ST WK CA : Nat → Int32) (ln kp rd wr ft : Int32)  : CI l yX3_seal wsX3_seal 6 146 G cA tF tC g 14 sz (mW g cA N (nI (siz N)) D R F KD KR RW OU WO ST WK CA ln kp rd wr ft) [.ref (g 0)] (fun (u : (Nat → Int32) × (Nat → Int32) × (Nat → Int32) × (Nat → Int32) × (Nat → Int32) × Int32) => mW g cA N (nI (siz N)) (sAll N D) (sRoot N (sAll N D) R) F KD KR u.1 u.2.1 u.2.2.1 u.2.2.2.1 u.2.2.2.2.1 CA u.2.2.2.2.2 kp rd wr ft) (fun r _ => r = nI (nds N)) := by
  refine x_entryI (cc := cX3_seal) (maxL := 6) (by decide) rfl (fun _ => rfl) (Nat.le_of_ble_eq_true rfl) ?_
  intro p e s m args below meth c Q hx hb hml hown hts hK hP hD hS hT hret ls hl
  have hown : s.vm.findClass RX3 = some m.cls := hown
  have hl : lv_has ls 6 [(0, .ref (g 0))] := hl
  have hinX3 : ∀ w ∈ wsX30, w ∈ wsX3_seal := by decide +kernel
  have hz := siz_le hN
  have hse := siz_eq N
  have hnd := nds_le hN
  have hlv := lvs_in hN
  refine lv_iconst (v := 0) hx hb dX3_seal_0 (by decide) ?_
  refine lv_istore_n (lv' := [(1, .int 0), (0, .ref (g 0))]) hx hb dX3_seal_1 rfl hl (by decide) rfl (fun ls hl => ?_)
  have loop_2 : ∀ (n_2 : Nat) (zi : Nat), (8 - zi) < n_2 → (zi ≤ 8) → ∀ (H : Heap) (locs : List Loc) (ls : Array Slot), va_P G vwCl (mW g cA N (nI (siz N)) (va_cpy (hed N) D 0 0 zi) R F KD KR RW OU WO ST WK CA ln kp rd wr ft) H → va_D (wA g 14 s.heap.size) (mW g cA N (nI (siz N)) (va_cpy (hed N) D 0 0 zi) R F KD KR RW OU WO ST WK CA ln kp rd wr ft) → va_S (wA g 14 s.heap.size) s.heap H locs → lv_has ls 6 [(0, .ref (g 0)), (1, .int (nI zi))] → W p l e { frames := 6, cells := 0, slots := 0, locals := 146 } s m args below meth c H locs 0 0 Q (F0 m 2 ls []) := by
    intro n_2
    induction n_2 with
    | zero => intro zi hm_2; exact absurd hm_2 (Nat.not_lt_zero _)
    | succ n_2 ih_2 =>
      intro zi hm_2 hi H locs ls hP hD hS hl
      refine lv_iload_n hx hb dX3_seal_2 rfl (lv_at hl 1 rfl) ?_
      refine lv_bipush (v := 8) hx hb dX3_seal_3 (by decide) ?_
      refine lv_icmp_ge (tgt := 25) hx hb dX3_seal_5 (by decide) (fun c_1 => ?_) (fun c_1 => ?_)
      · skip
        have c_1 : 8 ≤ zi := (nI_leI (a := 8) (b := zi) (by omega) (by omega)).mp c_1
        obtain rfl : zi = 8 := by omega
        have hl : lv_has ls 6 [(0, .ref (g 0)), (1, .int (nI 8))] := hl
        refine lv_aload_n hx hb dX3_seal_25 rfl (lv_at hl 0 rfl) ?_
        refine x_vi ⟨hx, hb, hml, hown, hts⟩ (c_X3_levelsOf l G cA tF tC g _ N hN (nI (siz N)) (va_cpy (hed N) D 0 0 8) R F KD KR RW OU WO ST WK CA ln kp rd wr ft ) (cwV 0 hts gX3_seal_X3_levelsOf rfl rfl rfl (by decide +kernel) ⟨Nat.le_of_ble_eq_true rfl, Nat.le_of_ble_eq_true rfl⟩) hK hP hD hS hT rfl 0 3 rfl rfl rfl hl.1 rfl (Nat.le_of_ble_eq_true rfl) dX3_seal_26 ⟨Nat.le_refl _, Nat.le_refl _⟩ (fun r_3 u H locs hp_2 hP hD hS => ?_)
        have hP : va_P G vwCl (mW g cA N (nI (siz N)) (va_cpy (hed N) D 0 0 8) R F KD KR RW OU WO ST WK CA ln kp rd wr ft) _ := hP
        have hD : va_D _ (mW g cA N (nI (siz N)) (va_cpy (hed N) D 0 0 8) R F KD KR RW OU WO ST WK CA ln kp rd wr ft) := hD
        have hp_2 : r_3 = nI (lvs N) := hp_2
        subst hp_2
        refine lv_istore_n (lv' := [(1, .int (nI (lvs N))), (0, .ref (g 0))]) hx hb dX3_seal_29 rfl hl (by decide) rfl (fun ls hl => ?_)
        refine lv_iconst (v := 0) hx hb dX3_seal_30 (by decide) ?_
        refine lv_istore_n (lv' := [(2, .int 0), (1, .int (nI (lvs N))), (0, .ref (g 0))]) hx hb dX3_seal_31 rfl hl (by decide) rfl (fun ls hl => ?_)
        refine lv_iconst (v := 0) hx hb dX3_seal_32 (by decide) ?_
        refine lv_istore_n (lv' := [(3, .int 0), (2, .int 0), (1, .int (nI (lvs N))), (0, .ref (g 0))]) hx hb dX3_seal_33 rfl hl (by decide) rfl (fun ls hl => ?_)
        have loop_34 : ∀ (n_34 : Nat) (ql : Nat) (RWz : Nat → Int32) (OUz : Nat → Int32) (WOz : Nat → Int32) (STz : Nat → Int32) (WKz : Nat → Int32) (lnz : Int32), (lvs N - ql) < n_34 → (ql ≤ lvs N) → ∀ (H : Heap) (locs : List Loc) (ls : Array Slot), va_P G vwCl (mW g cA N (nI (siz N)) (sTree N (va_cpy (hed N) D 0 0 8) ql) R F KD KR RWz OUz WOz STz WKz CA lnz kp rd wr ft) H → va_D (wA g 14 s.heap.size) (mW g cA N (nI (siz N)) (sTree N (va_cpy (hed N) D 0 0 8) ql) R F KD KR RWz OUz WOz STz WKz CA lnz kp rd wr ft) → va_S (wA g 14 s.heap.size) s.heap H locs → lv_has ls 6 [(0, .ref (g 0)), (1, .int (nI (lvs N))), (2, .int (nI (ahd N ql))), (3, .int (nI ql))] → W p l e { frames := 6, cells := 0, slots := 0, locals := 146 } s m args below meth c H locs 0 0 Q (F0 m 34 ls []) := by
          intro n_34
          induction n_34 with
          | zero => intro ql RWz OUz WOz STz WKz lnz hm_34; exact absurd hm_34 (Nat.not_lt_zero _)
          | succ n_34 ih_34 =>
            intro ql RWz OUz WOz STz WKz lnz hm_34 hql H locs ls hP hD hS hl
            refine lv_iload_n hx hb dX3_seal_34 rfl (lv_at hl 3 rfl) ?_
            refine lv_iload_n hx hb dX3_seal_35 rfl (lv_at hl 1 rfl) ?_
            refine lv_icmp_ge (tgt := 78) hx hb dX3_seal_36 (by decide) (fun c_4 => ?_) (fun c_4 => ?_)
            · skip
              have c_4 : (lvs N) ≤ ql := (nI_leI (a := (lvs N)) (b := ql) (by omega) (by omega)).mp c_4
              obtain rfl : ql = lvs N := by omega
              have hl : lv_has ls 6 [(0, .ref (g 0)), (1, .int (nI (lvs N))), (2, .int (nI (ahd N (lvs N)))), (3, .int (nI (lvs N)))] := hl
              refine lv_aload_n hx hb dX3_seal_78 rfl (lv_at hl 0 rfl) ?_
              refine x_vv ⟨hx, hb, hml, hown, hts⟩ (c_X3_putRoot l G cA tF tC g _ N hN (nI (siz N)) (sTree N (va_cpy (hed N) D 0 0 8) (lvs N)) R F KD KR RWz OUz WOz STz WKz CA lnz kp rd wr ft ) (cwV 0 hts gX3_seal_X3_putRoot rfl rfl rfl (by decide +kernel) ⟨Nat.le_of_ble_eq_true rfl, Nat.le_of_ble_eq_true rfl⟩) hK hP hD hS hT rfl 0 3 rfl rfl rfl hl.1 rfl (Nat.le_of_ble_eq_true rfl) dX3_seal_79 ⟨Nat.le_refl _, Nat.le_refl _⟩ (fun u H locs hp3 hP hD hS => ?_)
              obtain ⟨RW3, OU3, WO3, ST3, WK3, ln3⟩ := u
              have hP : va_P G vwCl (mW g cA N (nI (siz N)) (sAll N D) (sRoot N (sAll N D) R) F KD KR RW3 OU3 WO3 ST3 WK3 CA ln3 kp rd wr ft) _ := hP
              have hD : va_D _ (mW g cA N (nI (siz N)) (sAll N D) (sRoot N (sAll N D) R) F KD KR RW3 OU3 WO3 ST3 WK3 CA ln3 kp rd wr ft) := hD
              refine lv_iload_n hx hb dX3_seal_82 rfl (lv_at hl 2 rfl) ?_
              exact hret _ (RW3, OU3, WO3, ST3, WK3, ln3) _ _ _ _ dX3_seal_83 hP hD hS rfl
            · skip
              have c_4 : ¬ (lvs N) ≤ ql := fun z => c_4 ((nI_leI (a := (lvs N)) (b := ql) (by omega) (by omega)).mpr z)
              refine lv_aload_n hx hb dX3_seal_39 rfl (lv_at hl 0 rfl) ?_
              refine lv_iload_n hx hb dX3_seal_40 rfl (lv_at hl 3 rfl) ?_
              refine x_vi ⟨hx, hb, hml, hown, hts⟩ (c_X3_nodesOf l G cA tF tC g _ N hN (nI (siz N)) (sTree N (va_cpy (hed N) D 0 0 8) ql) R F KD KR RWz OUz WOz STz WKz CA lnz kp rd wr ft (ql) (by omega)) (cwV 1 hts gX3_seal_X3_nodesOf rfl rfl rfl (by decide +kernel) ⟨Nat.le_of_ble_eq_true rfl, Nat.le_of_ble_eq_true rfl⟩) hK hP hD hS hT rfl 0 3 rfl rfl rfl hl.1 rfl (Nat.le_of_ble_eq_true rfl) dX3_seal_41 ⟨Nat.le_refl _, Nat.le_refl _⟩ (fun r_7 u H locs hp_6 hP hD hS => ?_)
              have hP : va_P G vwCl (mW g cA N (nI (siz N)) (sTree N (va_cpy (hed N) D 0 0 8) ql) R F KD KR RWz OUz WOz STz WKz CA lnz kp rd wr ft) _ := hP
              have hD : va_D _ (mW g cA N (nI (siz N)) (sTree N (va_cpy (hed N) D 0 0 8) ql) R F KD KR RWz OUz WOz STz WKz CA lnz kp rd wr ft) := hD
              have hp_6 : r_7 = nI (nod N ql) := hp_6
              subst hp_6
              refine lv_istore (lv' := [(4, .int (nI (nod N ql))), (0, .ref (g 0)), (1, .int (nI (lvs N))), (2, .int (nI (ahd N ql))), (3, .int (nI ql))]) hx hb dX3_seal_44 hl (by decide) rfl (fun ls hl => ?_)
              refine lv_iconst (v := 0) hx hb dX3_seal_46 (by decide) ?_
              refine lv_istore (lv' := [(5, .int 0), (4, .int (nI (nod N ql))), (0, .ref (g 0)), (1, .int (nI (lvs N))), (2, .int (nI (ahd N ql))), (3, .int (nI ql))]) hx hb dX3_seal_47 hl (by decide) rfl (fun ls hl => ?_)
              have hnl := nod_in hN (show ql < lvs N by omega)
              have hnk := nod_le N hN.1 ql
              have loop_49 : ∀ (n_49 : Nat) (qk : Nat) (RWy : Nat → Int32) (OUy : Nat → Int32) (WOy : Nat → Int32) (STy : Nat → Int32) (WKy : Nat → Int32) (lny : Int32), (nod N ql - qk) < n_49 → (qk ≤ nod N ql) → ∀ (H : Heap) (locs : List Loc) (ls : Array Slot), va_P G vwCl (mW g cA N (nI (siz N)) (sLev N ql (sTree N (va_cpy (hed N) D 0 0 8) ql) qk) R F KD KR RWy OUy WOy STy WKy CA lny kp rd wr ft) H → va_D (wA g 14 s.heap.size) (mW g cA N (nI (siz N)) (sLev N ql (sTree N (va_cpy (hed N) D 0 0 8) ql) qk) R F KD KR RWy OUy WOy STy WKy CA lny kp rd wr ft) → va_S (wA g 14 s.heap.size) s.heap H locs → lv_has ls 6 [(0, .ref (g 0)), (1, .int (nI (lvs N))), (2, .int (nI (ahd N ql + qk))), (3, .int (nI ql)), (4, .int (nI (nod N ql))), (5, .int (nI qk))] → W p l e { frames := 6, cells := 0, slots := 0, locals := 146 } s m args below meth c H locs 0 0 Q (F0 m 49 ls []) := by
                intro n_49
                induction n_49 with
                | zero => intro qk RWy OUy WOy STy WKy lny hm_49; exact absurd hm_49 (Nat.not_lt_zero _)
                | succ n_49 ih_49 =>
                  intro qk RWy OUy WOy STy WKy lny hm_49 hqk H locs ls hP hD hS hl
                  refine lv_iload hx hb dX3_seal_49 (lv_at hl 5 rfl) ?_
                  refine lv_iload hx hb dX3_seal_51 (lv_at hl 4 rfl) ?_
                  refine lv_icmp_ge (tgt := 72) hx hb dX3_seal_53 (by decide) (fun c_8 => ?_) (fun c_8 => ?_)
                  · skip
                    have c_8 : (nod N ql) ≤ qk := (nI_leI (a := (nod N ql)) (b := qk) (by omega) (by omega)).mp c_8
                    obtain rfl : qk = nod N ql := by omega
                    have hl : lv_has ls 6 [(0, .ref (g 0)), (1, .int (nI (lvs N))), (2, .int (nI (ahd N ql + (nod N ql)))), (3, .int (nI ql)), (4, .int (nI (nod N ql))), (5, .int (nI (nod N ql)))] := hl
                    refine lv_iinc (v := nI (ql + 1)) (lv' := [(3, .int (nI (ql + 1))), (0, .ref (g 0)), (1, .int (nI (lvs N))), (2, .int (nI (ahd N ql + (nod N ql)))), (4, .int (nI (nod N ql))), (5, .int (nI (nod N ql)))]) hx hb dX3_seal_72 hl (k := 3) rfl (nI_1 _) (by decide) rfl (fun ls hl => ?_)
                    refine lv_goto (tgt := 34) hx hb dX3_seal_75 (by decide) ?_
                    exact ih_34 (ql + 1) RWy OUy WOy STy WKy lny (by omega) (by omega) _ _ _ hP hD hS (lv_sub hl [1, 2, 3, 0] rfl)
                  · skip
                    have c_8 : ¬ (nod N ql) ≤ qk := fun z => c_8 ((nI_leI (a := (nod N ql)) (b := qk) (by omega) (by omega)).mpr z)
                    refine lv_aload_n hx hb dX3_seal_56 rfl (lv_at hl 0 rfl) ?_
                    refine lv_iload_n hx hb dX3_seal_57 rfl (lv_at hl 3 rfl) ?_
                    refine lv_iload hx hb dX3_seal_58 (lv_at hl 5 rfl) ?_
                    refine x_vv ⟨hx, hb, hml, hown, hts⟩ (c_X3_putNode l G cA tF tC g _ N hN (nI (siz N)) (sLev N ql (sTree N (va_cpy (hed N) D 0 0 8) ql) qk) R F KD KR RWy OUy WOy STy WKy CA lny kp rd wr ft ql qk (by omega) (by omega)) (cwV 2 hts gX3_seal_X3_putNode rfl rfl rfl (by decide +kernel) ⟨Nat.le_of_ble_eq_true rfl, Nat.le_of_ble_eq_true rfl⟩) hK hP hD hS hT rfl 0 3 rfl rfl rfl hl.1 rfl (Nat.le_of_ble_eq_true rfl) dX3_seal_60 ⟨Nat.le_refl _, Nat.le_refl _⟩ (fun u H locs hp2 hP hD hS => ?_)
                    obtain ⟨RW2, OU2, WO2, ST2, WK2, ln2⟩ := u
                    have hP : va_P G vwCl (mW g cA N (nI (siz N)) (sLev N ql (sTree N (va_cpy (hed N) D 0 0 8) ql) (qk + 1)) R F KD KR RW2 OU2 WO2 ST2 WK2 CA ln2 kp rd wr ft) _ := hP
                    have hD : va_D _ (mW g cA N (nI (siz N)) (sLev N ql (sTree N (va_cpy (hed N) D 0 0 8) ql) (qk + 1)) R F KD KR RW2 OU2 WO2 ST2 WK2 CA ln2 kp rd wr ft) := hD
                    refine lv_iinc (v := nI (ahd N ql + (qk + 1))) (lv' := [(2, .int (nI (ahd N ql + (qk + 1)))), (0, .ref (g 0)), (1, .int (nI (lvs N))), (3, .int (nI ql)), (4, .int (nI (nod N ql))), (5, .int (nI qk))]) hx hb dX3_seal_63 hl (k := 2) rfl (nI_1 _) (by decide) rfl (fun ls hl => ?_)
                    refine lv_iinc (v := nI (qk + 1)) (lv' := [(5, .int (nI (qk + 1))), (2, .int (nI (ahd N ql + (qk + 1)))), (0, .ref (g 0)), (1, .int (nI (lvs N))), (3, .int (nI ql)), (4, .int (nI (nod N ql)))]) hx hb dX3_seal_66 hl (k := 5) rfl (nI_1 _) (by decide) rfl (fun ls hl => ?_)
                    refine lv_goto (tgt := 49) hx hb dX3_seal_69 (by decide) ?_
                    exact ih_49 (qk + 1) RW2 OU2 WO2 ST2 WK2 ln2 (by omega) (by omega) _ _ _ hP hD hS (lv_sub hl [2, 3, 1, 4, 5, 0] rfl)
              exact loop_49 _ 0 RWz OUz WOz STz WKz lnz (Nat.lt_succ_self _) (by omega) _ _ _ hP hD hS (lv_sub hl [2, 3, 4, 5, 1, 0] rfl)
        exact loop_34 _ 0 RW OU WO ST WK ln (Nat.lt_succ_self _) (by omega) _ _ _ hP hD hS (lv_sub hl [3, 2, 1, 0] rfl)
      · skip
        have c_1 : ¬ 8 ≤ zi := fun z => c_1 ((nI_leI (a := 8) (b := zi) (by omega) (by omega)).mpr z)
        refine lv_aload_n hx hb dX3_seal_8 rfl (lv_at hl 0 rfl) ?_
        refine va_get (D := G) (ci := 3) (v := .ref (g 3)) (C := RX3) (T := TX3) (N := 20) hx hb hts hinX3 hown hK hP 0 rfl rfl 4 (by decide) (hts (.fieldLink RX3 88 "SealedPagesModel" "disk" "[I") (by decide +kernel)) (fun _ h => h) rfl dX3_seal_9 ?_
        refine lv_iload_n hx hb dX3_seal_12 rfl (lv_at hl 1 rfl) ?_
        refine lv_aload_n hx hb dX3_seal_13 rfl (lv_at hl 0 rfl) ?_
        refine lv_iload_n hx hb dX3_seal_14 rfl (lv_at hl 1 rfl) ?_
        refine x_vi ⟨hx, hb, hml, hown, hts⟩ (c_X3_headOf l G cA tF tC g _ N hN (nI (siz N)) (va_cpy (hed N) D 0 0 zi) R F KD KR RW OU WO ST WK CA ln kp rd wr ft zi (by omega)) (cwV 1 hts gX3_seal_X3_headOf rfl rfl rfl (by decide +kernel) ⟨Nat.le_of_ble_eq_true rfl, Nat.le_of_ble_eq_true rfl⟩) hK hP hD hS hT rfl 0 3 rfl rfl rfl hl.1 rfl (Nat.le_of_ble_eq_true rfl) dX3_seal_15 ⟨Nat.le_refl _, Nat.le_refl _⟩ (fun r_11 u H locs hp_10 hP hD hS => ?_)
        have hP : va_P G vwCl (mW g cA N (nI (siz N)) (va_cpy (hed N) D 0 0 zi) R F KD KR RW OU WO ST WK CA ln kp rd wr ft) _ := hP
        have hD : va_D _ (mW g cA N (nI (siz N)) (va_cpy (hed N) D 0 0 zi) R F KD KR RW OU WO ST WK CA ln kp rd wr ft) := hD
        have hp_10 : r_11 = hed N zi := hp_10
        subst hp_10
        refine x_ast (i := zi) hx hb hK hP hD hS 3 0 rfl rfl (by omega) (by decide) dX3_seal_18 (fun H locs hP hD hS => ?_)
        have hP : va_P G vwCl (mW g cA N (nI (siz N)) (upd (va_cpy (hed N) D 0 0 zi) zi (hed N zi)) R F KD KR RW OU WO ST WK CA ln kp rd wr ft) _ := hP
        have hD : va_D _ (mW g cA N (nI (siz N)) (upd (va_cpy (hed N) D 0 0 zi) zi (hed N zi)) R F KD KR RW OU WO ST WK CA ln kp rd wr ft) := hD
        have ec_12 : upd (va_cpy (hed N) D 0 0 zi) zi (hed N zi) = va_cpy (hed N) D 0 0 (zi + 1) := by have h := cpy_s (hed N) D 0 0 zi; rwa [Nat.zero_add] at h
        rw [show mW g cA N (nI (siz N)) (upd (va_cpy (hed N) D 0 0 zi) zi (hed N zi)) R F KD KR RW OU WO ST WK CA ln kp rd wr ft = mW g cA N (nI (siz N)) (va_cpy (hed N) D 0 0 (zi + 1)) R F KD KR RW OU WO ST WK CA ln kp rd wr ft from by rw [← ec_12]] at hP hD
        refine lv_iinc (v := nI (zi + 1)) (lv' := [(1, .int (nI (zi + 1))), (0, .ref (g 0))]) hx hb dX3_seal_19 hl (k := 1) rfl (nI_1 _) (by decide) rfl (fun ls hl => ?_)
        refine lv_goto (tgt := 2) hx hb dX3_seal_22 (by decide) ?_
        exact ih_2 (zi + 1) (by omega) (by omega) _ _ _ hP hD hS (lv_sub hl [1, 0] rfl)
  rw [← cpy_0 (hed N) D 0 0] at hP hD
  exact loop_2 _ 0 (Nat.lt_succ_self _) (by omega) _ _ _ hP hD hS (lv_sub hl [1, 0] rfl)

set_option maxHeartbeats 4000000 in
set_option maxRecDepth 100000 in
theorem c_X3_held (l : Launch) (G : va_G) (cA : ClassId) (tF tC : Nat) (g : Nat → Nat) (sz N : Nat) (hN : 1 ≤ N ∧ N ≤ 64) (D R F KD KR RW OU WO ST WK CA : Nat → Int32) (ln kp rd wr ft : Int32)  : CI l yX3_held wsX3_held 7 169 G cA tF tC g 14 sz (mW g cA N (nI (siz N)) D R F KD KR RW OU WO ST WK CA ln kp rd wr ft) [.ref (g 0)] (fun (u : (Nat → Int32) × (Nat → Int32) × (Nat → Int32) × (Nat → Int32) × (Nat → Int32) × Int32) => mW g cA N (nI (siz N)) D R F KD KR u.1 u.2.1 u.2.2.1 u.2.2.2.1 u.2.2.2.2.1 CA u.2.2.2.2.2 kp rd wr ft) (fun r _ => r = nI (heldN N D R N)) := by
  refine x_entryI (cc := cX3_held) (maxL := 3) (by decide) rfl (fun _ => rfl) (Nat.le_of_ble_eq_true rfl) ?_
  intro p e s m args below meth c Q hx hb hml hown hts hK hP hD hS hT hret ls hl
  have hown : s.vm.findClass RX3 = some m.cls := hown
  have hl : lv_has ls 3 [(0, .ref (g 0))] := hl
  have hinX3 : ∀ w ∈ wsX30, w ∈ wsX3_held := by decide +kernel
  have hz := siz_le hN
  have hse := siz_eq N
  have hnd := nds_le hN
  have hlv := lvs_in hN
  refine lv_iconst (v := 0) hx hb dX3_held_0 (by decide) ?_
  refine lv_istore_n (lv' := [(1, .int 0), (0, .ref (g 0))]) hx hb dX3_held_1 rfl hl (by decide) rfl (fun ls hl => ?_)
  refine lv_iconst (v := 0) hx hb dX3_held_2 (by decide) ?_
  refine lv_istore_n (lv' := [(2, .int 0), (1, .int 0), (0, .ref (g 0))]) hx hb dX3_held_3 rfl hl (by decide) rfl (fun ls hl => ?_)
  have loop_4 : ∀ (n_4 : Nat) (zq : Nat) (RWz : Nat → Int32) (OUz : Nat → Int32) (WOz : Nat → Int32) (STz : Nat → Int32) (WKz : Nat → Int32) (lnz : Int32), (N - zq) < n_4 → (zq ≤ N) → ∀ (H : Heap) (locs : List Loc) (ls : Array Slot), va_P G vwCl (mW g cA N (nI (siz N)) D R F KD KR RWz OUz WOz STz WKz CA lnz kp rd wr ft) H → va_D (wA g 14 s.heap.size) (mW g cA N (nI (siz N)) D R F KD KR RWz OUz WOz STz WKz CA lnz kp rd wr ft) → va_S (wA g 14 s.heap.size) s.heap H locs → lv_has ls 3 [(0, .ref (g 0)), (1, .int (nI (heldN N D R zq))), (2, .int (nI zq))] → W p l e { frames := 7, cells := 0, slots := 0, locals := 169 } s m args below meth c H locs 0 0 Q (F0 m 4 ls []) := by
    intro n_4
    induction n_4 with
    | zero => intro zq RWz OUz WOz STz WKz lnz hm_4; exact absurd hm_4 (Nat.not_lt_zero _)
    | succ n_4 ih_4 =>
      intro zq RWz OUz WOz STz WKz lnz hm_4 hzq H locs ls hP hD hS hl
      have hfl := flt_le hN D R zq
      refine lv_iload_n hx hb dX3_held_4 rfl (lv_at hl 2 rfl) ?_
      refine lv_aload_n hx hb dX3_held_5 rfl (lv_at hl 0 rfl) ?_
      refine va_get (D := G) (ci := 3) (v := .int (nI N)) (C := RX3) (T := TX3) (N := 20) hx hb hts hinX3 hown hK hP 0 rfl rfl 2 (by decide) (hts (.fieldLink RX3 121 "SealedPagesModel" "pages" "I") (by decide +kernel)) (fun _ h => h) rfl dX3_held_6 ?_
      refine lv_icmp_ge (tgt := 34) hx hb dX3_held_9 (by decide) (fun c_1 => ?_) (fun c_1 => ?_)
      · skip
        have c_1 : N ≤ zq := (nI_leI (a := N) (b := zq) (by omega) (by omega)).mp c_1
        obtain rfl : N = zq := by omega
        have hl : lv_has ls 3 [(0, .ref (g 0)), (1, .int (nI (heldN N D R N))), (2, .int (nI N))] := hl
        refine lv_iload_n hx hb dX3_held_34 rfl (lv_at hl 1 rfl) ?_
        exact hret _ (RWz, OUz, WOz, STz, WKz, lnz) _ _ _ _ dX3_held_35 hP hD hS rfl
      · skip
        have c_1 : ¬ N ≤ zq := fun z => c_1 ((nI_leI (a := N) (b := zq) (by omega) (by omega)).mpr z)
        refine lv_iload_n hx hb dX3_held_12 rfl (lv_at hl 1 rfl) ?_
        refine lv_aload_n hx hb dX3_held_13 rfl (lv_at hl 0 rfl) ?_
        refine lv_iload_n hx hb dX3_held_14 rfl (lv_at hl 2 rfl) ?_
        refine x_vi ⟨hx, hb, hml, hown, hts⟩ (c_X3_faultOf l G cA tF tC g _ N hN (nI (siz N)) D R F KD KR RWz OUz WOz STz WKz CA lnz kp rd wr ft zq (by omega)) (cwV 1 hts gX3_held_X3_faultOf rfl rfl rfl (by decide +kernel) ⟨Nat.le_of_ble_eq_true rfl, Nat.le_of_ble_eq_true rfl⟩) hK hP hD hS hT rfl 0 3 rfl rfl rfl hl.1 rfl (Nat.le_of_ble_eq_true rfl) dX3_held_15 ⟨Nat.le_refl _, Nat.le_refl _⟩ (fun r_2 u H locs hp2 hP hD hS => ?_)
        obtain ⟨RW2, OU2, WO2, ST2, WK2, ln2⟩ := u
        have hP : va_P G vwCl (mW g cA N (nI (siz N)) D R F KD KR RW2 OU2 WO2 ST2 WK2 CA ln2 kp rd wr ft) _ := hP
        have hD : va_D _ (mW g cA N (nI (siz N)) D R F KD KR RW2 OU2 WO2 ST2 WK2 CA ln2 kp rd wr ft) := hD
        have hp2 : r_2 = nI (flt N D R zq) := hp2
        subst hp2
        refine lv_if_ne (tgt := 25) hx hb dX3_held_18 (by decide) (fun c_3 => ?_) (fun c_3 => ?_)
        · skip
          have c_3 : ¬ (flt N D R zq) = 0 := fun z => c_3 ((nI_eq (a := (flt N D R zq)) (b := 0) (by omega) (by omega)).mpr z)
          have hcn := c_3
          refine lv_iconst (v := 0) hx hb dX3_held_25 (by decide) ?_
          refine lv_iadd hx hb dX3_held_26 ?_
          refine x_eqi (y := nI ((heldN N D R zq) + 0)) (nI_add (heldN N D R zq) 0) ?_
          refine x_eqi (y := nI (heldN N D R (zq + 1))) (by rw [held_s]; first | rw [if_pos hcy] | rw [if_neg hcn]) ?_
          refine lv_istore_n (lv' := [(1, .int (nI (heldN N D R (zq + 1)))), (0, .ref (g 0)), (2, .int (nI zq))]) hx hb dX3_held_27 rfl hl (by decide) rfl (fun ls hl => ?_)
          refine lv_iinc (v := nI (zq + 1)) (lv' := [(2, .int (nI (zq + 1))), (1, .int (nI (heldN N D R (zq + 1)))), (0, .ref (g 0))]) hx hb dX3_held_28 hl (k := 2) rfl (nI_1 _) (by decide) rfl (fun ls hl => ?_)
          refine lv_goto (tgt := 4) hx hb dX3_held_31 (by decide) ?_
          exact ih_4 (zq + 1) RW2 OU2 WO2 ST2 WK2 ln2 (by omega) (by omega) _ _ _ hP hD hS (lv_sub hl [2, 1, 0] rfl)
        · skip
          have c_3 : (flt N D R zq) = 0 := (nI_eq (a := (flt N D R zq)) (b := 0) (by omega) (by omega)).mp c_3
          have hcy := c_3
          refine lv_iconst (v := 1) hx hb dX3_held_21 (by decide) ?_
          refine lv_goto (tgt := 26) hx hb dX3_held_22 (by decide) ?_
          refine lv_iadd hx hb dX3_held_26 ?_
          refine x_eqi (y := nI ((heldN N D R zq) + 1)) (nI_add (heldN N D R zq) 1) ?_
          refine x_eqi (y := nI (heldN N D R (zq + 1))) (by rw [held_s]; first | rw [if_pos hcy] | rw [if_neg hcn]) ?_
          refine lv_istore_n (lv' := [(1, .int (nI (heldN N D R (zq + 1)))), (0, .ref (g 0)), (2, .int (nI zq))]) hx hb dX3_held_27 rfl hl (by decide) rfl (fun ls hl => ?_)
          refine lv_iinc (v := nI (zq + 1)) (lv' := [(2, .int (nI (zq + 1))), (1, .int (nI (heldN N D R (zq + 1)))), (0, .ref (g 0))]) hx hb dX3_held_28 hl (k := 2) rfl (nI_1 _) (by decide) rfl (fun ls hl => ?_)
          refine lv_goto (tgt := 4) hx hb dX3_held_31 (by decide) ?_
          exact ih_4 (zq + 1) RW2 OU2 WO2 ST2 WK2 ln2 (by omega) (by omega) _ _ _ hP hD hS (lv_sub hl [2, 1, 0] rfl)
  exact loop_4 _ 0 RW OU WO ST WK ln (Nat.lt_succ_self _) (by omega) _ _ _ hP hD hS (lv_sub hl [2, 1, 0] rfl)

set_option maxHeartbeats 4000000 in
set_option maxRecDepth 100000 in
theorem c_X3_first (l : Launch) (G : va_G) (cA : ClassId) (tF tC : Nat) (g : Nat → Nat) (sz N : Nat) (hN : 1 ≤ N ∧ N ≤ 64) (D R F KD KR RW OU WO ST WK CA : Nat → Int32) (ln kp rd wr ft : Int32)  : CI l yX3_first wsX3_first 7 169 G cA tF tC g 14 sz (mW g cA N (nI (siz N)) D R F KD KR RW OU WO ST WK CA ln kp rd wr ft) [.ref (g 0)] (fun (u : (Nat → Int32) × (Nat → Int32) × (Nat → Int32) × (Nat → Int32) × (Nat → Int32) × Int32) => mW g cA N (nI (siz N)) D R F KD KR u.1 u.2.1 u.2.2.1 u.2.2.2.1 u.2.2.2.2.1 CA u.2.2.2.2.2 kp rd wr ft) (fun r _ => r = fstN N D R N 0) := by
  refine x_entryI (cc := cX3_first) (maxL := 2) (by decide) rfl (fun _ => rfl) (Nat.le_of_ble_eq_true rfl) ?_
  intro p e s m args below meth c Q hx hb hml hown hts hK hP hD hS hT hret ls hl
  have hown : s.vm.findClass RX3 = some m.cls := hown
  have hl : lv_has ls 2 [(0, .ref (g 0))] := hl
  have hinX3 : ∀ w ∈ wsX30, w ∈ wsX3_first := by decide +kernel
  have hz := siz_le hN
  have hse := siz_eq N
  have hnd := nds_le hN
  have hlv := lvs_in hN
  refine lv_iconst (v := 0) hx hb dX3_first_0 (by decide) ?_
  refine lv_istore_n (lv' := [(1, .int 0), (0, .ref (g 0))]) hx hb dX3_first_1 rfl hl (by decide) rfl (fun ls hl => ?_)
  have loop_2 : ∀ (n_2 : Nat) (zq : Nat) (RWz : Nat → Int32) (OUz : Nat → Int32) (WOz : Nat → Int32) (STz : Nat → Int32) (WKz : Nat → Int32) (lnz : Int32), (N - zq) < n_2 → (zq ≤ N) → (fstN N D R (N - zq) zq = fstN N D R N 0) → ∀ (H : Heap) (locs : List Loc) (ls : Array Slot), va_P G vwCl (mW g cA N (nI (siz N)) D R F KD KR RWz OUz WOz STz WKz CA lnz kp rd wr ft) H → va_D (wA g 14 s.heap.size) (mW g cA N (nI (siz N)) D R F KD KR RWz OUz WOz STz WKz CA lnz kp rd wr ft) → va_S (wA g 14 s.heap.size) s.heap H locs → lv_has ls 2 [(0, .ref (g 0)), (1, .int (nI zq))] → W p l e { frames := 7, cells := 0, slots := 0, locals := 169 } s m args below meth c H locs 0 0 Q (F0 m 2 ls []) := by
    intro n_2
    induction n_2 with
    | zero => intro zq RWz OUz WOz STz WKz lnz hm_2; exact absurd hm_2 (Nat.not_lt_zero _)
    | succ n_2 ih_2 =>
      intro zq RWz OUz WOz STz WKz lnz hm_2 hzq hfs H locs ls hP hD hS hl
      have hfl := flt_le hN D R zq
      refine lv_iload_n hx hb dX3_first_2 rfl (lv_at hl 1 rfl) ?_
      refine lv_aload_n hx hb dX3_first_3 rfl (lv_at hl 0 rfl) ?_
      refine va_get (D := G) (ci := 3) (v := .int (nI N)) (C := RX3) (T := TX3) (N := 20) hx hb hts hinX3 hown hK hP 0 rfl rfl 2 (by decide) (hts (.fieldLink RX3 121 "SealedPagesModel" "pages" "I") (by decide +kernel)) (fun _ h => h) rfl dX3_first_4 ?_
      refine lv_icmp_ge (tgt := 26) hx hb dX3_first_7 (by decide) (fun c_1 => ?_) (fun c_1 => ?_)
      · skip
        have c_1 : N ≤ zq := (nI_leI (a := N) (b := zq) (by omega) (by omega)).mp c_1
        have hc : -1 = fstN N D R N 0 := by rw [← hfs, show N - zq = 0 by omega]; rfl
        refine lv_iconst (v := (-1)) hx hb dX3_first_26 (by decide) ?_
        exact hret _ (RWz, OUz, WOz, STz, WKz, lnz) _ _ _ _ dX3_first_27 hP hD hS hc
      · skip
        have c_1 : ¬ N ≤ zq := fun z => c_1 ((nI_leI (a := N) (b := zq) (by omega) (by omega)).mpr z)
        refine lv_aload_n hx hb dX3_first_10 rfl (lv_at hl 0 rfl) ?_
        refine lv_iload_n hx hb dX3_first_11 rfl (lv_at hl 1 rfl) ?_
        refine x_vi ⟨hx, hb, hml, hown, hts⟩ (c_X3_faultOf l G cA tF tC g _ N hN (nI (siz N)) D R F KD KR RWz OUz WOz STz WKz CA lnz kp rd wr ft zq (by omega)) (cwV 1 hts gX3_first_X3_faultOf rfl rfl rfl (by decide +kernel) ⟨Nat.le_of_ble_eq_true rfl, Nat.le_of_ble_eq_true rfl⟩) hK hP hD hS hT rfl 0 3 rfl rfl rfl hl.1 rfl (Nat.le_of_ble_eq_true rfl) dX3_first_12 ⟨Nat.le_refl _, Nat.le_refl _⟩ (fun r_2 u H locs hp2 hP hD hS => ?_)
        obtain ⟨RW2, OU2, WO2, ST2, WK2, ln2⟩ := u
        have hP : va_P G vwCl (mW g cA N (nI (siz N)) D R F KD KR RW2 OU2 WO2 ST2 WK2 CA ln2 kp rd wr ft) _ := hP
        have hD : va_D _ (mW g cA N (nI (siz N)) D R F KD KR RW2 OU2 WO2 ST2 WK2 CA ln2 kp rd wr ft) := hD
        have hp2 : r_2 = nI (flt N D R zq) := hp2
        subst hp2
        refine lv_if_eq (tgt := 20) hx hb dX3_first_15 (by decide) (fun c_3 => ?_) (fun c_3 => ?_)
        · skip
          have c_3 : (flt N D R zq) = 0 := (nI_eq (a := (flt N D R zq)) (b := 0) (by omega) (by omega)).mp c_3
          have hfs2 : fstN N D R (N - (zq + 1)) (zq + 1) = fstN N D R N 0 := by rw [← hfs, show N - zq = N - (zq + 1) + 1 by omega, fst_s, if_pos c_3]
          refine lv_iinc (v := nI (zq + 1)) (lv' := [(1, .int (nI (zq + 1))), (0, .ref (g 0))]) hx hb dX3_first_20 hl (k := 1) rfl (nI_1 _) (by decide) rfl (fun ls hl => ?_)
          refine lv_goto (tgt := 2) hx hb dX3_first_23 (by decide) ?_
          exact ih_2 (zq + 1) RW2 OU2 WO2 ST2 WK2 ln2 (by omega) (by omega) hfs2 _ _ _ hP hD hS (lv_sub hl [1, 0] rfl)
        · skip
          have c_3 : ¬ (flt N D R zq) = 0 := fun z => c_3 ((nI_eq (a := (flt N D R zq)) (b := 0) (by omega) (by omega)).mpr z)
          have hc : nI zq = fstN N D R N 0 := by rw [← hfs, show N - zq = N - (zq + 1) + 1 by omega, fst_s, if_neg c_3]
          refine lv_iload_n hx hb dX3_first_18 rfl (lv_at hl 1 rfl) ?_
          exact hret _ (RW2, OU2, WO2, ST2, WK2, ln2) _ _ _ _ dX3_first_19 hP hD hS hc
  exact loop_2 _ 0 RW OU WO ST WK ln (Nat.lt_succ_self _) (by omega) rfl _ _ _ hP hD hS (lv_sub hl [1, 0] rfl)

set_option maxHeartbeats 4000000 in
set_option maxRecDepth 100000 in
theorem c_X3_node (l : Launch) (G : va_G) (cA : ClassId) (tF tC : Nat) (g : Nat → Nat) (sz N : Nat) (hN : 1 ≤ N ∧ N ≤ 64) (D R F KD KR RW OU WO ST WK CA : Nat → Int32) (ln kp rd wr ft : Int32) (x y : Int32) : CI l yX3_node wsX3_node 2 47 G cA tF tC g 14 sz (mW g cA N (nI (siz N)) D R F KD KR RW OU WO ST WK CA ln kp rd wr ft) [.ref (g 0), .int x, .int y] (fun (u : Unit) => mW g cA N (nI (siz N)) D R F KD KR RW OU WO ST WK CA ln kp rd wr ft) (fun r _ => r = a_node N x y) := by
  refine x_entryI (cc := cX3_node) (maxL := 3) (by decide) rfl (fun _ => rfl) (Nat.le_of_ble_eq_true rfl) ?_
  intro p e s m args below meth c Q hx hb hml hown hts hK hP hD hS hT hret ls hl
  have hown : s.vm.findClass RX3 = some m.cls := hown
  have hl : lv_has ls 3 [(0, .ref (g 0)), (1, .int x), (2, .int y)] := hl
  have hz := siz_le hN
  have hse := siz_eq N
  have hnd := nds_le hN
  have hlv := lvs_in hN
  refine lv_iload_n hx hb dX3_node_0 rfl (lv_at hl 1 rfl) ?_
  refine lv_if_lt (tgt := 25) hx hb dX3_node_1 (by decide) (fun c_1 => ?_) (fun c_1 => ?_)
  · skip
    have hc : -1 = a_node N x y := by unfold a_node; rw [if_pos (inN_0 (inB_f1 c_1))]
    refine lv_iconst (v := (-1)) hx hb dX3_node_25 (by decide) ?_
    exact hret _ () _ _ _ _ dX3_node_26 hP hD hS hc
  · skip
    have hx0 := c_1
    refine lv_iload_n hx hb dX3_node_4 rfl (lv_at hl 1 rfl) ?_
    refine lv_aload_n hx hb dX3_node_5 rfl (lv_at hl 0 rfl) ?_
    refine x_vi ⟨hx, hb, hml, hown, hts⟩ (c_X3_levelsOf l G cA tF tC g _ N hN (nI (siz N)) D R F KD KR RW OU WO ST WK CA ln kp rd wr ft ) (cwV 0 hts gX3_node_X3_levelsOf rfl rfl rfl (by decide +kernel) ⟨Nat.le_of_ble_eq_true rfl, Nat.le_of_ble_eq_true rfl⟩) hK hP hD hS hT rfl 0 3 rfl rfl rfl hl.1 rfl (Nat.le_of_ble_eq_true rfl) dX3_node_6 ⟨Nat.le_refl _, Nat.le_refl _⟩ (fun r_3 u H locs hp_2 hP hD hS => ?_)
    have hP : va_P G vwCl (mW g cA N (nI (siz N)) D R F KD KR RW OU WO ST WK CA ln kp rd wr ft) _ := hP
    have hD : va_D _ (mW g cA N (nI (siz N)) D R F KD KR RW OU WO ST WK CA ln kp rd wr ft) := hD
    have hp_2 : r_3 = nI (lvs N) := hp_2
    subst hp_2
    refine lv_icmp_ge (tgt := 25) hx hb dX3_node_9 (by decide) (fun c_4 => ?_) (fun c_4 => ?_)
    · skip
      have hc : -1 = a_node N x y := by unfold a_node; rw [if_pos (inN_0 (inB_f2 (by omega) c_4))]
      refine lv_iconst (v := (-1)) hx hb dX3_node_25 (by decide) ?_
      exact hret _ () _ _ _ _ dX3_node_26 hP hD hS hc
    · skip
      have hxn : ¬ inB x (lvs N) = 0 := by rw [inB_t (by omega) hx0 c_4]; decide
      obtain ⟨ql, hql, rfl⟩ := inB_1 (by omega) hxn
      have hnq := nod_le N hN.1 ql
      have hl : lv_has ls 3 [(0, .ref (g 0)), (1, .int (nI ql)), (2, .int y)] := hl
      refine lv_iload_n hx hb dX3_node_12 rfl (lv_at hl 2 rfl) ?_
      refine lv_if_lt (tgt := 25) hx hb dX3_node_13 (by decide) (fun c_5 => ?_) (fun c_5 => ?_)
      · skip
        have hc : -1 = a_node N (nI ql) y := by unfold a_node; rw [if_pos (by rw [inN_o hN hql]; exact inB_f1 c_5)]
        refine lv_iconst (v := (-1)) hx hb dX3_node_25 (by decide) ?_
        exact hret _ () _ _ _ _ dX3_node_26 hP hD hS hc
      · skip
        have hy0 := c_5
        refine lv_iload_n hx hb dX3_node_16 rfl (lv_at hl 2 rfl) ?_
        refine lv_aload_n hx hb dX3_node_17 rfl (lv_at hl 0 rfl) ?_
        refine lv_iload_n hx hb dX3_node_18 rfl (lv_at hl 1 rfl) ?_
        refine x_vi ⟨hx, hb, hml, hown, hts⟩ (c_X3_nodesOf l G cA tF tC g _ N hN (nI (siz N)) D R F KD KR RW OU WO ST WK CA ln kp rd wr ft (ql) (by omega)) (cwV 1 hts gX3_node_X3_nodesOf rfl rfl rfl (by decide +kernel) ⟨Nat.le_of_ble_eq_true rfl, Nat.le_of_ble_eq_true rfl⟩) hK hP hD hS hT rfl 0 3 rfl rfl rfl hl.1 rfl (Nat.le_of_ble_eq_true rfl) dX3_node_19 ⟨Nat.le_refl _, Nat.le_refl _⟩ (fun r_7 u H locs hp_6 hP hD hS => ?_)
        have hP : va_P G vwCl (mW g cA N (nI (siz N)) D R F KD KR RW OU WO ST WK CA ln kp rd wr ft) _ := hP
        have hD : va_D _ (mW g cA N (nI (siz N)) D R F KD KR RW OU WO ST WK CA ln kp rd wr ft) := hD
        have hp_6 : r_7 = nI (nod N ql) := hp_6
        subst hp_6
        refine lv_icmp_lt (tgt := 27) hx hb dX3_node_22 (by decide) (fun c_8 => ?_) (fun c_8 => ?_)
        · skip
          have hyn : ¬ inB y (nod N ql) = 0 := by rw [inB_t (by omega) hy0 (Int32.not_le.mpr c_8)]; decide
          obtain ⟨qk, hqk, rfl⟩ := inB_1 (by omega) hyn
          have hc : nI (plc N ql qk) = a_node N (nI ql) (nI qk) := by unfold a_node; rw [if_neg (inN_y hN hql hqk), nI_clamp (by omega), nI_clamp (by omega)]
          have hl : lv_has ls 3 [(0, .ref (g 0)), (1, .int (nI ql)), (2, .int (nI qk))] := hl
          refine lv_aload_n hx hb dX3_node_27 rfl (lv_at hl 0 rfl) ?_
          refine lv_iload_n hx hb dX3_node_28 rfl (lv_at hl 1 rfl) ?_
          refine lv_iload_n hx hb dX3_node_29 rfl (lv_at hl 2 rfl) ?_
          refine x_vi ⟨hx, hb, hml, hown, hts⟩ (c_X3_placeOf l G cA tF tC g _ N hN (nI (siz N)) D R F KD KR RW OU WO ST WK CA ln kp rd wr ft (ql) (qk) (by omega)) (cwV 2 hts gX3_node_X3_placeOf rfl rfl rfl (by decide +kernel) ⟨Nat.le_of_ble_eq_true rfl, Nat.le_of_ble_eq_true rfl⟩) hK hP hD hS hT rfl 0 3 rfl rfl rfl hl.1 rfl (Nat.le_of_ble_eq_true rfl) dX3_node_30 ⟨Nat.le_refl _, Nat.le_refl _⟩ (fun r_10 u H locs hp_9 hP hD hS => ?_)
          have hP : va_P G vwCl (mW g cA N (nI (siz N)) D R F KD KR RW OU WO ST WK CA ln kp rd wr ft) _ := hP
          have hD : va_D _ (mW g cA N (nI (siz N)) D R F KD KR RW OU WO ST WK CA ln kp rd wr ft) := hD
          have hp_9 : r_10 = nI (plc N ql qk) := hp_9
          subst hp_9
          exact hret _ () _ _ _ _ dX3_node_33 hP hD hS hc
        · skip
          have hc : -1 = a_node N (nI ql) y := by unfold a_node; rw [if_pos (by rw [inN_o hN hql]; exact inB_f2 (by omega) (Int32.not_lt.mp c_8))]
          refine lv_iconst (v := (-1)) hx hb dX3_node_25 (by decide) ?_
          exact hret _ () _ _ _ _ dX3_node_26 hP hD hS hc

set_option maxHeartbeats 4000000 in
set_option maxRecDepth 100000 in
theorem c_X3_proof (l : Launch) (G : va_G) (cA : ClassId) (tF tC : Nat) (g : Nat → Nat) (sz N : Nat) (hN : 1 ≤ N ∧ N ≤ 64) (D R F KD KR RW OU WO ST WK CA : Nat → Int32) (ln kp rd wr ft : Int32) (x : Int32) : CI l yX3_proof wsX3_proof 2 48 G cA tF tC g 14 sz (mW g cA N (nI (siz N)) D R F KD KR RW OU WO ST WK CA ln kp rd wr ft) [.ref (g 0), .int x] (fun (u : Unit) => mW g cA N (nI (siz N)) D R F KD KR RW OU WO ST WK CA ln kp rd wr ft) (fun r _ => r = a_prf N x) := by
  refine x_entryI (cc := cX3_proof) (maxL := 5) (by decide) rfl (fun _ => rfl) (Nat.le_of_ble_eq_true rfl) ?_
  intro p e s m args below meth c Q hx hb hml hown hts hK hP hD hS hT hret ls hl
  have hown : s.vm.findClass RX3 = some m.cls := hown
  have hl : lv_has ls 5 [(0, .ref (g 0)), (1, .int x)] := hl
  have hz := siz_le hN
  have hse := siz_eq N
  have hnd := nds_le hN
  have hlv := lvs_in hN
  refine lv_aload_n hx hb dX3_proof_0 rfl (lv_at hl 0 rfl) ?_
  refine lv_iload_n hx hb dX3_proof_1 rfl (lv_at hl 1 rfl) ?_
  refine x_vi ⟨hx, hb, hml, hown, hts⟩ (c_X3_isPage l G cA tF tC g _ N hN (nI (siz N)) D R F KD KR RW OU WO ST WK CA ln kp rd wr ft x) (cwV 1 hts gX3_proof_X3_isPage rfl rfl rfl (by decide +kernel) ⟨Nat.le_of_ble_eq_true rfl, Nat.le_of_ble_eq_true rfl⟩) hK hP hD hS hT rfl 0 3 rfl rfl rfl hl.1 rfl (Nat.le_of_ble_eq_true rfl) dX3_proof_2 ⟨Nat.le_refl _, Nat.le_refl _⟩ (fun r_2 u H locs hp_1 hP hD hS => ?_)
  have hP : va_P G vwCl (mW g cA N (nI (siz N)) D R F KD KR RW OU WO ST WK CA ln kp rd wr ft) _ := hP
  have hD : va_D _ (mW g cA N (nI (siz N)) D R F KD KR RW OU WO ST WK CA ln kp rd wr ft) := hD
  have hp_1 : r_2 = inB x N := hp_1
  subst hp_1
  refine lv_if_ne (tgt := 10) hx hb dX3_proof_5 (by decide) (fun c_3 => ?_) (fun c_3 => ?_)
  · skip
    obtain ⟨zq, hq, rfl⟩ := inB_1 (by omega) c_3
    have hl : lv_has ls 5 [(0, .ref (g 0)), (1, .int (nI zq))] := hl
    refine lv_iconst (v := 0) hx hb dX3_proof_10 (by decide) ?_
    refine lv_istore_n (lv' := [(2, .int 0), (0, .ref (g 0)), (1, .int (nI zq))]) hx hb dX3_proof_11 rfl hl (by decide) rfl (fun ls hl => ?_)
    refine lv_aload_n hx hb dX3_proof_12 rfl (lv_at hl 1 rfl) ?_
    refine x_vi ⟨hx, hb, hml, hown, hts⟩ (c_X3_levelsOf l G cA tF tC g _ N hN (nI (siz N)) D R F KD KR RW OU WO ST WK CA ln kp rd wr ft ) (cwV 0 hts gX3_proof_X3_levelsOf rfl rfl rfl (by decide +kernel) ⟨Nat.le_of_ble_eq_true rfl, Nat.le_of_ble_eq_true rfl⟩) hK hP hD hS hT rfl 0 3 rfl rfl rfl hl.1 rfl (Nat.le_of_ble_eq_true rfl) dX3_proof_13 ⟨Nat.le_refl _, Nat.le_refl _⟩ (fun r_5 u H locs hp_4 hP hD hS => ?_)
    have hP : va_P G vwCl (mW g cA N (nI (siz N)) D R F KD KR RW OU WO ST WK CA ln kp rd wr ft) _ := hP
    have hD : va_D _ (mW g cA N (nI (siz N)) D R F KD KR RW OU WO ST WK CA ln kp rd wr ft) := hD
    have hp_4 : r_5 = nI (lvs N) := hp_4
    subst hp_4
    refine lv_iconst (v := 1) hx hb dX3_proof_16 (by decide) ?_
    refine lv_isub hx hb dX3_proof_17 ?_
    refine x_eqi (y := nI ((lvs N) - 1)) (pk_sub (a := lvs N) (b := 1) (by omega)) ?_
    refine lv_istore_n (lv' := [(3, .int (nI ((lvs N) - 1))), (2, .int 0), (0, .ref (g 0)), (1, .int (nI zq))]) hx hb dX3_proof_18 rfl hl (by decide) rfl (fun ls hl => ?_)
    refine lv_iconst (v := 0) hx hb dX3_proof_19 (by decide) ?_
    refine lv_istore (lv' := [(4, .int 0), (3, .int (nI ((lvs N) - 1))), (2, .int 0), (0, .ref (g 0)), (1, .int (nI zq))]) hx hb dX3_proof_20 hl (by decide) rfl (fun ls hl => ?_)
    have loop_22 : ∀ (n_22 : Nat) (ql : Nat), (lvs N - ql) < n_22 → (ql ≤ lvs N - 1) → ∀ (H : Heap) (locs : List Loc) (ls : Array Slot), va_P G vwCl (mW g cA N (nI (siz N)) D R F KD KR RW OU WO ST WK CA ln kp rd wr ft) H → va_D (wA g 14 s.heap.size) (mW g cA N (nI (siz N)) D R F KD KR RW OU WO ST WK CA ln kp rd wr ft) → va_S (wA g 14 s.heap.size) s.heap H locs → lv_has ls 5 [(0, .ref (g 0)), (1, .int (nI zq)), (2, .int (nI (prfN N zq ql))), (3, .int (nI ((lvs N) - 1))), (4, .int (nI ql))] → W p l e { frames := 2, cells := 0, slots := 0, locals := 48 } s m args below meth c H locs 0 0 Q (F0 m 22 ls []) := by
      intro n_22
      induction n_22 with
      | zero => intro ql hm_22; exact absurd hm_22 (Nat.not_lt_zero _)
      | succ n_22 ih_22 =>
        intro ql hm_22 hql H locs ls hP hD hS hl
        have hpl := prf_le N zq ql
        refine lv_iload hx hb dX3_proof_22 (lv_at hl 4 rfl) ?_
        refine lv_iload_n hx hb dX3_proof_24 rfl (lv_at hl 3 rfl) ?_
        refine lv_icmp_ge (tgt := 52) hx hb dX3_proof_25 (by decide) (fun c_6 => ?_) (fun c_6 => ?_)
        · skip
          have c_6 : ((lvs N) - 1) ≤ ql := (nI_leI (a := ((lvs N) - 1)) (b := ql) (by omega) (by omega)).mp c_6
          obtain rfl : ql = lvs N - 1 := by omega
          have hc : nI (prfN N zq (lvs N - 1)) = a_prf N (nI zq) := by unfold a_prf; rw [if_neg (inB_nz hq (by omega)), nI_clamp (by omega)]
          have hl : lv_has ls 5 [(0, .ref (g 0)), (1, .int (nI zq)), (2, .int (nI (prfN N zq (lvs N - 1)))), (3, .int (nI ((lvs N) - 1))), (4, .int (nI (lvs N - 1)))] := hl
          refine lv_iload_n hx hb dX3_proof_52 rfl (lv_at hl 2 rfl) ?_
          exact hret _ () _ _ _ _ dX3_proof_53 hP hD hS hc
        · skip
          have c_6 : ¬ ((lvs N) - 1) ≤ ql := fun z => c_6 ((nI_leI (a := ((lvs N) - 1)) (b := ql) (by omega) (by omega)).mpr z)
          refine lv_iload_n hx hb dX3_proof_28 rfl (lv_at hl 2 rfl) ?_
          refine lv_aload_n hx hb dX3_proof_29 rfl (lv_at hl 0 rfl) ?_
          refine lv_iload_n hx hb dX3_proof_30 rfl (lv_at hl 1 rfl) ?_
          refine lv_iload hx hb dX3_proof_31 (lv_at hl 4 rfl) ?_
          refine x_vi ⟨hx, hb, hml, hown, hts⟩ (c_X3_besideOf l G cA tF tC g _ N hN (nI (siz N)) D R F KD KR RW OU WO ST WK CA ln kp rd wr ft zq ql (by omega) (by omega)) (cwV 2 hts gX3_proof_X3_besideOf rfl rfl rfl (by decide +kernel) ⟨Nat.le_of_ble_eq_true rfl, Nat.le_of_ble_eq_true rfl⟩) hK hP hD hS hT rfl 0 3 rfl rfl rfl hl.1 rfl (Nat.le_of_ble_eq_true rfl) dX3_proof_33 ⟨Nat.le_refl _, Nat.le_refl _⟩ (fun r_8 u H locs hp_7 hP hD hS => ?_)
          have hP : va_P G vwCl (mW g cA N (nI (siz N)) D R F KD KR RW OU WO ST WK CA ln kp rd wr ft) _ := hP
          have hD : va_D _ (mW g cA N (nI (siz N)) D R F KD KR RW OU WO ST WK CA ln kp rd wr ft) := hD
          have hp_7 : r_8 = bsdI N zq ql := hp_7
          subst hp_7
          refine lv_if_lt (tgt := 43) hx hb dX3_proof_36 (by decide) (fun c_9 => ?_) (fun c_9 => ?_)
          · skip
            have hbn := bsdI_neg (by omega) c_9
            refine lv_iconst (v := 0) hx hb dX3_proof_43 (by decide) ?_
            refine lv_iadd hx hb dX3_proof_44 ?_
            refine x_eqi (y := nI ((prfN N zq ql) + 0)) (nI_add (prfN N zq ql) 0) ?_
            refine x_eqi (y := nI (prfN N zq (ql + 1))) (by rw [prf_s]; first | rw [if_pos hby] | rw [if_neg hbn]) ?_
            refine lv_istore_n (lv' := [(2, .int (nI (prfN N zq (ql + 1)))), (0, .ref (g 0)), (1, .int (nI zq)), (3, .int (nI ((lvs N) - 1))), (4, .int (nI ql))]) hx hb dX3_proof_45 rfl hl (by decide) rfl (fun ls hl => ?_)
            refine lv_iinc (v := nI (ql + 1)) (lv' := [(4, .int (nI (ql + 1))), (2, .int (nI (prfN N zq (ql + 1)))), (0, .ref (g 0)), (1, .int (nI zq)), (3, .int (nI ((lvs N) - 1)))]) hx hb dX3_proof_46 hl (k := 4) rfl (nI_1 _) (by decide) rfl (fun ls hl => ?_)
            refine lv_goto (tgt := 22) hx hb dX3_proof_49 (by decide) ?_
            exact ih_22 (ql + 1) (by omega) (by omega) _ _ _ hP hD hS (lv_sub hl [2, 3, 1, 4, 0] rfl)
          · skip
            have hby := (bsdI_pos c_9).1
            refine lv_iconst (v := 1) hx hb dX3_proof_39 (by decide) ?_
            refine lv_goto (tgt := 44) hx hb dX3_proof_40 (by decide) ?_
            refine lv_iadd hx hb dX3_proof_44 ?_
            refine x_eqi (y := nI ((prfN N zq ql) + 1)) (nI_add (prfN N zq ql) 1) ?_
            refine x_eqi (y := nI (prfN N zq (ql + 1))) (by rw [prf_s]; first | rw [if_pos hby] | rw [if_neg hbn]) ?_
            refine lv_istore_n (lv' := [(2, .int (nI (prfN N zq (ql + 1)))), (0, .ref (g 0)), (1, .int (nI zq)), (3, .int (nI ((lvs N) - 1))), (4, .int (nI ql))]) hx hb dX3_proof_45 rfl hl (by decide) rfl (fun ls hl => ?_)
            refine lv_iinc (v := nI (ql + 1)) (lv' := [(4, .int (nI (ql + 1))), (2, .int (nI (prfN N zq (ql + 1)))), (0, .ref (g 0)), (1, .int (nI zq)), (3, .int (nI ((lvs N) - 1)))]) hx hb dX3_proof_46 hl (k := 4) rfl (nI_1 _) (by decide) rfl (fun ls hl => ?_)
            refine lv_goto (tgt := 22) hx hb dX3_proof_49 (by decide) ?_
            exact ih_22 (ql + 1) (by omega) (by omega) _ _ _ hP hD hS (lv_sub hl [2, 3, 1, 4, 0] rfl)
    exact loop_22 _ 0 (Nat.lt_succ_self _) (by omega) _ _ _ hP hD hS (lv_sub hl [3, 4, 2, 1, 0] rfl)
  · skip
    have hc : -1 = a_prf N x := by unfold a_prf; rw [if_pos c_3]
    refine lv_iconst (v := (-1)) hx hb dX3_proof_8 (by decide) ?_
    exact hret _ () _ _ _ _ dX3_proof_9 hP hD hS hc

set_option maxHeartbeats 4000000 in
set_option maxRecDepth 100000 in
theorem c_X3_beside (l : Launch) (G : va_G) (cA : ClassId) (tF tC : Nat) (g : Nat → Nat) (sz N : Nat) (hN : 1 ≤ N ∧ N ≤ 64) (D R F KD KR RW OU WO ST WK CA : Nat → Int32) (ln kp rd wr ft : Int32) (x y z : Int32) : CI l yX3_beside wsX3_beside 2 48 G cA tF tC g 14 sz (mW g cA N (nI (siz N)) D R F KD KR RW OU WO ST WK CA ln kp rd wr ft) [.ref (g 0), .int x, .int y, .int z] (fun (u : Unit) => mW g cA N (nI (siz N)) D R F KD KR RW OU WO ST WK CA ln kp rd wr ft) (fun r _ => r = a_bes N D x y z) := by
  refine x_entryI (cc := cX3_beside) (maxL := 8) (by decide) rfl (fun _ => rfl) (Nat.le_of_ble_eq_true rfl) ?_
  intro p e s m args below meth c Q hx hb hml hown hts hK hP hD hS hT hret ls hl
  have hown : s.vm.findClass RX3 = some m.cls := hown
  have hl : lv_has ls 8 [(0, .ref (g 0)), (1, .int x), (2, .int y), (3, .int z)] := hl
  have hinX3 : ∀ w ∈ wsX30, w ∈ wsX3_beside := by decide +kernel
  have hz := siz_le hN
  have hse := siz_eq N
  have hnd := nds_le hN
  have hlv := lvs_in hN
  refine lv_aload_n hx hb dX3_beside_0 rfl (lv_at hl 0 rfl) ?_
  refine lv_iload_n hx hb dX3_beside_1 rfl (lv_at hl 1 rfl) ?_
  refine x_vi ⟨hx, hb, hml, hown, hts⟩ (c_X3_isPage l G cA tF tC g _ N hN (nI (siz N)) D R F KD KR RW OU WO ST WK CA ln kp rd wr ft x) (cwV 1 hts gX3_beside_X3_isPage rfl rfl rfl (by decide +kernel) ⟨Nat.le_of_ble_eq_true rfl, Nat.le_of_ble_eq_true rfl⟩) hK hP hD hS hT rfl 0 3 rfl rfl rfl hl.1 rfl (Nat.le_of_ble_eq_true rfl) dX3_beside_2 ⟨Nat.le_refl _, Nat.le_refl _⟩ (fun r_2 u H locs hp_1 hP hD hS => ?_)
  have hP : va_P G vwCl (mW g cA N (nI (siz N)) D R F KD KR RW OU WO ST WK CA ln kp rd wr ft) _ := hP
  have hD : va_D _ (mW g cA N (nI (siz N)) D R F KD KR RW OU WO ST WK CA ln kp rd wr ft) := hD
  have hp_1 : r_2 = inB x N := hp_1
  subst hp_1
  refine lv_if_eq (tgt := 22) hx hb dX3_beside_5 (by decide) (fun c_3 => ?_) (fun c_3 => ?_)
  · skip
    have hc : -1 = a_bes N D x y z := by unfold a_bes; rw [if_pos c_3]
    refine lv_iconst (v := (-1)) hx hb dX3_beside_22 (by decide) ?_
    exact hret _ () _ _ _ _ dX3_beside_23 hP hD hS hc
  · skip
    have hxn := c_3
    refine lv_iload_n hx hb dX3_beside_8 rfl (lv_at hl 2 rfl) ?_
    refine lv_if_lt (tgt := 22) hx hb dX3_beside_9 (by decide) (fun c_4 => ?_) (fun c_4 => ?_)
    · skip
      have hc : -1 = a_bes N D x y z := by unfold a_bes; rw [if_neg hxn, if_pos c_4]; split <;> rfl
      refine lv_iconst (v := (-1)) hx hb dX3_beside_22 (by decide) ?_
      exact hret _ () _ _ _ _ dX3_beside_23 hP hD hS hc
    · skip
      have hy0 := c_4
      refine lv_iload_n hx hb dX3_beside_12 rfl (lv_at hl 3 rfl) ?_
      refine lv_if_lt (tgt := 22) hx hb dX3_beside_13 (by decide) (fun c_5 => ?_) (fun c_5 => ?_)
      · skip
        have hc : -1 = a_bes N D x y z := by unfold a_bes; rw [if_neg hxn, if_pos (inB_f1 c_5)]
        refine lv_iconst (v := (-1)) hx hb dX3_beside_22 (by decide) ?_
        exact hret _ () _ _ _ _ dX3_beside_23 hP hD hS hc
      · skip
        have hz9 := c_5
        refine lv_iload_n hx hb dX3_beside_16 rfl (lv_at hl 3 rfl) ?_
        refine lv_bipush (v := 31) hx hb dX3_beside_17 (by decide) ?_
        refine lv_icmp_le (tgt := 24) hx hb dX3_beside_19 (by decide) (fun c_6 => ?_) (fun c_6 => ?_)
        · skip
          have hzn : ¬ inB z 32 = 0 := inB_a (n := 31) (by decide) hz9 c_6
          obtain ⟨zi, hi, rfl⟩ := inB_1 (by decide) hzn
          obtain ⟨zq, hq, rfl⟩ := inB_1 (by omega) hxn
          obtain ⟨zk, hk, rfl⟩ := nI_of hy0
          have hl : lv_has ls 8 [(0, .ref (g 0)), (1, .int (nI zq)), (2, .int (nI zk)), (3, .int (nI zi))] := hl
          refine lv_iload_n hx hb dX3_beside_24 rfl (lv_at hl 2 rfl) ?_
          refine lv_istore (lv' := [(4, .int (nI zk)), (0, .ref (g 0)), (1, .int (nI zq)), (2, .int (nI zk)), (3, .int (nI zi))]) hx hb dX3_beside_25 hl (by decide) rfl (fun ls hl => ?_)
          refine lv_aload_n hx hb dX3_beside_27 rfl (lv_at hl 1 rfl) ?_
          refine x_vi ⟨hx, hb, hml, hown, hts⟩ (c_X3_levelsOf l G cA tF tC g _ N hN (nI (siz N)) D R F KD KR RW OU WO ST WK CA ln kp rd wr ft ) (cwV 0 hts gX3_beside_X3_levelsOf rfl rfl rfl (by decide +kernel) ⟨Nat.le_of_ble_eq_true rfl, Nat.le_of_ble_eq_true rfl⟩) hK hP hD hS hT rfl 0 3 rfl rfl rfl hl.1 rfl (Nat.le_of_ble_eq_true rfl) dX3_beside_28 ⟨Nat.le_refl _, Nat.le_refl _⟩ (fun r_8 u H locs hp_7 hP hD hS => ?_)
          have hP : va_P G vwCl (mW g cA N (nI (siz N)) D R F KD KR RW OU WO ST WK CA ln kp rd wr ft) _ := hP
          have hD : va_D _ (mW g cA N (nI (siz N)) D R F KD KR RW OU WO ST WK CA ln kp rd wr ft) := hD
          have hp_7 : r_8 = nI (lvs N) := hp_7
          subst hp_7
          refine lv_iconst (v := 1) hx hb dX3_beside_31 (by decide) ?_
          refine lv_isub hx hb dX3_beside_32 ?_
          refine x_eqi (y := nI ((lvs N) - 1)) (pk_sub (a := lvs N) (b := 1) (by omega)) ?_
          refine lv_istore (lv' := [(5, .int (nI ((lvs N) - 1))), (4, .int (nI zk)), (0, .ref (g 0)), (1, .int (nI zq)), (2, .int (nI zk)), (3, .int (nI zi))]) hx hb dX3_beside_33 hl (by decide) rfl (fun ls hl => ?_)
          refine lv_iconst (v := 0) hx hb dX3_beside_35 (by decide) ?_
          refine lv_istore (lv' := [(6, .int 0), (5, .int (nI ((lvs N) - 1))), (4, .int (nI zk)), (0, .ref (g 0)), (1, .int (nI zq)), (2, .int (nI zk)), (3, .int (nI zi))]) hx hb dX3_beside_36 hl (by decide) rfl (fun ls hl => ?_)
          have loop_38 : ∀ (n_38 : Nat) (ql : Nat) (zc : Nat), (lvs N - ql) < n_38 → (ql ≤ lvs N - 1) → (zc ≤ zk) → (besN N D zq zi (lvs N - 1 - ql) ql zc = a_bes N D (nI zq) (nI zk) (nI zi)) → ∀ (H : Heap) (locs : List Loc) (ls : Array Slot), va_P G vwCl (mW g cA N (nI (siz N)) D R F KD KR RW OU WO ST WK CA ln kp rd wr ft) H → va_D (wA g 14 s.heap.size) (mW g cA N (nI (siz N)) D R F KD KR RW OU WO ST WK CA ln kp rd wr ft) → va_S (wA g 14 s.heap.size) s.heap H locs → lv_has ls 8 [(0, .ref (g 0)), (1, .int (nI zq)), (2, .int (nI zk)), (3, .int (nI zi)), (4, .int (nI zc)), (5, .int (nI ((lvs N) - 1))), (6, .int (nI ql))] → W p l e { frames := 2, cells := 0, slots := 0, locals := 48 } s m args below meth c H locs 0 0 Q (F0 m 38 ls []) := by
            intro n_38
            induction n_38 with
            | zero => intro ql zc hm_38; exact absurd hm_38 (Nat.not_lt_zero _)
            | succ n_38 ih_38 =>
              intro ql zc hm_38 hql hzc hbe H locs ls hP hD hS hl
              have hbl := bsd_lt (p := zq) (l := ql) (by omega)
              refine lv_iload hx hb dX3_beside_38 (lv_at hl 6 rfl) ?_
              refine lv_iload hx hb dX3_beside_40 (lv_at hl 5 rfl) ?_
              refine lv_icmp_ge (tgt := 89) hx hb dX3_beside_42 (by decide) (fun c_9 => ?_) (fun c_9 => ?_)
              · skip
                have c_9 : ((lvs N) - 1) ≤ ql := (nI_leI (a := ((lvs N) - 1)) (b := ql) (by omega) (by omega)).mp c_9
                have hc : -1 = a_bes N D (nI zq) (nI zk) (nI zi) := by rw [← hbe, show lvs N - 1 - ql = 0 by omega]; rfl
                refine lv_iconst (v := (-1)) hx hb dX3_beside_89 (by decide) ?_
                exact hret _ () _ _ _ _ dX3_beside_90 hP hD hS hc
              · skip
                have c_9 : ¬ ((lvs N) - 1) ≤ ql := fun z => c_9 ((nI_leI (a := ((lvs N) - 1)) (b := ql) (by omega) (by omega)).mpr z)
                refine lv_aload_n hx hb dX3_beside_45 rfl (lv_at hl 0 rfl) ?_
                refine lv_iload_n hx hb dX3_beside_46 rfl (lv_at hl 1 rfl) ?_
                refine lv_iload hx hb dX3_beside_47 (lv_at hl 6 rfl) ?_
                refine x_vi ⟨hx, hb, hml, hown, hts⟩ (c_X3_besideOf l G cA tF tC g _ N hN (nI (siz N)) D R F KD KR RW OU WO ST WK CA ln kp rd wr ft zq ql (by omega) (by omega)) (cwV 2 hts gX3_beside_X3_besideOf rfl rfl rfl (by decide +kernel) ⟨Nat.le_of_ble_eq_true rfl, Nat.le_of_ble_eq_true rfl⟩) hK hP hD hS hT rfl 0 3 rfl rfl rfl hl.1 rfl (Nat.le_of_ble_eq_true rfl) dX3_beside_49 ⟨Nat.le_refl _, Nat.le_refl _⟩ (fun r_11 u H locs hp_10 hP hD hS => ?_)
                have hP : va_P G vwCl (mW g cA N (nI (siz N)) D R F KD KR RW OU WO ST WK CA ln kp rd wr ft) _ := hP
                have hD : va_D _ (mW g cA N (nI (siz N)) D R F KD KR RW OU WO ST WK CA ln kp rd wr ft) := hD
                have hp_10 : r_11 = bsdI N zq ql := hp_10
                subst hp_10
                refine lv_istore (lv' := [(7, .int (bsdI N zq ql)), (0, .ref (g 0)), (1, .int (nI zq)), (2, .int (nI zk)), (3, .int (nI zi)), (4, .int (nI zc)), (5, .int (nI ((lvs N) - 1))), (6, .int (nI ql))]) hx hb dX3_beside_52 hl (by decide) rfl (fun ls hl => ?_)
                refine lv_iload hx hb dX3_beside_54 (lv_at hl 0 rfl) ?_
                refine lv_if_lt (tgt := 83) hx hb dX3_beside_56 (by decide) (fun c_12 => ?_) (fun c_12 => ?_)
                · skip
                  have hbn := bsdI_neg (by omega) c_12
                  have hbe2 : besN N D zq zi (lvs N - 1 - (ql + 1)) (ql + 1) zc = a_bes N D (nI zq) (nI zk) (nI zi) := by rw [← hbe, show lvs N - 1 - ql = lvs N - 1 - (ql + 1) + 1 by omega, besN_s, if_neg hbn]
                  refine lv_iinc (v := nI (ql + 1)) (lv' := [(6, .int (nI (ql + 1))), (7, .int (bsdI N zq ql)), (0, .ref (g 0)), (1, .int (nI zq)), (2, .int (nI zk)), (3, .int (nI zi)), (4, .int (nI zc)), (5, .int (nI ((lvs N) - 1)))]) hx hb dX3_beside_83 hl (k := 7) rfl (nI_1 _) (by decide) rfl (fun ls hl => ?_)
                  refine lv_goto (tgt := 38) hx hb dX3_beside_86 (by decide) ?_
                  exact ih_38 (ql + 1) zc (by omega) (by omega) (by omega) hbe2 _ _ _ hP hD hS (lv_sub hl [2, 3, 4, 5, 6, 7, 0] rfl)
                · skip
                  have hbp := bsdI_pos c_12
                  have hpl := plc_in hN (show ql < lvs N by omega) hbp.1
                  have hl : lv_has ls 8 [(7, .int (nI (bsd zq ql))), (0, .ref (g 0)), (1, .int (nI zq)), (2, .int (nI zk)), (3, .int (nI zi)), (4, .int (nI zc)), (5, .int (nI ((lvs N) - 1))), (6, .int (nI ql))] := by rw [hbp.2] at hl; exact hl
                  refine lv_iload hx hb dX3_beside_59 (lv_at hl 5 rfl) ?_
                  refine lv_if_ne (tgt := 80) hx hb dX3_beside_61 (by decide) (fun c_13 => ?_) (fun c_13 => ?_)
                  · skip
                    have c_13 : ¬ zc = 0 := fun z => c_13 ((nI_eq (a := zc) (b := 0) (by omega) (by omega)).mpr z)
                    have hbe2 : besN N D zq zi (lvs N - 1 - (ql + 1)) (ql + 1) (zc - 1) = a_bes N D (nI zq) (nI zk) (nI zi) := by rw [← hbe, show lvs N - 1 - ql = lvs N - 1 - (ql + 1) + 1 by omega, besN_s, if_pos hbp.1, if_neg c_13]
                    refine lv_iinc (v := nI (zc - 1)) (lv' := [(4, .int (nI (zc - 1))), (7, .int (nI (bsd zq ql))), (0, .ref (g 0)), (1, .int (nI zq)), (2, .int (nI zk)), (3, .int (nI zi)), (5, .int (nI ((lvs N) - 1))), (6, .int (nI ql))]) hx hb dX3_beside_80 hl (k := 5) rfl (by rw [dec_1]; exact pk_sub (a := zc) (b := 1) (by omega)) (by decide) rfl (fun ls hl => ?_)
                    refine lv_iinc (v := nI (ql + 1)) (lv' := [(6, .int (nI (ql + 1))), (4, .int (nI (zc - 1))), (7, .int (nI (bsd zq ql))), (0, .ref (g 0)), (1, .int (nI zq)), (2, .int (nI zk)), (3, .int (nI zi)), (5, .int (nI ((lvs N) - 1)))]) hx hb dX3_beside_83 hl (k := 7) rfl (nI_1 _) (by decide) rfl (fun ls hl => ?_)
                    refine lv_goto (tgt := 38) hx hb dX3_beside_86 (by decide) ?_
                    exact ih_38 (ql + 1) (zc - 1) (by omega) (by omega) (by omega) hbe2 _ _ _ hP hD hS (lv_sub hl [3, 4, 5, 6, 1, 7, 0] rfl)
                  · skip
                    have c_13 : zc = 0 := (nI_eq (a := zc) (b := 0) (by omega) (by omega)).mp c_13
                    have hc : D (plc N ql (bsd zq ql) + zi) = a_bes N D (nI zq) (nI zk) (nI zi) := by rw [← hbe, show lvs N - 1 - ql = lvs N - 1 - (ql + 1) + 1 by omega, besN_s, if_pos hbp.1, if_pos c_13]
                    refine lv_aload_n hx hb dX3_beside_64 rfl (lv_at hl 1 rfl) ?_
                    refine va_get (D := G) (ci := 3) (v := .ref (g 3)) (C := RX3) (T := TX3) (N := 20) hx hb hts hinX3 hown hK hP 0 rfl rfl 4 (by decide) (hts (.fieldLink RX3 88 "SealedPagesModel" "disk" "[I") (by decide +kernel)) (fun _ h => h) rfl dX3_beside_65 ?_
                    refine lv_aload_n hx hb dX3_beside_68 rfl (lv_at hl 1 rfl) ?_
                    refine lv_iload hx hb dX3_beside_69 (lv_at hl 7 rfl) ?_
                    refine lv_iload hx hb dX3_beside_71 (lv_at hl 0 rfl) ?_
                    refine x_vi ⟨hx, hb, hml, hown, hts⟩ (c_X3_placeOf l G cA tF tC g _ N hN (nI (siz N)) D R F KD KR RW OU WO ST WK CA ln kp rd wr ft (ql) (bsd zq ql) (by omega)) (cwV 2 hts gX3_beside_X3_placeOf rfl rfl rfl (by decide +kernel) ⟨Nat.le_of_ble_eq_true rfl, Nat.le_of_ble_eq_true rfl⟩) hK hP hD hS hT rfl 0 3 rfl rfl rfl hl.1 rfl (Nat.le_of_ble_eq_true rfl) dX3_beside_73 ⟨Nat.le_refl _, Nat.le_refl _⟩ (fun r_15 u H locs hp_14 hP hD hS => ?_)
                    have hP : va_P G vwCl (mW g cA N (nI (siz N)) D R F KD KR RW OU WO ST WK CA ln kp rd wr ft) _ := hP
                    have hD : va_D _ (mW g cA N (nI (siz N)) D R F KD KR RW OU WO ST WK CA ln kp rd wr ft) := hD
                    have hp_14 : r_15 = nI (plc N ql (bsd zq ql)) := hp_14
                    subst hp_14
                    refine lv_iload_n hx hb dX3_beside_76 rfl (lv_at hl 4 rfl) ?_
                    refine lv_iadd hx hb dX3_beside_77 ?_
                    refine x_eqi (y := nI ((plc N ql (bsd zq ql)) + zi)) (nI_add (plc N ql (bsd zq ql)) zi) ?_
                    refine x_ald (i := (plc N ql (bsd zq ql)) + zi) hx hb hK hP 3 0 rfl rfl (by omega) (by decide) dX3_beside_78 ?_
                    exact hret _ () _ _ _ _ dX3_beside_79 hP hD hS hc
          exact loop_38 _ 0 zk (Nat.lt_succ_self _) (by omega) (by omega) (by rw [Nat.sub_zero]; exact bes_a hN hq hi hk) _ _ _ hP hD hS (lv_sub hl [3, 4, 5, 6, 2, 1, 0] rfl)
        · skip
          have hc : -1 = a_bes N D x y z := by unfold a_bes; rw [if_neg hxn, if_pos (inB_b (n := 31) (by decide) c_6)]
          refine lv_iconst (v := (-1)) hx hb dX3_beside_22 (by decide) ?_
          exact hret _ () _ _ _ _ dX3_beside_23 hP hD hS hc

set_option maxHeartbeats 4000000 in
set_option maxRecDepth 100000 in
theorem c_X3_keep (l : Launch) (G : va_G) (cA : ClassId) (tF tC : Nat) (g : Nat → Nat) (sz N : Nat) (hN : 1 ≤ N ∧ N ≤ 64) (D R F KD KR RW OU WO ST WK CA : Nat → Int32) (ln kp rd wr ft : Int32)  : CI l yX3_keep wsX3_keep 0 0 G cA tF tC g 14 sz (mW g cA N (nI (siz N)) D R F KD KR RW OU WO ST WK CA ln kp rd wr ft) [.ref (g 0)] (fun (u : Unit) => mW g cA N (nI (siz N)) D R F (va_cpy D KD 0 0 (siz N)) (va_cpy R KR 0 0 32) RW OU WO ST WK CA ln 1 rd wr ft) (fun r _ => r = nI (siz N)) := by
  refine x_entryI (cc := cX3_keep) (maxL := 2) (by decide) rfl (fun _ => rfl) (Nat.le_of_ble_eq_true rfl) ?_
  intro p e s m args below meth c Q hx hb hml hown hts hK hP hD hS hT hret ls hl
  have hown : s.vm.findClass RX3 = some m.cls := hown
  have hl : lv_has ls 2 [(0, .ref (g 0))] := hl
  have hinX3 : ∀ w ∈ wsX30, w ∈ wsX3_keep := by decide +kernel
  have hz := siz_le hN
  have hse := siz_eq N
  have hnd := nds_le hN
  have hlv := lvs_in hN
  refine lv_iconst (v := 0) hx hb dX3_keep_0 (by decide) ?_
  refine lv_istore_n (lv' := [(1, .int 0), (0, .ref (g 0))]) hx hb dX3_keep_1 rfl hl (by decide) rfl (fun ls hl => ?_)
  have loop_2 : ∀ (n_2 : Nat) (zi : Nat), (siz N - zi) < n_2 → (zi ≤ siz N) → ∀ (H : Heap) (locs : List Loc) (ls : Array Slot), va_P G vwCl (mW g cA N (nI (siz N)) D R F (va_cpy D KD 0 0 zi) KR RW OU WO ST WK CA ln kp rd wr ft) H → va_D (wA g 14 s.heap.size) (mW g cA N (nI (siz N)) D R F (va_cpy D KD 0 0 zi) KR RW OU WO ST WK CA ln kp rd wr ft) → va_S (wA g 14 s.heap.size) s.heap H locs → lv_has ls 2 [(0, .ref (g 0)), (1, .int (nI zi))] → W p l e { frames := 0, cells := 0, slots := 0, locals := 0 } s m args below meth c H locs 0 0 Q (F0 m 2 ls []) := by
    intro n_2
    induction n_2 with
    | zero => intro zi hm_2; exact absurd hm_2 (Nat.not_lt_zero _)
    | succ n_2 ih_2 =>
      intro zi hm_2 hi H locs ls hP hD hS hl
      refine lv_iload_n hx hb dX3_keep_2 rfl (lv_at hl 1 rfl) ?_
      refine lv_aload_n hx hb dX3_keep_3 rfl (lv_at hl 0 rfl) ?_
      refine va_get (D := G) (ci := 3) (v := .int (nI (siz N))) (C := RX3) (T := TX3) (N := 20) hx hb hts hinX3 hown hK hP 0 rfl rfl 3 (by decide) (hts (.fieldLink RX3 133 "SealedPagesModel" "size" "I") (by decide +kernel)) (fun _ h => h) rfl dX3_keep_4 ?_
      refine lv_icmp_ge (tgt := 28) hx hb dX3_keep_7 (by decide) (fun c_1 => ?_) (fun c_1 => ?_)
      · skip
        have c_1 : (siz N) ≤ zi := (nI_leI (a := (siz N)) (b := zi) (by omega) (by omega)).mp c_1
        obtain rfl : zi = siz N := by omega
        have hl : lv_has ls 2 [(0, .ref (g 0)), (1, .int (nI (siz N)))] := hl
        refine lv_iconst (v := 0) hx hb dX3_keep_28 (by decide) ?_
        refine lv_istore_n (lv' := [(1, .int 0), (0, .ref (g 0))]) hx hb dX3_keep_29 rfl hl (by decide) rfl (fun ls hl => ?_)
        have loop_30 : ∀ (n_30 : Nat) (zi : Nat), (32 - zi) < n_30 → (zi ≤ 32) → ∀ (H : Heap) (locs : List Loc) (ls : Array Slot), va_P G vwCl (mW g cA N (nI (siz N)) D R F (va_cpy D KD 0 0 (siz N)) (va_cpy R KR 0 0 zi) RW OU WO ST WK CA ln kp rd wr ft) H → va_D (wA g 14 s.heap.size) (mW g cA N (nI (siz N)) D R F (va_cpy D KD 0 0 (siz N)) (va_cpy R KR 0 0 zi) RW OU WO ST WK CA ln kp rd wr ft) → va_S (wA g 14 s.heap.size) s.heap H locs → lv_has ls 2 [(0, .ref (g 0)), (1, .int (nI zi))] → W p l e { frames := 0, cells := 0, slots := 0, locals := 0 } s m args below meth c H locs 0 0 Q (F0 m 30 ls []) := by
          intro n_30
          induction n_30 with
          | zero => intro zi hm_30; exact absurd hm_30 (Nat.not_lt_zero _)
          | succ n_30 ih_30 =>
            intro zi hm_30 hi H locs ls hP hD hS hl
            refine lv_iload_n hx hb dX3_keep_30 rfl (lv_at hl 1 rfl) ?_
            refine lv_bipush (v := 32) hx hb dX3_keep_31 (by decide) ?_
            refine lv_icmp_ge (tgt := 54) hx hb dX3_keep_33 (by decide) (fun c_2 => ?_) (fun c_2 => ?_)
            · skip
              have c_2 : 32 ≤ zi := (nI_leI (a := 32) (b := zi) (by omega) (by omega)).mp c_2
              obtain rfl : zi = 32 := by omega
              have hl : lv_has ls 2 [(0, .ref (g 0)), (1, .int (nI 32))] := hl
              refine lv_aload_n hx hb dX3_keep_54 rfl (lv_at hl 0 rfl) ?_
              refine lv_iconst (v := 1) hx hb dX3_keep_55 (by decide) ?_
              refine va_put (D := G) (ci := 3) (v := .int 1) (ty := .boolean) (C := RX3) (T := TX3) (N := 20) hx hb hts hinX3 tyX3 tyX3_ok nmX3 hown hK hP hD hS 0 rfl rfl 9 (by decide) (hts (.fieldLink RX3 207 "SealedPagesModel" "isKept" "Z") (by decide +kernel)) (fun _ h => h) rfl (by decide +kernel) rfl rfl (Nat.le_of_ble_eq_true rfl) dX3_keep_56 (fun H locs hP hD hS => ?_)
              have hP : va_P G vwCl (mW g cA N (nI (siz N)) D R F (va_cpy D KD 0 0 (siz N)) (va_cpy R KR 0 0 32) RW OU WO ST WK CA ln 1 rd wr ft) _ := hP
              have hD : va_D _ (mW g cA N (nI (siz N)) D R F (va_cpy D KD 0 0 (siz N)) (va_cpy R KR 0 0 32) RW OU WO ST WK CA ln 1 rd wr ft) := hD
              refine lv_aload_n hx hb dX3_keep_59 rfl (lv_at hl 0 rfl) ?_
              refine va_get (D := G) (ci := 3) (v := .int (nI (siz N))) (C := RX3) (T := TX3) (N := 20) hx hb hts hinX3 hown hK hP 0 rfl rfl 3 (by decide) (hts (.fieldLink RX3 133 "SealedPagesModel" "size" "I") (by decide +kernel)) (fun _ h => h) rfl dX3_keep_60 ?_
              exact hret _ () _ _ _ _ dX3_keep_63 hP hD hS rfl
            · skip
              have c_2 : ¬ 32 ≤ zi := fun z => c_2 ((nI_leI (a := 32) (b := zi) (by omega) (by omega)).mpr z)
              refine lv_aload_n hx hb dX3_keep_36 rfl (lv_at hl 0 rfl) ?_
              refine va_get (D := G) (ci := 3) (v := .ref (g 7)) (C := RX3) (T := TX3) (N := 20) hx hb hts hinX3 hown hK hP 0 rfl rfl 8 (by decide) (hts (.fieldLink RX3 100 "SealedPagesModel" "keptRoot" "[I") (by decide +kernel)) (fun _ h => h) rfl dX3_keep_37 ?_
              refine lv_iload_n hx hb dX3_keep_40 rfl (lv_at hl 1 rfl) ?_
              refine lv_aload_n hx hb dX3_keep_41 rfl (lv_at hl 0 rfl) ?_
              refine va_get (D := G) (ci := 3) (v := .ref (g 4)) (C := RX3) (T := TX3) (N := 20) hx hb hts hinX3 hown hK hP 0 rfl rfl 5 (by decide) (hts (.fieldLink RX3 91 "SealedPagesModel" "root" "[I") (by decide +kernel)) (fun _ h => h) rfl dX3_keep_42 ?_
              refine lv_iload_n hx hb dX3_keep_45 rfl (lv_at hl 1 rfl) ?_
              refine x_ald (i := zi) hx hb hK hP 4 0 rfl rfl (by omega) (by decide) dX3_keep_46 ?_
              refine x_ast (i := zi) hx hb hK hP hD hS 7 0 rfl rfl (by omega) (by decide) dX3_keep_47 (fun H locs hP hD hS => ?_)
              have hP : va_P G vwCl (mW g cA N (nI (siz N)) D R F (va_cpy D KD 0 0 (siz N)) (upd (va_cpy R KR 0 0 zi) zi (R zi)) RW OU WO ST WK CA ln kp rd wr ft) _ := hP
              have hD : va_D _ (mW g cA N (nI (siz N)) D R F (va_cpy D KD 0 0 (siz N)) (upd (va_cpy R KR 0 0 zi) zi (R zi)) RW OU WO ST WK CA ln kp rd wr ft) := hD
              have ec_3 : upd (va_cpy R KR 0 0 zi) zi (R zi) = va_cpy R KR 0 0 (zi + 1) := by have h := cpy_s R KR 0 0 zi; rwa [Nat.zero_add] at h
              rw [show mW g cA N (nI (siz N)) D R F (va_cpy D KD 0 0 (siz N)) (upd (va_cpy R KR 0 0 zi) zi (R zi)) RW OU WO ST WK CA ln kp rd wr ft = mW g cA N (nI (siz N)) D R F (va_cpy D KD 0 0 (siz N)) (va_cpy R KR 0 0 (zi + 1)) RW OU WO ST WK CA ln kp rd wr ft from by rw [← ec_3]] at hP hD
              refine lv_iinc (v := nI (zi + 1)) (lv' := [(1, .int (nI (zi + 1))), (0, .ref (g 0))]) hx hb dX3_keep_48 hl (k := 1) rfl (nI_1 _) (by decide) rfl (fun ls hl => ?_)
              refine lv_goto (tgt := 30) hx hb dX3_keep_51 (by decide) ?_
              exact ih_30 (zi + 1) (by omega) (by omega) _ _ _ hP hD hS (lv_sub hl [1, 0] rfl)
        rw [← cpy_0 R KR 0 0] at hP hD
        exact loop_30 _ 0 (Nat.lt_succ_self _) (by omega) _ _ _ hP hD hS (lv_sub hl [1, 0] rfl)
      · skip
        have c_1 : ¬ (siz N) ≤ zi := fun z => c_1 ((nI_leI (a := (siz N)) (b := zi) (by omega) (by omega)).mpr z)
        refine lv_aload_n hx hb dX3_keep_10 rfl (lv_at hl 0 rfl) ?_
        refine va_get (D := G) (ci := 3) (v := .ref (g 6)) (C := RX3) (T := TX3) (N := 20) hx hb hts hinX3 hown hK hP 0 rfl rfl 7 (by decide) (hts (.fieldLink RX3 97 "SealedPagesModel" "keptDisk" "[I") (by decide +kernel)) (fun _ h => h) rfl dX3_keep_11 ?_
        refine lv_iload_n hx hb dX3_keep_14 rfl (lv_at hl 1 rfl) ?_
        refine lv_aload_n hx hb dX3_keep_15 rfl (lv_at hl 0 rfl) ?_
        refine va_get (D := G) (ci := 3) (v := .ref (g 3)) (C := RX3) (T := TX3) (N := 20) hx hb hts hinX3 hown hK hP 0 rfl rfl 4 (by decide) (hts (.fieldLink RX3 88 "SealedPagesModel" "disk" "[I") (by decide +kernel)) (fun _ h => h) rfl dX3_keep_16 ?_
        refine lv_iload_n hx hb dX3_keep_19 rfl (lv_at hl 1 rfl) ?_
        refine x_ald (i := zi) hx hb hK hP 3 0 rfl rfl (by omega) (by decide) dX3_keep_20 ?_
        refine x_ast (i := zi) hx hb hK hP hD hS 6 0 rfl rfl (by omega) (by decide) dX3_keep_21 (fun H locs hP hD hS => ?_)
        have hP : va_P G vwCl (mW g cA N (nI (siz N)) D R F (upd (va_cpy D KD 0 0 zi) zi (D zi)) KR RW OU WO ST WK CA ln kp rd wr ft) _ := hP
        have hD : va_D _ (mW g cA N (nI (siz N)) D R F (upd (va_cpy D KD 0 0 zi) zi (D zi)) KR RW OU WO ST WK CA ln kp rd wr ft) := hD
        have ec_4 : upd (va_cpy D KD 0 0 zi) zi (D zi) = va_cpy D KD 0 0 (zi + 1) := by have h := cpy_s D KD 0 0 zi; rwa [Nat.zero_add] at h
        rw [show mW g cA N (nI (siz N)) D R F (upd (va_cpy D KD 0 0 zi) zi (D zi)) KR RW OU WO ST WK CA ln kp rd wr ft = mW g cA N (nI (siz N)) D R F (va_cpy D KD 0 0 (zi + 1)) KR RW OU WO ST WK CA ln kp rd wr ft from by rw [← ec_4]] at hP hD
        refine lv_iinc (v := nI (zi + 1)) (lv' := [(1, .int (nI (zi + 1))), (0, .ref (g 0))]) hx hb dX3_keep_22 hl (k := 1) rfl (nI_1 _) (by decide) rfl (fun ls hl => ?_)
        refine lv_goto (tgt := 2) hx hb dX3_keep_25 (by decide) ?_
        exact ih_2 (zi + 1) (by omega) (by omega) _ _ _ hP hD hS (lv_sub hl [1, 0] rfl)
  rw [← cpy_0 D KD 0 0] at hP hD
  exact loop_2 _ 0 (Nat.lt_succ_self _) (by omega) _ _ _ hP hD hS (lv_sub hl [1, 0] rfl)

set_option maxHeartbeats 4000000 in
set_option maxRecDepth 100000 in
theorem c_X3_back (l : Launch) (G : va_G) (cA : ClassId) (tF tC : Nat) (g : Nat → Nat) (sz N : Nat) (hN : 1 ≤ N ∧ N ≤ 64) (D R F KD KR RW OU WO ST WK CA : Nat → Int32) (ln kp rd wr ft : Int32)  : CI l yX3_back wsX3_back 0 0 G cA tF tC g 14 sz (mW g cA N (nI (siz N)) D R F KD KR RW OU WO ST WK CA ln kp rd wr ft) [.ref (g 0)] (fun (u : Unit) => mW g cA N (nI (siz N)) (s_bak N D KD kp) R F KD KR RW OU WO ST WK CA ln kp rd wr ft) (fun r _ => r = a_bak N D KD kp) := by
  refine x_entryI (cc := cX3_back) (maxL := 3) (by decide) rfl (fun _ => rfl) (Nat.le_of_ble_eq_true rfl) ?_
  intro p e s m args below meth c Q hx hb hml hown hts hK hP hD hS hT hret ls hl
  have hown : s.vm.findClass RX3 = some m.cls := hown
  have hl : lv_has ls 3 [(0, .ref (g 0))] := hl
  have hinX3 : ∀ w ∈ wsX30, w ∈ wsX3_back := by decide +kernel
  have hz := siz_le hN
  have hse := siz_eq N
  have hnd := nds_le hN
  have hlv := lvs_in hN
  refine lv_aload_n hx hb dX3_back_0 rfl (lv_at hl 0 rfl) ?_
  refine va_get (D := G) (ci := 3) (v := .int kp) (C := RX3) (T := TX3) (N := 20) hx hb hts hinX3 hown hK hP 0 rfl rfl 9 (by decide) (hts (.fieldLink RX3 207 "SealedPagesModel" "isKept" "Z") (by decide +kernel)) (fun _ h => h) rfl dX3_back_1 ?_
  refine lv_if_ne (tgt := 9) hx hb dX3_back_4 (by decide) (fun c_1 => ?_) (fun c_1 => ?_)
  · skip
    have hcn := c_1
    refine lv_iconst (v := 0) hx hb dX3_back_9 (by decide) ?_
    refine lv_istore_n (lv' := [(1, .int 0), (0, .ref (g 0))]) hx hb dX3_back_10 rfl hl (by decide) rfl (fun ls hl => ?_)
    refine lv_iconst (v := 0) hx hb dX3_back_11 (by decide) ?_
    refine lv_istore_n (lv' := [(2, .int 0), (1, .int 0), (0, .ref (g 0))]) hx hb dX3_back_12 rfl hl (by decide) rfl (fun ls hl => ?_)
    have loop_13 : ∀ (n_13 : Nat) (zi : Nat), (siz N - zi) < n_13 → (zi ≤ siz N) → ∀ (H : Heap) (locs : List Loc) (ls : Array Slot), va_P G vwCl (mW g cA N (nI (siz N)) (va_cpy KD D 0 0 zi) R F KD KR RW OU WO ST WK CA ln kp rd wr ft) H → va_D (wA g 14 s.heap.size) (mW g cA N (nI (siz N)) (va_cpy KD D 0 0 zi) R F KD KR RW OU WO ST WK CA ln kp rd wr ft) → va_S (wA g 14 s.heap.size) s.heap H locs → lv_has ls 3 [(0, .ref (g 0)), (1, .int (nI (difN D KD zi))), (2, .int (nI zi))] → W p l e { frames := 0, cells := 0, slots := 0, locals := 0 } s m args below meth c H locs 0 0 Q (F0 m 13 ls []) := by
      intro n_13
      induction n_13 with
      | zero => intro zi hm_13; exact absurd hm_13 (Nat.not_lt_zero _)
      | succ n_13 ih_13 =>
        intro zi hm_13 hi H locs ls hP hD hS hl
        have hdl := difN_le D KD zi
        have hat : va_cpy KD D 0 0 zi zi = D zi := pk_cpy_out (by omega)
        refine lv_iload_n hx hb dX3_back_13 rfl (lv_at hl 2 rfl) ?_
        refine lv_aload_n hx hb dX3_back_14 rfl (lv_at hl 0 rfl) ?_
        refine va_get (D := G) (ci := 3) (v := .int (nI (siz N))) (C := RX3) (T := TX3) (N := 20) hx hb hts hinX3 hown hK hP 0 rfl rfl 3 (by decide) (hts (.fieldLink RX3 133 "SealedPagesModel" "size" "I") (by decide +kernel)) (fun _ h => h) rfl dX3_back_15 ?_
        refine lv_icmp_ge (tgt := 62) hx hb dX3_back_18 (by decide) (fun c_2 => ?_) (fun c_2 => ?_)
        · skip
          have c_2 : (siz N) ≤ zi := (nI_leI (a := (siz N)) (b := zi) (by omega) (by omega)).mp c_2
          obtain rfl : zi = siz N := by omega
          have hl : lv_has ls 3 [(0, .ref (g 0)), (1, .int (nI (difN D KD (siz N)))), (2, .int (nI (siz N)))] := hl
          have ec_3 : va_cpy KD D 0 0 (siz N) = s_bak N D KD kp := by unfold s_bak; rw [if_neg hcn]
          rw [show mW g cA N (nI (siz N)) (va_cpy KD D 0 0 (siz N)) R F KD KR RW OU WO ST WK CA ln kp rd wr ft = mW g cA N (nI (siz N)) (s_bak N D KD kp) R F KD KR RW OU WO ST WK CA ln kp rd wr ft from by rw [← ec_3]] at hP hD
          refine lv_iload_n hx hb dX3_back_62 rfl (lv_at hl 1 rfl) ?_
          exact hret _ () _ _ _ _ dX3_back_63 hP hD hS (by unfold a_bak; first | rw [if_pos hc] | rw [if_neg hcn])
        · skip
          have c_2 : ¬ (siz N) ≤ zi := fun z => c_2 ((nI_leI (a := (siz N)) (b := zi) (by omega) (by omega)).mpr z)
          refine lv_iload_n hx hb dX3_back_21 rfl (lv_at hl 1 rfl) ?_
          refine lv_aload_n hx hb dX3_back_22 rfl (lv_at hl 0 rfl) ?_
          refine va_get (D := G) (ci := 3) (v := .ref (g 3)) (C := RX3) (T := TX3) (N := 20) hx hb hts hinX3 hown hK hP 0 rfl rfl 4 (by decide) (hts (.fieldLink RX3 88 "SealedPagesModel" "disk" "[I") (by decide +kernel)) (fun _ h => h) rfl dX3_back_23 ?_
          refine lv_iload_n hx hb dX3_back_26 rfl (lv_at hl 2 rfl) ?_
          refine x_ald (i := zi) hx hb hK hP 3 0 rfl rfl (by omega) (by decide) dX3_back_27 ?_
          refine lv_aload_n hx hb dX3_back_28 rfl (lv_at hl 0 rfl) ?_
          refine va_get (D := G) (ci := 3) (v := .ref (g 6)) (C := RX3) (T := TX3) (N := 20) hx hb hts hinX3 hown hK hP 0 rfl rfl 7 (by decide) (hts (.fieldLink RX3 97 "SealedPagesModel" "keptDisk" "[I") (by decide +kernel)) (fun _ h => h) rfl dX3_back_29 ?_
          refine lv_iload_n hx hb dX3_back_32 rfl (lv_at hl 2 rfl) ?_
          refine x_ald (i := zi) hx hb hK hP 6 0 rfl rfl (by omega) (by decide) dX3_back_33 ?_
          refine lv_icmp_eq (tgt := 41) hx hb dX3_back_34 (by decide) (fun c_4 => ?_) (fun c_4 => ?_)
          · skip
            have hdy : D zi = KD zi := hat.symm.trans c_4
            refine lv_iconst (v := 0) hx hb dX3_back_41 (by decide) ?_
            refine lv_iadd hx hb dX3_back_42 ?_
            refine x_eqi (y := nI ((difN D KD zi) + 0)) (nI_add (difN D KD zi) 0) ?_
            refine x_eqi (y := nI (difN D KD (zi + 1))) (by rw [dif_s]; first | rw [if_pos hdy] | rw [if_neg hdn]) ?_
            refine lv_istore_n (lv' := [(1, .int (nI (difN D KD (zi + 1)))), (0, .ref (g 0)), (2, .int (nI zi))]) hx hb dX3_back_43 rfl hl (by decide) rfl (fun ls hl => ?_)
            refine lv_aload_n hx hb dX3_back_44 rfl (lv_at hl 1 rfl) ?_
            refine va_get (D := G) (ci := 3) (v := .ref (g 3)) (C := RX3) (T := TX3) (N := 20) hx hb hts hinX3 hown hK hP 0 rfl rfl 4 (by decide) (hts (.fieldLink RX3 88 "SealedPagesModel" "disk" "[I") (by decide +kernel)) (fun _ h => h) rfl dX3_back_45 ?_
            refine lv_iload_n hx hb dX3_back_48 rfl (lv_at hl 2 rfl) ?_
            refine lv_aload_n hx hb dX3_back_49 rfl (lv_at hl 1 rfl) ?_
            refine va_get (D := G) (ci := 3) (v := .ref (g 6)) (C := RX3) (T := TX3) (N := 20) hx hb hts hinX3 hown hK hP 0 rfl rfl 7 (by decide) (hts (.fieldLink RX3 97 "SealedPagesModel" "keptDisk" "[I") (by decide +kernel)) (fun _ h => h) rfl dX3_back_50 ?_
            refine lv_iload_n hx hb dX3_back_53 rfl (lv_at hl 2 rfl) ?_
            refine x_ald (i := zi) hx hb hK hP 6 0 rfl rfl (by omega) (by decide) dX3_back_54 ?_
            refine x_ast (i := zi) hx hb hK hP hD hS 3 0 rfl rfl (by omega) (by decide) dX3_back_55 (fun H locs hP hD hS => ?_)
            have hP : va_P G vwCl (mW g cA N (nI (siz N)) (upd (va_cpy KD D 0 0 zi) zi (KD zi)) R F KD KR RW OU WO ST WK CA ln kp rd wr ft) _ := hP
            have hD : va_D _ (mW g cA N (nI (siz N)) (upd (va_cpy KD D 0 0 zi) zi (KD zi)) R F KD KR RW OU WO ST WK CA ln kp rd wr ft) := hD
            have ec_5 : upd (va_cpy KD D 0 0 zi) zi (KD zi) = va_cpy KD D 0 0 (zi + 1) := by have h := cpy_s KD D 0 0 zi; rwa [Nat.zero_add] at h
            rw [show mW g cA N (nI (siz N)) (upd (va_cpy KD D 0 0 zi) zi (KD zi)) R F KD KR RW OU WO ST WK CA ln kp rd wr ft = mW g cA N (nI (siz N)) (va_cpy KD D 0 0 (zi + 1)) R F KD KR RW OU WO ST WK CA ln kp rd wr ft from by rw [← ec_5]] at hP hD
            refine lv_iinc (v := nI (zi + 1)) (lv' := [(2, .int (nI (zi + 1))), (1, .int (nI (difN D KD (zi + 1)))), (0, .ref (g 0))]) hx hb dX3_back_56 hl (k := 2) rfl (nI_1 _) (by decide) rfl (fun ls hl => ?_)
            refine lv_goto (tgt := 13) hx hb dX3_back_59 (by decide) ?_
            exact ih_13 (zi + 1) (by omega) (by omega) _ _ _ hP hD hS (lv_sub hl [2, 1, 0] rfl)
          · skip
            have hdn : ¬ D zi = KD zi := fun h => c_4 (hat.trans h)
            refine lv_iconst (v := 1) hx hb dX3_back_37 (by decide) ?_
            refine lv_goto (tgt := 42) hx hb dX3_back_38 (by decide) ?_
            refine lv_iadd hx hb dX3_back_42 ?_
            refine x_eqi (y := nI ((difN D KD zi) + 1)) (nI_add (difN D KD zi) 1) ?_
            refine x_eqi (y := nI (difN D KD (zi + 1))) (by rw [dif_s]; first | rw [if_pos hdy] | rw [if_neg hdn]) ?_
            refine lv_istore_n (lv' := [(1, .int (nI (difN D KD (zi + 1)))), (0, .ref (g 0)), (2, .int (nI zi))]) hx hb dX3_back_43 rfl hl (by decide) rfl (fun ls hl => ?_)
            refine lv_aload_n hx hb dX3_back_44 rfl (lv_at hl 1 rfl) ?_
            refine va_get (D := G) (ci := 3) (v := .ref (g 3)) (C := RX3) (T := TX3) (N := 20) hx hb hts hinX3 hown hK hP 0 rfl rfl 4 (by decide) (hts (.fieldLink RX3 88 "SealedPagesModel" "disk" "[I") (by decide +kernel)) (fun _ h => h) rfl dX3_back_45 ?_
            refine lv_iload_n hx hb dX3_back_48 rfl (lv_at hl 2 rfl) ?_
            refine lv_aload_n hx hb dX3_back_49 rfl (lv_at hl 1 rfl) ?_
            refine va_get (D := G) (ci := 3) (v := .ref (g 6)) (C := RX3) (T := TX3) (N := 20) hx hb hts hinX3 hown hK hP 0 rfl rfl 7 (by decide) (hts (.fieldLink RX3 97 "SealedPagesModel" "keptDisk" "[I") (by decide +kernel)) (fun _ h => h) rfl dX3_back_50 ?_
            refine lv_iload_n hx hb dX3_back_53 rfl (lv_at hl 2 rfl) ?_
            refine x_ald (i := zi) hx hb hK hP 6 0 rfl rfl (by omega) (by decide) dX3_back_54 ?_
            refine x_ast (i := zi) hx hb hK hP hD hS 3 0 rfl rfl (by omega) (by decide) dX3_back_55 (fun H locs hP hD hS => ?_)
            have hP : va_P G vwCl (mW g cA N (nI (siz N)) (upd (va_cpy KD D 0 0 zi) zi (KD zi)) R F KD KR RW OU WO ST WK CA ln kp rd wr ft) _ := hP
            have hD : va_D _ (mW g cA N (nI (siz N)) (upd (va_cpy KD D 0 0 zi) zi (KD zi)) R F KD KR RW OU WO ST WK CA ln kp rd wr ft) := hD
            have ec_6 : upd (va_cpy KD D 0 0 zi) zi (KD zi) = va_cpy KD D 0 0 (zi + 1) := by have h := cpy_s KD D 0 0 zi; rwa [Nat.zero_add] at h
            rw [show mW g cA N (nI (siz N)) (upd (va_cpy KD D 0 0 zi) zi (KD zi)) R F KD KR RW OU WO ST WK CA ln kp rd wr ft = mW g cA N (nI (siz N)) (va_cpy KD D 0 0 (zi + 1)) R F KD KR RW OU WO ST WK CA ln kp rd wr ft from by rw [← ec_6]] at hP hD
            refine lv_iinc (v := nI (zi + 1)) (lv' := [(2, .int (nI (zi + 1))), (1, .int (nI (difN D KD (zi + 1)))), (0, .ref (g 0))]) hx hb dX3_back_56 hl (k := 2) rfl (nI_1 _) (by decide) rfl (fun ls hl => ?_)
            refine lv_goto (tgt := 13) hx hb dX3_back_59 (by decide) ?_
            exact ih_13 (zi + 1) (by omega) (by omega) _ _ _ hP hD hS (lv_sub hl [2, 1, 0] rfl)
    rw [← cpy_0 KD D 0 0] at hP hD
    exact loop_13 _ 0 (Nat.lt_succ_self _) (by omega) _ _ _ hP hD hS (lv_sub hl [2, 1, 0] rfl)
  · skip
    have hc := c_1
    have ec_7 : D = s_bak N D KD kp := by unfold s_bak; rw [if_pos hc]
    rw [show mW g cA N (nI (siz N)) D R F KD KR RW OU WO ST WK CA ln kp rd wr ft = mW g cA N (nI (siz N)) (s_bak N D KD kp) R F KD KR RW OU WO ST WK CA ln kp rd wr ft from by rw [← ec_7]] at hP hD
    refine lv_iconst (v := (-1)) hx hb dX3_back_7 (by decide) ?_
    exact hret _ () _ _ _ _ dX3_back_8 hP hD hS (by unfold a_bak; first | rw [if_pos hc] | rw [if_neg hcn])

set_option maxHeartbeats 4000000 in
set_option maxRecDepth 100000 in
theorem c_X3_open (l : Launch) (G : va_G) (cA : ClassId) (tF tC : Nat) (g : Nat → Nat) (sz N : Nat) (hN : 1 ≤ N ∧ N ≤ 64) (D R F KD KR RW OU WO ST WK CA : Nat → Int32) (ln kp rd wr ft : Int32)  : CI l yX3_open wsX3_open 1 22 G cA tF tC g 14 sz (mW g cA N (nI (siz N)) D R F KD KR RW OU WO ST WK CA ln kp rd wr ft) [.ref (g 0)] (fun (u : Unit) => mW g cA N (nI (siz N)) (s_bak N D KD kp) (s_opn R KR kp) F KD KR RW OU WO ST WK CA ln kp rd wr ft) (fun r _ => r = a_bak N D KD kp) := by
  refine x_entryI (cc := cX3_open) (maxL := 3) (by decide) rfl (fun _ => rfl) (Nat.le_of_ble_eq_true rfl) ?_
  intro p e s m args below meth c Q hx hb hml hown hts hK hP hD hS hT hret ls hl
  have hown : s.vm.findClass RX3 = some m.cls := hown
  have hl : lv_has ls 3 [(0, .ref (g 0))] := hl
  have hinX3 : ∀ w ∈ wsX30, w ∈ wsX3_open := by decide +kernel
  have hz := siz_le hN
  have hse := siz_eq N
  have hnd := nds_le hN
  have hlv := lvs_in hN
  refine lv_aload_n hx hb dX3_open_0 rfl (lv_at hl 0 rfl) ?_
  refine x_vi ⟨hx, hb, hml, hown, hts⟩ (c_X3_back l G cA tF tC g _ N hN D R F KD KR RW OU WO ST WK CA ln kp rd wr ft ) (cwV 0 hts gX3_open_X3_back rfl rfl rfl (by decide +kernel) ⟨Nat.le_of_ble_eq_true rfl, Nat.le_of_ble_eq_true rfl⟩) hK hP hD hS hT rfl 0 3 rfl rfl rfl hl.1 rfl (Nat.le_of_ble_eq_true rfl) dX3_open_1 ⟨Nat.le_refl _, Nat.le_refl _⟩ (fun r_2 u H locs hp_1 hP hD hS => ?_)
  have hP : va_P G vwCl (mW g cA N (nI (siz N)) (s_bak N D KD kp) R F KD KR RW OU WO ST WK CA ln kp rd wr ft) _ := hP
  have hD : va_D _ (mW g cA N (nI (siz N)) (s_bak N D KD kp) R F KD KR RW OU WO ST WK CA ln kp rd wr ft) := hD
  have hp_1 : r_2 = a_bak N D KD kp := hp_1
  subst hp_1
  refine lv_topi (fun zr ezr => ?_)
  refine lv_istore_n (lv' := [(1, .int zr), (0, .ref (g 0))]) hx hb dX3_open_4 rfl hl (by decide) rfl (fun ls hl => ?_)
  refine lv_iconst (v := 0) hx hb dX3_open_5 (by decide) ?_
  refine lv_istore_n (lv' := [(2, .int 0), (1, .int zr), (0, .ref (g 0))]) hx hb dX3_open_6 rfl hl (by decide) rfl (fun ls hl => ?_)
  have loop_7 : ∀ (n_7 : Nat) (zi : Nat), (32 - zi) < n_7 → (zi ≤ 32) → (zi = 0 ∨ ¬ kp = 0) → ∀ (H : Heap) (locs : List Loc) (ls : Array Slot), va_P G vwCl (mW g cA N (nI (siz N)) (s_bak N D KD kp) (va_cpy KR R 0 0 zi) F KD KR RW OU WO ST WK CA ln kp rd wr ft) H → va_D (wA g 14 s.heap.size) (mW g cA N (nI (siz N)) (s_bak N D KD kp) (va_cpy KR R 0 0 zi) F KD KR RW OU WO ST WK CA ln kp rd wr ft) → va_S (wA g 14 s.heap.size) s.heap H locs → lv_has ls 3 [(0, .ref (g 0)), (1, .int zr), (2, .int (nI zi))] → W p l e { frames := 1, cells := 0, slots := 0, locals := 22 } s m args below meth c H locs 0 0 Q (F0 m 7 ls []) := by
    intro n_7
    induction n_7 with
    | zero => intro zi hm_7; exact absurd hm_7 (Nat.not_lt_zero _)
    | succ n_7 ih_7 =>
      intro zi hm_7 hi hik H locs ls hP hD hS hl
      refine lv_iload_n hx hb dX3_open_7 rfl (lv_at hl 2 rfl) ?_
      refine lv_bipush (v := 32) hx hb dX3_open_8 (by decide) ?_
      refine lv_icmp_ge (tgt := 35) hx hb dX3_open_10 (by decide) (fun c_3 => ?_) (fun c_3 => ?_)
      · skip
        have c_3 : 32 ≤ zi := (nI_leI (a := 32) (b := zi) (by omega) (by omega)).mp c_3
        have hkn : ¬ kp = 0 := hik.resolve_left (by omega)
        obtain rfl : zi = 32 := by omega
        have hl : lv_has ls 3 [(0, .ref (g 0)), (1, .int zr), (2, .int (nI 32))] := hl
        have ec_4 : va_cpy KR R 0 0 32 = s_opn R KR kp := by unfold s_opn; first | rw [if_pos hk0] | rw [if_neg hkn]
        rw [show mW g cA N (nI (siz N)) (s_bak N D KD kp) (va_cpy KR R 0 0 32) F KD KR RW OU WO ST WK CA ln kp rd wr ft = mW g cA N (nI (siz N)) (s_bak N D KD kp) (s_opn R KR kp) F KD KR RW OU WO ST WK CA ln kp rd wr ft from by rw [← ec_4]] at hP hD
        refine lv_iload_n hx hb dX3_open_35 rfl (lv_at hl 1 rfl) ?_
        exact hret _ () _ _ _ _ dX3_open_36 hP hD hS ezr
      · skip
        have c_3 : ¬ 32 ≤ zi := fun z => c_3 ((nI_leI (a := 32) (b := zi) (by omega) (by omega)).mpr z)
        refine lv_iload_n hx hb dX3_open_13 rfl (lv_at hl 1 rfl) ?_
        refine lv_if_lt (tgt := 35) hx hb dX3_open_14 (by decide) (fun c_5 => ?_) (fun c_5 => ?_)
        · skip
          have hk0 : kp = 0 := bak_neg hN (by rw [← ezr]; exact c_5)
          obtain rfl : zi = 0 := hik.resolve_right (fun h => h hk0)
          have hl : lv_has ls 3 [(0, .ref (g 0)), (1, .int zr), (2, .int (nI 0))] := hl
          have ec_6 : va_cpy KR R 0 0 0 = R := cpy_0 KR R 0 0
          rw [show mW g cA N (nI (siz N)) (s_bak N D KD kp) (va_cpy KR R 0 0 0) F KD KR RW OU WO ST WK CA ln kp rd wr ft = mW g cA N (nI (siz N)) (s_bak N D KD kp) R F KD KR RW OU WO ST WK CA ln kp rd wr ft from by rw [ec_6]] at hP hD
          have ec_7 : R = s_opn R KR kp := by unfold s_opn; first | rw [if_pos hk0] | rw [if_neg hkn]
          rw [show mW g cA N (nI (siz N)) (s_bak N D KD kp) R F KD KR RW OU WO ST WK CA ln kp rd wr ft = mW g cA N (nI (siz N)) (s_bak N D KD kp) (s_opn R KR kp) F KD KR RW OU WO ST WK CA ln kp rd wr ft from by rw [← ec_7]] at hP hD
          refine lv_iload_n hx hb dX3_open_35 rfl (lv_at hl 1 rfl) ?_
          exact hret _ () _ _ _ _ dX3_open_36 hP hD hS ezr
        · skip
          have hkn : ¬ kp = 0 := bak_pos (by rw [← ezr]; exact c_5)
          refine lv_aload_n hx hb dX3_open_17 rfl (lv_at hl 0 rfl) ?_
          refine va_get (D := G) (ci := 3) (v := .ref (g 4)) (C := RX3) (T := TX3) (N := 20) hx hb hts hinX3 hown hK hP 0 rfl rfl 5 (by decide) (hts (.fieldLink RX3 91 "SealedPagesModel" "root" "[I") (by decide +kernel)) (fun _ h => h) rfl dX3_open_18 ?_
          refine lv_iload_n hx hb dX3_open_21 rfl (lv_at hl 2 rfl) ?_
          refine lv_aload_n hx hb dX3_open_22 rfl (lv_at hl 0 rfl) ?_
          refine va_get (D := G) (ci := 3) (v := .ref (g 7)) (C := RX3) (T := TX3) (N := 20) hx hb hts hinX3 hown hK hP 0 rfl rfl 8 (by decide) (hts (.fieldLink RX3 100 "SealedPagesModel" "keptRoot" "[I") (by decide +kernel)) (fun _ h => h) rfl dX3_open_23 ?_
          refine lv_iload_n hx hb dX3_open_26 rfl (lv_at hl 2 rfl) ?_
          refine x_ald (i := zi) hx hb hK hP 7 0 rfl rfl (by omega) (by decide) dX3_open_27 ?_
          refine x_ast (i := zi) hx hb hK hP hD hS 4 0 rfl rfl (by omega) (by decide) dX3_open_28 (fun H locs hP hD hS => ?_)
          have hP : va_P G vwCl (mW g cA N (nI (siz N)) (s_bak N D KD kp) (upd (va_cpy KR R 0 0 zi) zi (KR zi)) F KD KR RW OU WO ST WK CA ln kp rd wr ft) _ := hP
          have hD : va_D _ (mW g cA N (nI (siz N)) (s_bak N D KD kp) (upd (va_cpy KR R 0 0 zi) zi (KR zi)) F KD KR RW OU WO ST WK CA ln kp rd wr ft) := hD
          have ec_8 : upd (va_cpy KR R 0 0 zi) zi (KR zi) = va_cpy KR R 0 0 (zi + 1) := by have h := cpy_s KR R 0 0 zi; rwa [Nat.zero_add] at h
          rw [show mW g cA N (nI (siz N)) (s_bak N D KD kp) (upd (va_cpy KR R 0 0 zi) zi (KR zi)) F KD KR RW OU WO ST WK CA ln kp rd wr ft = mW g cA N (nI (siz N)) (s_bak N D KD kp) (va_cpy KR R 0 0 (zi + 1)) F KD KR RW OU WO ST WK CA ln kp rd wr ft from by rw [← ec_8]] at hP hD
          refine lv_iinc (v := nI (zi + 1)) (lv' := [(2, .int (nI (zi + 1))), (0, .ref (g 0)), (1, .int zr)]) hx hb dX3_open_29 hl (k := 2) rfl (nI_1 _) (by decide) rfl (fun ls hl => ?_)
          refine lv_goto (tgt := 7) hx hb dX3_open_32 (by decide) ?_
          exact ih_7 (zi + 1) (by omega) (by omega) (Or.inr hkn) _ _ _ hP hD hS (lv_sub hl [1, 2, 0] rfl)
  rw [← cpy_0 KR R 0 0] at hP hD
  exact loop_7 _ 0 (Nat.lt_succ_self _) (by omega) (Or.inl rfl) _ _ _ hP hD hS (lv_sub hl [2, 1, 0] rfl)

set_option maxHeartbeats 4000000 in
set_option maxRecDepth 100000 in
theorem c_X3_hash (l : Launch) (G : va_G) (cA : ClassId) (tF tC : Nat) (g : Nat → Nat) (sz N : Nat) (hN : 1 ≤ N ∧ N ≤ 64) (D R F KD KR RW OU WO ST WK CA : Nat → Int32) (ln kp rd wr ft : Int32) (x y : Int32) : CI l yX3_hash wsX3_hash 4 97 G cA tF tC g 14 sz (mW g cA N (nI (siz N)) D R F KD KR RW OU WO ST WK CA ln kp rd wr ft) [.ref (g 0), .int x, .int y] (fun (u : (Nat → Int32) × (Nat → Int32) × (Nat → Int32) × (Nat → Int32) × (Nat → Int32) × Int32) => mW g cA N (nI (siz N)) D R F KD KR u.1 u.2.1 u.2.2.1 u.2.2.2.1 u.2.2.2.2.1 CA u.2.2.2.2.2 kp rd wr ft) (fun r _ => r = a_hsh F x y) := by
  refine x_entryI (cc := cX3_hash) (maxL := 4) (by decide) rfl (fun _ => rfl) (Nat.le_of_ble_eq_true rfl) ?_
  intro p e s m args below meth c Q hx hb hml hown hts hK hP hD hS hT hret ls hl
  have hown : s.vm.findClass RX3 = some m.cls := hown
  have hl : lv_has ls 4 [(0, .ref (g 0)), (1, .int x), (2, .int y)] := hl
  have hinX3 : ∀ w ∈ wsX30, w ∈ wsX3_hash := by decide +kernel
  have hz := siz_le hN
  have hse := siz_eq N
  have hnd := nds_le hN
  have hlv := lvs_in hN
  refine lv_iload_n hx hb dX3_hash_0 rfl (lv_at hl 1 rfl) ?_
  refine lv_if_lt (tgt := 20) hx hb dX3_hash_1 (by decide) (fun c_1 => ?_) (fun c_1 => ?_)
  · skip
    have hc : -1 = a_hsh F x y := by unfold a_hsh; rw [if_pos (inB_f1 c_1)]
    refine lv_iconst (v := (-1)) hx hb dX3_hash_20 (by decide) ?_
    exact hret _ (RW, OU, WO, ST, WK, ln) _ _ _ _ dX3_hash_21 hP hD hS hc
  · skip
    have hx0 := c_1
    refine lv_iload_n hx hb dX3_hash_4 rfl (lv_at hl 1 rfl) ?_
    refine lv_bipush (v := 64) hx hb dX3_hash_5 (by decide) ?_
    refine lv_icmp_gt (tgt := 20) hx hb dX3_hash_7 (by decide) (fun c_2 => ?_) (fun c_2 => ?_)
    · skip
      have hc : -1 = a_hsh F x y := by unfold a_hsh; rw [if_pos (inB_f2 (by decide) (fa_65 c_2))]
      refine lv_iconst (v := (-1)) hx hb dX3_hash_20 (by decide) ?_
      exact hret _ (RW, OU, WO, ST, WK, ln) _ _ _ _ dX3_hash_21 hP hD hS hc
    · skip
      have hxn : ¬ inB x 65 = 0 := by rw [inB_t (by decide) hx0 (fun h => c_2 (fa_66 h))]; decide
      refine lv_iload_n hx hb dX3_hash_10 rfl (lv_at hl 2 rfl) ?_
      refine lv_if_lt (tgt := 20) hx hb dX3_hash_11 (by decide) (fun c_3 => ?_) (fun c_3 => ?_)
      · skip
        have hc : -1 = a_hsh F x y := by unfold a_hsh; rw [if_neg hxn, if_pos (inB_f1 c_3)]
        refine lv_iconst (v := (-1)) hx hb dX3_hash_20 (by decide) ?_
        exact hret _ (RW, OU, WO, ST, WK, ln) _ _ _ _ dX3_hash_21 hP hD hS hc
      · skip
        have hy0 := c_3
        refine lv_iload_n hx hb dX3_hash_14 rfl (lv_at hl 2 rfl) ?_
        refine lv_bipush (v := 31) hx hb dX3_hash_15 (by decide) ?_
        refine lv_icmp_le (tgt := 22) hx hb dX3_hash_17 (by decide) (fun c_4 => ?_) (fun c_4 => ?_)
        · skip
          have hyn : ¬ inB y 32 = 0 := inB_a (n := 31) (by decide) hy0 c_4
          obtain ⟨zi, hi, rfl⟩ := inB_1 (by decide) hyn
          obtain ⟨zn, hn, rfl⟩ := inB_1 (by decide) hxn
          obtain ⟨zf, ef⟩ : ∃ z, z = pad F zn := ⟨_, rfl⟩
          have hl : lv_has ls 4 [(0, .ref (g 0)), (1, .int (nI zn)), (2, .int (nI zi))] := hl
          refine lv_aload_n hx hb dX3_hash_22 rfl (lv_at hl 0 rfl) ?_
          refine lv_iconst (v := 0) hx hb dX3_hash_23 (by decide) ?_
          refine va_put (D := G) (ci := 3) (v := .int 0) (ty := .int) (C := RX3) (T := TX3) (N := 20) hx hb hts hinX3 tyX3 tyX3_ok nmX3 hown hK hP hD hS 0 rfl rfl 14 (by decide) (hts (.fieldLink RX3 139 "SealedPagesModel" "length" "I") (by decide +kernel)) (fun _ h => h) rfl (by decide +kernel) rfl rfl (Nat.le_of_ble_eq_true rfl) dX3_hash_24 (fun H locs hP hD hS => ?_)
          have hP : va_P G vwCl (mW g cA N (nI (siz N)) D R F KD KR RW OU WO ST WK CA 0 kp rd wr ft) _ := hP
          have hD : va_D _ (mW g cA N (nI (siz N)) D R F KD KR RW OU WO ST WK CA 0 kp rd wr ft) := hD
          have hP : va_P G vwCl (mW g cA N (nI (siz N)) D R F KD KR RW OU WO ST WK CA (nI 0) kp rd wr ft) _ := hP
          have hD : va_D _ (mW g cA N (nI (siz N)) D R F KD KR RW OU WO ST WK CA (nI 0) kp rd wr ft) := hD
          refine lv_iconst (v := 0) hx hb dX3_hash_27 (by decide) ?_
          refine lv_istore_n (lv' := [(3, .int 0), (0, .ref (g 0)), (1, .int (nI zn)), (2, .int (nI zi))]) hx hb dX3_hash_28 rfl hl (by decide) rfl (fun ls hl => ?_)
          have loop_29 : ∀ (n_29 : Nat) (q : Nat) (RWq : Nat → Int32), (zn - q) < n_29 → (q ≤ zn) → (Mrow zf RWq q) → ∀ (H : Heap) (locs : List Loc) (ls : Array Slot), va_P G vwCl (mW g cA N (nI (siz N)) D R F KD KR RWq OU WO ST WK CA (nI q) kp rd wr ft) H → va_D (wA g 14 s.heap.size) (mW g cA N (nI (siz N)) D R F KD KR RWq OU WO ST WK CA (nI q) kp rd wr ft) → va_S (wA g 14 s.heap.size) s.heap H locs → lv_has ls 4 [(0, .ref (g 0)), (1, .int (nI zn)), (2, .int (nI zi)), (3, .int (nI q))] → W p l e { frames := 4, cells := 0, slots := 0, locals := 97 } s m args below meth c H locs 0 0 Q (F0 m 29 ls []) := by
            intro n_29
            induction n_29 with
            | zero => intro q RWq hm_29; exact absurd hm_29 (Nat.not_lt_zero _)
            | succ n_29 ih_29 =>
              intro q RWq hm_29 hq hro H locs ls hP hD hS hl
              refine lv_iload_n hx hb dX3_hash_29 rfl (lv_at hl 3 rfl) ?_
              refine lv_iload_n hx hb dX3_hash_30 rfl (lv_at hl 1 rfl) ?_
              refine lv_icmp_ge (tgt := 50) hx hb dX3_hash_31 (by decide) (fun c_5 => ?_) (fun c_5 => ?_)
              · skip
                have c_5 : zn ≤ q := (nI_leI (a := zn) (b := q) (by omega) (by omega)).mp c_5
                obtain rfl : zn = q := by omega
                have hl : lv_has ls 4 [(0, .ref (g 0)), (1, .int (nI zn)), (2, .int (nI zi)), (3, .int (nI zn))] := hl
                refine lv_aload_n hx hb dX3_hash_50 rfl (lv_at hl 0 rfl) ?_
                refine x_vv ⟨hx, hb, hml, hown, hts⟩ (c_X3_hashRow l G cA tF tC g _ N hN (nI (siz N)) D R F KD KR RWq OU WO ST WK CA kp rd wr ft zn F (by rw [← ef]; exact hro) (by omega)) (cwV 0 hts gX3_hash_X3_hashRow rfl rfl rfl (by decide +kernel) ⟨Nat.le_of_ble_eq_true rfl, Nat.le_of_ble_eq_true rfl⟩) hK hP hD hS hT rfl 0 3 rfl rfl rfl hl.1 rfl (Nat.le_of_ble_eq_true rfl) dX3_hash_51 ⟨Nat.le_refl _, Nat.le_refl _⟩ (fun u H locs hs6 hP hD hS => ?_)
                obtain ⟨RW6, OU6, WO6, ST6, WK6, ln6⟩ := u
                have hP : va_P G vwCl (mW g cA N (nI (siz N)) D R F KD KR RW6 OU6 WO6 ST6 WK6 CA ln6 kp rd wr ft) _ := hP
                have hD : va_D _ (mW g cA N (nI (siz N)) D R F KD KR RW6 OU6 WO6 ST6 WK6 CA ln6 kp rd wr ft) := hD
                refine lv_aload_n hx hb dX3_hash_54 rfl (lv_at hl 0 rfl) ?_
                refine va_get (D := G) (ci := 3) (v := .ref (g 9)) (C := RX3) (T := TX3) (N := 20) hx hb hts hinX3 hown hK hP 0 rfl rfl 15 (by decide) (hts (.fieldLink RX3 106 "SealedPagesModel" "out" "[I") (by decide +kernel)) (fun _ h => h) rfl dX3_hash_55 ?_
                refine lv_iload_n hx hb dX3_hash_58 rfl (lv_at hl 2 rfl) ?_
                refine x_ald (i := zi) hx hb hK hP 9 0 rfl rfl (by omega) (by decide) dX3_hash_59 ?_
                have hc : OU6 zi = a_hsh F (nI zn) (nI zi) := by unfold a_hsh; rw [if_neg (inB_nz hn (by decide)), if_neg (inB_nz hi (by decide)), nI_clamp (by omega), nI_clamp (by omega)]; exact hs6 zi hi
                exact hret _ (RW6, OU6, WO6, ST6, WK6, ln6) _ _ _ _ dX3_hash_60 hP hD hS hc
              · skip
                have c_5 : ¬ zn ≤ q := fun z => c_5 ((nI_leI (a := zn) (b := q) (by omega) (by omega)).mpr z)
                refine lv_aload_n hx hb dX3_hash_34 rfl (lv_at hl 0 rfl) ?_
                refine lv_aload_n hx hb dX3_hash_35 rfl (lv_at hl 0 rfl) ?_
                refine va_get (D := G) (ci := 3) (v := .ref (g 5)) (C := RX3) (T := TX3) (N := 20) hx hb hts hinX3 hown hK hP 0 rfl rfl 6 (by decide) (hts (.fieldLink RX3 94 "SealedPagesModel" "draft" "[I") (by decide +kernel)) (fun _ h => h) rfl dX3_hash_36 ?_
                refine lv_iload_n hx hb dX3_hash_39 rfl (lv_at hl 3 rfl) ?_
                refine x_ald (i := q) hx hb hK hP 5 0 rfl rfl (by omega) (by decide) dX3_hash_40 ?_
                refine x_vv ⟨hx, hb, hml, hown, hts⟩ (c_X3_add l G cA tF tC g _ N hN (nI (siz N)) D R F KD KR RWq OU WO ST WK CA kp rd wr ft (q) zf (F q) hro (by rw [ef, pad_in _ (by omega)]) (by omega)) (cwV 1 hts gX3_hash_X3_add rfl rfl rfl (by decide +kernel) ⟨Nat.le_of_ble_eq_true rfl, Nat.le_of_ble_eq_true rfl⟩) hK hP hD hS hT rfl 0 3 rfl rfl rfl hl.1 rfl (Nat.le_of_ble_eq_true rfl) dX3_hash_41 ⟨Nat.le_refl _, Nat.le_refl _⟩ (fun u H locs hro3 hP hD hS => ?_)
                obtain ⟨RW3, rfl⟩ : ∃ z, z = u := ⟨_, rfl⟩
                have hP : va_P G vwCl (mW g cA N (nI (siz N)) D R F KD KR RW3 OU WO ST WK CA (nI (q + 1)) kp rd wr ft) _ := hP
                have hD : va_D _ (mW g cA N (nI (siz N)) D R F KD KR RW3 OU WO ST WK CA (nI (q + 1)) kp rd wr ft) := hD
                refine lv_iinc (v := nI (q + 1)) (lv' := [(3, .int (nI (q + 1))), (0, .ref (g 0)), (1, .int (nI zn)), (2, .int (nI zi))]) hx hb dX3_hash_44 hl (k := 3) rfl (nI_1 _) (by decide) rfl (fun ls hl => ?_)
                refine lv_goto (tgt := 29) hx hb dX3_hash_47 (by decide) ?_
                exact ih_29 (q + 1) RW3 (by omega) (by omega) hro3 _ _ _ hP hD hS (lv_sub hl [1, 2, 3, 0] rfl)
          exact loop_29 _ 0 RW (Nat.lt_succ_self _) (by omega) (Mrow_0 zf RW) _ _ _ hP hD hS (lv_sub hl [1, 2, 3, 0] rfl)
        · skip
          have hc : -1 = a_hsh F x y := by unfold a_hsh; rw [if_neg hxn, if_pos (inB_b (n := 31) (by decide) c_4)]
          refine lv_iconst (v := (-1)) hx hb dX3_hash_20 (by decide) ?_
          exact hret _ (RW, OU, WO, ST, WK, ln) _ _ _ _ dX3_hash_21 hP hD hS hc

set_option maxHeartbeats 4000000 in
set_option maxRecDepth 100000 in
theorem c_X3_told (l : Launch) (G : va_G) (cA : ClassId) (tF tC : Nat) (g : Nat → Nat) (sz N : Nat) (hN : 1 ≤ N ∧ N ≤ 64) (D R F KD KR RW OU WO ST WK CA : Nat → Int32) (ln kp rd wr ft : Int32) (x : Int32) : CI l yX3_told wsX3_told 0 0 G cA tF tC g 14 sz (mW g cA N (nI (siz N)) D R F KD KR RW OU WO ST WK CA ln kp rd wr ft) [.ref (g 0), .int x] (fun (u : Unit) => mW g cA N (nI (siz N)) D R F KD KR RW OU WO ST WK CA ln kp rd wr ft) (fun r _ => r = a_told N rd wr ft x) := by
  refine x_entryI (cc := cX3_told) (maxL := 2) (by decide) rfl (fun _ => rfl) (Nat.le_of_ble_eq_true rfl) ?_
  intro p e s m args below meth c Q hx hb hml hown hts hK hP hD hS hT hret ls hl
  have hown : s.vm.findClass RX3 = some m.cls := hown
  have hl : lv_has ls 2 [(0, .ref (g 0)), (1, .int x)] := hl
  have hinX3 : ∀ w ∈ wsX30, w ∈ wsX3_told := by decide +kernel
  refine lv_iload_n hx hb dX3_told_0 rfl (lv_at hl 1 rfl) ?_
  rcases (show x = 0 ∨ x = 1 ∨ x = 2 ∨ x = 3 ∨ (¬ x = 0 ∧ ¬ x = 1 ∧ ¬ x = 2 ∧ ¬ x = 3) from Classical.byCases Or.inl (fun h0 => Or.inr (Classical.byCases Or.inl (fun h1 => Or.inr (Classical.byCases Or.inl (fun h2 => Or.inr (Classical.byCases Or.inl (fun h3 => Or.inr ⟨h0, h1, h2, h3⟩)))))))) with h4 | h4 | h4 | h4 | h4
  · skip
    subst h4
    refine lv_tableIn (off := 31) (tgt := 32) hx hb dX3_told_1 (by decide) (by decide) (by decide) (by decide) ?_
    refine lv_aload_n hx hb dX3_told_32 rfl (lv_at hl 0 rfl) ?_
    refine va_get (D := G) (ci := 3) (v := .int (nI N)) (C := RX3) (T := TX3) (N := 20) hx hb hts hinX3 hown hK hP 0 rfl rfl 2 (by decide) (hts (.fieldLink RX3 121 "SealedPagesModel" "pages" "I") (by decide +kernel)) (fun _ h => h) rfl dX3_told_33 ?_
    exact hret _ () _ _ _ _ dX3_told_36 hP hD hS rfl
  · skip
    subst h4
    refine lv_tableIn (off := 36) (tgt := 37) hx hb dX3_told_1 (by decide) (by decide) (by decide) (by decide) ?_
    refine lv_aload_n hx hb dX3_told_37 rfl (lv_at hl 0 rfl) ?_
    refine va_get (D := G) (ci := 3) (v := .int rd) (C := RX3) (T := TX3) (N := 20) hx hb hts hinX3 hown hK hP 0 rfl rfl 10 (by decide) (hts (.fieldLink RX3 189 "SealedPagesModel" "reads" "I") (by decide +kernel)) (fun _ h => h) rfl dX3_told_38 ?_
    exact hret _ () _ _ _ _ dX3_told_41 hP hD hS rfl
  · skip
    subst h4
    refine lv_tableIn (off := 41) (tgt := 42) hx hb dX3_told_1 (by decide) (by decide) (by decide) (by decide) ?_
    refine lv_aload_n hx hb dX3_told_42 rfl (lv_at hl 0 rfl) ?_
    refine va_get (D := G) (ci := 3) (v := .int wr) (C := RX3) (T := TX3) (N := 20) hx hb hts hinX3 hown hK hP 0 rfl rfl 11 (by decide) (hts (.fieldLink RX3 198 "SealedPagesModel" "writes" "I") (by decide +kernel)) (fun _ h => h) rfl dX3_told_43 ?_
    exact hret _ () _ _ _ _ dX3_told_46 hP hD hS rfl
  · skip
    subst h4
    refine lv_tableIn (off := 46) (tgt := 47) hx hb dX3_told_1 (by decide) (by decide) (by decide) (by decide) ?_
    refine lv_aload_n hx hb dX3_told_47 rfl (lv_at hl 0 rfl) ?_
    refine va_get (D := G) (ci := 3) (v := .int ft) (C := RX3) (T := TX3) (N := 20) hx hb hts hinX3 hown hK hP 0 rfl rfl 12 (by decide) (hts (.fieldLink RX3 186 "SealedPagesModel" "faults" "I") (by decide +kernel)) (fun _ h => h) rfl dX3_told_48 ?_
    exact hret _ () _ _ _ _ dX3_told_51 hP hD hS rfl
  · skip
    have h5 : x.toInt < 0 ∨ 3 < x.toInt := sw_out h4.1 h4.2.1 h4.2.2.1 h4.2.2.2
    refine lv_tableOut (tgt := 52) hx hb dX3_told_1 h5 (by decide) ?_
    refine lv_iconst (v := (-1)) hx hb dX3_told_52 (by decide) ?_
    exact hret _ () _ _ _ _ dX3_told_53 hP hD hS (by unfold a_told; rw [if_neg h4.1, if_neg h4.2.1, if_neg h4.2.2.1, if_neg h4.2.2.2])
