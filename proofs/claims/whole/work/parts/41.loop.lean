set_option maxHeartbeats 40000000 in
set_option maxRecDepth 100000 in
/-- THE LAW'S LOOP: at its head both objects hold one mathematical state -/
theorem law_loop {p : Program} {l : Launch} {e : Env} {s : State} {m : MethodId} {below : List Frame} {meth : Method} {c : Code} {G : va_G} {cA : ClassId} {tF tC : Nat} {b L : Nat} {xs : Nat → Int32} {gx gm : Nat → Nat} {N : Nat} (hN : 1 ≤ N ∧ N ≤ 64) (hL : L ≤ 2049) (C0 : lw_At p s m meth c b L xs) (hK : va_K G vwCl [(cA, .int)] s) (hT : xT tF tC (fun q : Nat => s.heap.size ≤ q) s s.heap) (hdj : ∀ i j, i < 13 → j < 14 → gx i ≠ gm j) (hgx : ∀ i, i < 13 → s.heap.size ≤ gx i) (hgm : ∀ i, i < 14 → s.heap.size ≤ gm i) :
    ∀ (n_28 i : Nat) (D R F KD KR FL SU WO RW OU WM ST WK CA : Nat → Int32) (ln kp rd wr ft lm : Int32), L + 4 - i < n_28 → i ≤ L + 4 → ∀ (H : Heap) (locs : List Loc) (ls : Array Slot), va_P G vwCl (xW gx cA N D R F KD KR FL SU WO ln kp rd wr ft) H → va_D (gA gx 13) (xW gx cA N D R F KD KR FL SU WO ln kp rd wr ft) → va_P G vwCl (mW gm cA N (nI (siz N)) D R F KD KR RW OU WM ST WK CA lm kp rd wr ft) H → va_D (gA gm 14) (mW gm cA N (nI (siz N)) D R F KD KR RW OU WM ST WK CA lm kp rd wr ft) → va_S (fun q : Nat => s.heap.size ≤ q) s.heap H locs → lv_has ls 4 [(0, .ref b), (1, .ref (gx 0)), (2, .ref (gm 0)), (3, .int (nI i))] → W p l e room_1 s m #[Value.ref b] below meth c H locs 27 41950 (lw_Z below #[Value.ref b] s) (F0 m 28 ls []) := by
  obtain ⟨hx, hb, hr, hml, hown, hts, hX, hbl, hlocks, hgv⟩ := id C0
  have hown : s.vm.findClass RL = some m.cls := hown
  have hts2 : ∀ w ∈ wsL_law, w.before #[Value.ref b] s = true := fun w h => hts w (wsL_law_in w h)
  have hbA : ¬ (fun q : Nat => s.heap.size ≤ q) b := Nat.not_le.mpr hbl
  have hdj2 : ∀ i j, i < 14 → j < 13 → gm i ≠ gx j := fun i j hi hj h => hdj j i hj hi h.symm
  intro n_28
  induction n_28 with
  | zero => intro i D R F KD KR FL SU WO RW OU WM ST WK CA ln kp rd wr ft lm hm_28; exact absurd hm_28 (Nat.not_lt_zero _)
  | succ n_28 ih_28 =>
    intro i D R F KD KR FL SU WO RW OU WM ST WK CA ln kp rd wr ft lm hm_28 hi H locs ls hP hD hPm hDm hS hl
    refine lv_iload_n hx hb dL_law_28 rfl (lv_at hl 3 rfl) ?_
    refine lv_aload_n hx hb dL_law_29 rfl (lv_at hl 0 rfl) ?_
    refine va_slen hx hb hX hbl hbA hS dL_law_30 ?_
    refine x_eqi (y := nI L) rfl ?_
    refine lv_iconst (v := 4) hx hb dL_law_31 (by decide) ?_
    refine lv_isub hx hb dL_law_32 ?_
    refine lv_icmp_gt (tgt := 723) hx hb dL_law_33 (by decide) (fun _ => ?_) (fun c_33 => ?_)
    · skip
      refine lv_iconst (v := 1) hx hb dL_law_723 (by decide) ?_
      refine va_forget (fun q hq => hS.2.2 q hq) ?_
      refine W.widen (k := 600000) (n := 7302250) (by decide) (by decide) ?_
      exact lw_ret hx hb hr hlocks dL_law_724
    · skip
      have hi4 : i + 4 ≤ L := law_in hL (by omega) c_33
      refine lv_aload_n hx hb dL_law_36 rfl (lv_at hl 0 rfl) ?_
      refine lv_iload_n hx hb dL_law_37 rfl (lv_at hl 3 rfl) ?_
      refine l_sld (i := i) hx hb hX hbl hbA hS (by omega) (by omega) dL_law_38 ?_
      refine lv_bipush (v := 31) hx hb dL_law_39 (by decide) ?_
      refine lv_iand hx hb dL_law_41 ?_
      obtain ⟨zj, hj, ej⟩ := pk_andE (xs i) (m := 31) 5 (by decide)
      refine x_eqi ej ?_
      rcases (show zj = 0 ∨ zj = 1 ∨ zj = 2 ∨ zj = 3 ∨ zj = 4 ∨ zj = 5 ∨ zj = 6 ∨ zj = 7 ∨ zj = 8 ∨ zj = 9 ∨ zj = 10 ∨ zj = 11 ∨ zj = 12 ∨ zj = 13 ∨ zj = 14 ∨ zj = 15 ∨ zj = 16 ∨ zj = 17 ∨ zj = 18 ∨ zj = 19 ∨ zj = 20 ∨ zj = 21 ∨ zj = 22 ∨ 23 ≤ zj by omega) with h4 | h4 | h4 | h4 | h4 | h4 | h4 | h4 | h4 | h4 | h4 | h4 | h4 | h4 | h4 | h4 | h4 | h4 | h4 | h4 | h4 | h4 | h4 | h4
      · skip
        subst h4
        refine lv_tableIn (off := 106) (tgt := 148) hx hb dL_law_42 (by decide) (by decide) (by decide) (by decide) ?_
        refine lv_aload_n hx hb dL_law_148 rfl (lv_at hl 1 rfl) ?_
        refine lv_aload_n hx hb dL_law_149 rfl (lv_at hl 0 rfl) ?_
        refine lv_iload_n hx hb dL_law_150 rfl (lv_at hl 3 rfl) ?_
        refine lv_iconst (v := 1) hx hb dL_law_151 (by decide) ?_
        refine lv_iadd hx hb dL_law_152 ?_
        refine x_eqi (y := nI (i + 1)) (nI_add i 1) ?_
        refine l_sld (i := i + 1) hx hb hX hbl hbA hS (by omega) (by omega) dL_law_153 ?_
        refine lv_aload_n hx hb dL_law_154 rfl (lv_at hl 0 rfl) ?_
        refine lv_iload_n hx hb dL_law_155 rfl (lv_at hl 3 rfl) ?_
        refine lv_iconst (v := 2) hx hb dL_law_156 (by decide) ?_
        refine lv_iadd hx hb dL_law_157 ?_
        refine x_eqi (y := nI (i + 2)) (nI_add i 2) ?_
        refine l_sld (i := i + 2) hx hb hX hbl hbA hS (by omega) (by omega) dL_law_158 ?_
        refine l_vi (w' := mW gm cA N (nI (siz N)) D R F KD KR RW OU WM ST WK CA lm kp rd wr ft) (g' := gm) (n' := 14) ⟨hx, hb, hml, hown, hts2⟩ (c_X2_put l G cA tF tC gx _ N hN D R F KD KR FL SU WO ln kp rd wr ft (xs (i + 1)) (xs (i + 2))) (cwV 2 hts2 gL_law_X2_put rfl rfl rfl (by decide +kernel) ⟨Nat.le_of_ble_eq_true rfl, Nat.le_of_ble_eq_true rfl⟩) hK hP hD hPm hDm hdj hgx hS hT 0 2 rfl rfl rfl hl.1 rfl (Nat.le_of_ble_eq_true rfl) dL_law_159 ⟨Nat.le_of_ble_eq_true rfl, Nat.le_of_ble_eq_true rfl⟩ (fun r_1 u H locs hp hP hD hPm hS => ?_)
        have hP : va_P G vwCl (xW gx cA N D R (s_put F (xs (i + 1)) (xs (i + 2))) KD KR FL SU WO ln kp rd wr ft) H := hP
        have hD : va_D (gA gx 13) (xW gx cA N D R (s_put F (xs (i + 1)) (xs (i + 2))) KD KR FL SU WO ln kp rd wr ft) := hD
        have hPm : va_P G vwCl (mW gm cA N (nI (siz N)) D R F KD KR RW OU WM ST WK CA lm kp rd wr ft) H := hPm
        have hDm : va_D (gA gm 14) (mW gm cA N (nI (siz N)) D R F KD KR RW OU WM ST WK CA lm kp rd wr ft) := hDm
        have hp : r_1 = a_at F 64 (xs (i + 1)) := hp
        subst hp
        refine lv_aload_n hx hb dL_law_162 rfl (lv_at hl 2 rfl) ?_
        refine lv_aload_n hx hb dL_law_163 rfl (lv_at hl 0 rfl) ?_
        refine lv_iload_n hx hb dL_law_164 rfl (lv_at hl 3 rfl) ?_
        refine lv_iconst (v := 1) hx hb dL_law_165 (by decide) ?_
        refine lv_iadd hx hb dL_law_166 ?_
        refine x_eqi (y := nI (i + 1)) (nI_add i 1) ?_
        refine l_sld (i := i + 1) hx hb hX hbl hbA hS (by omega) (by omega) dL_law_167 ?_
        refine lv_aload_n hx hb dL_law_168 rfl (lv_at hl 0 rfl) ?_
        refine lv_iload_n hx hb dL_law_169 rfl (lv_at hl 3 rfl) ?_
        refine lv_iconst (v := 2) hx hb dL_law_170 (by decide) ?_
        refine lv_iadd hx hb dL_law_171 ?_
        refine x_eqi (y := nI (i + 2)) (nI_add i 2) ?_
        refine l_sld (i := i + 2) hx hb hX hbl hbA hS (by omega) (by omega) dL_law_172 ?_
        refine l_vi (w' := xW gx cA N D R (s_put F (xs (i + 1)) (xs (i + 2))) KD KR FL SU WO ln kp rd wr ft) (g' := gx) (n' := 13) ⟨hx, hb, hml, hown, hts2⟩ (c_X3_put l G cA tF tC gm _ N hN D R F KD KR RW OU WM ST WK CA lm kp rd wr ft (xs (i + 1)) (xs (i + 2))) (cwV 2 hts2 gL_law_X3_put rfl rfl rfl (by decide +kernel) ⟨Nat.le_of_ble_eq_true rfl, Nat.le_of_ble_eq_true rfl⟩) hK hPm hDm hP hD hdj2 hgm hS hT 0 3 rfl rfl rfl hl.1 rfl (Nat.le_of_ble_eq_true rfl) dL_law_173 ⟨Nat.le_of_ble_eq_true rfl, Nat.le_of_ble_eq_true rfl⟩ (fun r_2 u H locs hp hPm hDm hP hS => ?_)
        have hP : va_P G vwCl (xW gx cA N D R (s_put F (xs (i + 1)) (xs (i + 2))) KD KR FL SU WO ln kp rd wr ft) H := hP
        have hD : va_D (gA gx 13) (xW gx cA N D R (s_put F (xs (i + 1)) (xs (i + 2))) KD KR FL SU WO ln kp rd wr ft) := hD
        have hPm : va_P G vwCl (mW gm cA N (nI (siz N)) D R (s_put F (xs (i + 1)) (xs (i + 2))) KD KR RW OU WM ST WK CA lm kp rd wr ft) H := hPm
        have hDm : va_D (gA gm 14) (mW gm cA N (nI (siz N)) D R (s_put F (xs (i + 1)) (xs (i + 2))) KD KR RW OU WM ST WK CA lm kp rd wr ft) := hDm
        have hp : r_2 = a_at F 64 (xs (i + 1)) := hp
        subst hp
        refine lv_icmp_eq (tgt := 717) hx hb dL_law_176 (by decide) (fun _ => ?_) (fun c_q => absurd rfl c_q)
        refine lv_iinc (v := nI (i + 4)) (lv' := [(3, .int (nI (i + 4))), (0, .ref b), (1, .ref (gx 0)), (2, .ref (gm 0))]) hx hb dL_law_717 hl (k := 3) rfl (nI_add _ 4) (by decide) rfl (fun ls hl => ?_)
        refine lv_goto (tgt := 28) hx hb dL_law_720 (by decide) ?_
        exact ih_28 (i + 4) D R (s_put F (xs (i + 1)) (xs (i + 2))) KD KR FL SU WO RW OU WM ST WK CA ln kp rd wr ft lm (by omega) (by omega) _ _ _ hP hD hPm hDm hS (lv_sub hl [1, 2, 3, 0] rfl)
      · skip
        subst h4
        refine lv_tableIn (off := 139) (tgt := 181) hx hb dL_law_42 (by decide) (by decide) (by decide) (by decide) ?_
        refine lv_aload_n hx hb dL_law_181 rfl (lv_at hl 1 rfl) ?_
        refine lv_aload_n hx hb dL_law_182 rfl (lv_at hl 0 rfl) ?_
        refine lv_iload_n hx hb dL_law_183 rfl (lv_at hl 3 rfl) ?_
        refine lv_iconst (v := 1) hx hb dL_law_184 (by decide) ?_
        refine lv_iadd hx hb dL_law_185 ?_
        refine x_eqi (y := nI (i + 1)) (nI_add i 1) ?_
        refine l_sld (i := i + 1) hx hb hX hbl hbA hS (by omega) (by omega) dL_law_186 ?_
        refine lv_aload_n hx hb dL_law_187 rfl (lv_at hl 0 rfl) ?_
        refine lv_iload_n hx hb dL_law_188 rfl (lv_at hl 3 rfl) ?_
        refine lv_iconst (v := 2) hx hb dL_law_189 (by decide) ?_
        refine lv_iadd hx hb dL_law_190 ?_
        refine x_eqi (y := nI (i + 2)) (nI_add i 2) ?_
        refine l_sld (i := i + 2) hx hb hX hbl hbA hS (by omega) (by omega) dL_law_191 ?_
        refine lv_i2l (v := (xs (i + 2)).toInt64) hx hb dL_law_192 rfl ?_
        refine lv_bipush (v := 32) hx hb dL_law_193 (by decide) ?_
        refine lv_lshl (v := lsl ((xs (i + 2)).toInt64) 32) hx hb dL_law_195 rfl ?_
        refine lv_aload_n hx hb dL_law_196 rfl (lv_at hl 0 rfl) ?_
        refine lv_iload_n hx hb dL_law_197 rfl (lv_at hl 3 rfl) ?_
        refine lv_iconst (v := 3) hx hb dL_law_198 (by decide) ?_
        refine lv_iadd hx hb dL_law_199 ?_
        refine x_eqi (y := nI (i + 3)) (nI_add i 3) ?_
        refine l_sld (i := i + 3) hx hb hX hbl hbA hS (by omega) (by omega) dL_law_200 ?_
        refine lv_i2l (v := (xs (i + 3)).toInt64) hx hb dL_law_201 rfl ?_
        refine lv_ldc2 (v := 4294967295) hx hb hown (hts (.constantLong RL 26 (4294967295)) (by decide +kernel)) dL_law_202 ?_
        refine lv_land hx hb dL_law_205 ?_
        refine lv_lor hx hb dL_law_206 ?_
        refine l_vi (w' := mW gm cA N (nI (siz N)) D R F KD KR RW OU WM ST WK CA lm kp rd wr ft) (g' := gm) (n' := 14) ⟨hx, hb, hml, hown, hts2⟩ (c_X2_fill l G cA tF tC gx _ N hN D R F KD KR FL SU WO ln kp rd wr ft (xs (i + 1)) ((lsl ((xs (i + 2)).toInt64) 32) ||| (((xs (i + 3)).toInt64) &&& 4294967295))) (cwV 2 hts2 gL_law_X2_fill rfl rfl rfl (by decide +kernel) ⟨Nat.le_of_ble_eq_true rfl, Nat.le_of_ble_eq_true rfl⟩) hK hP hD hPm hDm hdj hgx hS hT 0 2 rfl rfl rfl hl.1 rfl (Nat.le_of_ble_eq_true rfl) dL_law_207 ⟨Nat.le_of_ble_eq_true rfl, Nat.le_of_ble_eq_true rfl⟩ (fun r_3 u H locs hp hP hD hPm hS => ?_)
        have hP : va_P G vwCl (xW gx cA N D R (s_fill F (xs (i + 1)) ((lsl ((xs (i + 2)).toInt64) 32) ||| (((xs (i + 3)).toInt64) &&& 4294967295))) KD KR FL SU WO ln kp rd wr ft) H := hP
        have hD : va_D (gA gx 13) (xW gx cA N D R (s_fill F (xs (i + 1)) ((lsl ((xs (i + 2)).toInt64) 32) ||| (((xs (i + 3)).toInt64) &&& 4294967295))) KD KR FL SU WO ln kp rd wr ft) := hD
        have hPm : va_P G vwCl (mW gm cA N (nI (siz N)) D R F KD KR RW OU WM ST WK CA lm kp rd wr ft) H := hPm
        have hDm : va_D (gA gm 14) (mW gm cA N (nI (siz N)) D R F KD KR RW OU WM ST WK CA lm kp rd wr ft) := hDm
        have hp : r_3 = a_fill (xs (i + 1)) := hp
        subst hp
        refine lv_aload_n hx hb dL_law_210 rfl (lv_at hl 2 rfl) ?_
        refine lv_aload_n hx hb dL_law_211 rfl (lv_at hl 0 rfl) ?_
        refine lv_iload_n hx hb dL_law_212 rfl (lv_at hl 3 rfl) ?_
        refine lv_iconst (v := 1) hx hb dL_law_213 (by decide) ?_
        refine lv_iadd hx hb dL_law_214 ?_
        refine x_eqi (y := nI (i + 1)) (nI_add i 1) ?_
        refine l_sld (i := i + 1) hx hb hX hbl hbA hS (by omega) (by omega) dL_law_215 ?_
        refine lv_aload_n hx hb dL_law_216 rfl (lv_at hl 0 rfl) ?_
        refine lv_iload_n hx hb dL_law_217 rfl (lv_at hl 3 rfl) ?_
        refine lv_iconst (v := 2) hx hb dL_law_218 (by decide) ?_
        refine lv_iadd hx hb dL_law_219 ?_
        refine x_eqi (y := nI (i + 2)) (nI_add i 2) ?_
        refine l_sld (i := i + 2) hx hb hX hbl hbA hS (by omega) (by omega) dL_law_220 ?_
        refine lv_i2l (v := (xs (i + 2)).toInt64) hx hb dL_law_221 rfl ?_
        refine lv_bipush (v := 32) hx hb dL_law_222 (by decide) ?_
        refine lv_lshl (v := lsl ((xs (i + 2)).toInt64) 32) hx hb dL_law_224 rfl ?_
        refine lv_aload_n hx hb dL_law_225 rfl (lv_at hl 0 rfl) ?_
        refine lv_iload_n hx hb dL_law_226 rfl (lv_at hl 3 rfl) ?_
        refine lv_iconst (v := 3) hx hb dL_law_227 (by decide) ?_
        refine lv_iadd hx hb dL_law_228 ?_
        refine x_eqi (y := nI (i + 3)) (nI_add i 3) ?_
        refine l_sld (i := i + 3) hx hb hX hbl hbA hS (by omega) (by omega) dL_law_229 ?_
        refine lv_i2l (v := (xs (i + 3)).toInt64) hx hb dL_law_230 rfl ?_
        refine lv_ldc2 (v := 4294967295) hx hb hown (hts (.constantLong RL 26 (4294967295)) (by decide +kernel)) dL_law_231 ?_
        refine lv_land hx hb dL_law_234 ?_
        refine lv_lor hx hb dL_law_235 ?_
        refine l_vi (w' := xW gx cA N D R (s_fill F (xs (i + 1)) ((lsl ((xs (i + 2)).toInt64) 32) ||| (((xs (i + 3)).toInt64) &&& 4294967295))) KD KR FL SU WO ln kp rd wr ft) (g' := gx) (n' := 13) ⟨hx, hb, hml, hown, hts2⟩ (c_X3_fill l G cA tF tC gm _ N hN D R F KD KR RW OU WM ST WK CA lm kp rd wr ft (xs (i + 1)) ((lsl ((xs (i + 2)).toInt64) 32) ||| (((xs (i + 3)).toInt64) &&& 4294967295))) (cwV 2 hts2 gL_law_X3_fill rfl rfl rfl (by decide +kernel) ⟨Nat.le_of_ble_eq_true rfl, Nat.le_of_ble_eq_true rfl⟩) hK hPm hDm hP hD hdj2 hgm hS hT 0 3 rfl rfl rfl hl.1 rfl (Nat.le_of_ble_eq_true rfl) dL_law_236 ⟨Nat.le_of_ble_eq_true rfl, Nat.le_of_ble_eq_true rfl⟩ (fun r_4 u H locs hp hPm hDm hP hS => ?_)
        have hP : va_P G vwCl (xW gx cA N D R (s_fill F (xs (i + 1)) ((lsl ((xs (i + 2)).toInt64) 32) ||| (((xs (i + 3)).toInt64) &&& 4294967295))) KD KR FL SU WO ln kp rd wr ft) H := hP
        have hD : va_D (gA gx 13) (xW gx cA N D R (s_fill F (xs (i + 1)) ((lsl ((xs (i + 2)).toInt64) 32) ||| (((xs (i + 3)).toInt64) &&& 4294967295))) KD KR FL SU WO ln kp rd wr ft) := hD
        have hPm : va_P G vwCl (mW gm cA N (nI (siz N)) D R (s_fill F (xs (i + 1)) ((lsl ((xs (i + 2)).toInt64) 32) ||| (((xs (i + 3)).toInt64) &&& 4294967295))) KD KR RW OU WM ST WK CA lm kp rd wr ft) H := hPm
        have hDm : va_D (gA gm 14) (mW gm cA N (nI (siz N)) D R (s_fill F (xs (i + 1)) ((lsl ((xs (i + 2)).toInt64) 32) ||| (((xs (i + 3)).toInt64) &&& 4294967295))) KD KR RW OU WM ST WK CA lm kp rd wr ft) := hDm
        have hp : r_4 = a_fill (xs (i + 1)) := hp
        subst hp
        refine lv_icmp_eq (tgt := 717) hx hb dL_law_239 (by decide) (fun _ => ?_) (fun c_q => absurd rfl c_q)
        refine lv_iinc (v := nI (i + 4)) (lv' := [(3, .int (nI (i + 4))), (0, .ref b), (1, .ref (gx 0)), (2, .ref (gm 0))]) hx hb dL_law_717 hl (k := 3) rfl (nI_add _ 4) (by decide) rfl (fun ls hl => ?_)
        refine lv_goto (tgt := 28) hx hb dL_law_720 (by decide) ?_
        exact ih_28 (i + 4) D R (s_fill F (xs (i + 1)) ((lsl ((xs (i + 2)).toInt64) 32) ||| (((xs (i + 3)).toInt64) &&& 4294967295))) KD KR FL SU WO RW OU WM ST WK CA ln kp rd wr ft lm (by omega) (by omega) _ _ _ hP hD hPm hDm hS (lv_sub hl [1, 2, 3, 0] rfl)
      · skip
        subst h4
        refine lv_tableIn (off := 202) (tgt := 244) hx hb dL_law_42 (by decide) (by decide) (by decide) (by decide) ?_
        refine lv_aload_n hx hb dL_law_244 rfl (lv_at hl 1 rfl) ?_
        refine lv_aload_n hx hb dL_law_245 rfl (lv_at hl 0 rfl) ?_
        refine lv_iload_n hx hb dL_law_246 rfl (lv_at hl 3 rfl) ?_
        refine lv_iconst (v := 1) hx hb dL_law_247 (by decide) ?_
        refine lv_iadd hx hb dL_law_248 ?_
        refine x_eqi (y := nI (i + 1)) (nI_add i 1) ?_
        refine l_sld (i := i + 1) hx hb hX hbl hbA hS (by omega) (by omega) dL_law_249 ?_
        refine l_vi (w' := mW gm cA N (nI (siz N)) D R F KD KR RW OU WM ST WK CA lm kp rd wr ft) (g' := gm) (n' := 14) ⟨hx, hb, hml, hown, hts2⟩ (c_X2_draft l G cA tF tC gx _ N hN D R F KD KR FL SU WO ln kp rd wr ft (xs (i + 1))) (cwV 1 hts2 gL_law_X2_draft rfl rfl rfl (by decide +kernel) ⟨Nat.le_of_ble_eq_true rfl, Nat.le_of_ble_eq_true rfl⟩) hK hP hD hPm hDm hdj hgx hS hT 0 2 rfl rfl rfl hl.1 rfl (Nat.le_of_ble_eq_true rfl) dL_law_250 ⟨Nat.le_of_ble_eq_true rfl, Nat.le_of_ble_eq_true rfl⟩ (fun r_5 u H locs hp hP hD hPm hS => ?_)
        have hP : va_P G vwCl (xW gx cA N D R F KD KR FL SU WO ln kp rd wr ft) H := hP
        have hD : va_D (gA gx 13) (xW gx cA N D R F KD KR FL SU WO ln kp rd wr ft) := hD
        have hPm : va_P G vwCl (mW gm cA N (nI (siz N)) D R F KD KR RW OU WM ST WK CA lm kp rd wr ft) H := hPm
        have hDm : va_D (gA gm 14) (mW gm cA N (nI (siz N)) D R F KD KR RW OU WM ST WK CA lm kp rd wr ft) := hDm
        have hp : r_5 = a_at F 64 (xs (i + 1)) := hp
        subst hp
        refine lv_aload_n hx hb dL_law_253 rfl (lv_at hl 2 rfl) ?_
        refine lv_aload_n hx hb dL_law_254 rfl (lv_at hl 0 rfl) ?_
        refine lv_iload_n hx hb dL_law_255 rfl (lv_at hl 3 rfl) ?_
        refine lv_iconst (v := 1) hx hb dL_law_256 (by decide) ?_
        refine lv_iadd hx hb dL_law_257 ?_
        refine x_eqi (y := nI (i + 1)) (nI_add i 1) ?_
        refine l_sld (i := i + 1) hx hb hX hbl hbA hS (by omega) (by omega) dL_law_258 ?_
        refine l_vi (w' := xW gx cA N D R F KD KR FL SU WO ln kp rd wr ft) (g' := gx) (n' := 13) ⟨hx, hb, hml, hown, hts2⟩ (c_X3_draft l G cA tF tC gm _ N hN D R F KD KR RW OU WM ST WK CA lm kp rd wr ft (xs (i + 1))) (cwV 1 hts2 gL_law_X3_draft rfl rfl rfl (by decide +kernel) ⟨Nat.le_of_ble_eq_true rfl, Nat.le_of_ble_eq_true rfl⟩) hK hPm hDm hP hD hdj2 hgm hS hT 0 3 rfl rfl rfl hl.1 rfl (Nat.le_of_ble_eq_true rfl) dL_law_259 ⟨Nat.le_of_ble_eq_true rfl, Nat.le_of_ble_eq_true rfl⟩ (fun r_6 u H locs hp hPm hDm hP hS => ?_)
        have hP : va_P G vwCl (xW gx cA N D R F KD KR FL SU WO ln kp rd wr ft) H := hP
        have hD : va_D (gA gx 13) (xW gx cA N D R F KD KR FL SU WO ln kp rd wr ft) := hD
        have hPm : va_P G vwCl (mW gm cA N (nI (siz N)) D R F KD KR RW OU WM ST WK CA lm kp rd wr ft) H := hPm
        have hDm : va_D (gA gm 14) (mW gm cA N (nI (siz N)) D R F KD KR RW OU WM ST WK CA lm kp rd wr ft) := hDm
        have hp : r_6 = a_at F 64 (xs (i + 1)) := hp
        subst hp
        refine lv_icmp_eq (tgt := 717) hx hb dL_law_262 (by decide) (fun _ => ?_) (fun c_q => absurd rfl c_q)
        refine lv_iinc (v := nI (i + 4)) (lv' := [(3, .int (nI (i + 4))), (0, .ref b), (1, .ref (gx 0)), (2, .ref (gm 0))]) hx hb dL_law_717 hl (k := 3) rfl (nI_add _ 4) (by decide) rfl (fun ls hl => ?_)
        refine lv_goto (tgt := 28) hx hb dL_law_720 (by decide) ?_
        exact ih_28 (i + 4) D R F KD KR FL SU WO RW OU WM ST WK CA ln kp rd wr ft lm (by omega) (by omega) _ _ _ hP hD hPm hDm hS (lv_sub hl [1, 2, 3, 0] rfl)
      · skip
        subst h4
        refine lv_tableIn (off := 225) (tgt := 267) hx hb dL_law_42 (by decide) (by decide) (by decide) (by decide) ?_
        refine lv_aload_n hx hb dL_law_267 rfl (lv_at hl 1 rfl) ?_
        refine lv_aload_n hx hb dL_law_268 rfl (lv_at hl 0 rfl) ?_
        refine lv_iload_n hx hb dL_law_269 rfl (lv_at hl 3 rfl) ?_
        refine lv_iconst (v := 1) hx hb dL_law_270 (by decide) ?_
        refine lv_iadd hx hb dL_law_271 ?_
        refine x_eqi (y := nI (i + 1)) (nI_add i 1) ?_
        refine l_sld (i := i + 1) hx hb hX hbl hbA hS (by omega) (by omega) dL_law_272 ?_
        refine l_vi (w' := mW gm cA N (nI (siz N)) D R F KD KR RW OU WM ST WK CA lm kp rd wr ft) (g' := gm) (n' := 14) ⟨hx, hb, hml, hown, hts2⟩ (c_X2_read l G cA tF tC gx _ N hN D R F KD KR FL SU WO ln kp rd wr ft (xs (i + 1))) (cwV 1 hts2 gL_law_X2_read rfl rfl rfl (by decide +kernel) ⟨Nat.le_of_ble_eq_true rfl, Nat.le_of_ble_eq_true rfl⟩) hK hP hD hPm hDm hdj hgx hS hT 0 2 rfl rfl rfl hl.1 rfl (Nat.le_of_ble_eq_true rfl) dL_law_273 ⟨Nat.le_of_ble_eq_true rfl, Nat.le_of_ble_eq_true rfl⟩ (fun r_7 u H locs hp hP hD hPm hS => ?_)
        obtain ⟨SU1, WO1, ln1⟩ := u
        have hP : va_P G vwCl (xW gx cA N D R (s_rdF N D R F (xs (i + 1))) KD KR FL SU1 WO1 ln1 kp (s_inc N D R (xs (i + 1)) rd) wr (s_ft N D R (xs (i + 1)) ft)) H := hP
        have hD : va_D (gA gx 13) (xW gx cA N D R (s_rdF N D R F (xs (i + 1))) KD KR FL SU1 WO1 ln1 kp (s_inc N D R (xs (i + 1)) rd) wr (s_ft N D R (xs (i + 1)) ft)) := hD
        have hPm : va_P G vwCl (mW gm cA N (nI (siz N)) D R F KD KR RW OU WM ST WK CA lm kp rd wr ft) H := hPm
        have hDm : va_D (gA gm 14) (mW gm cA N (nI (siz N)) D R F KD KR RW OU WM ST WK CA lm kp rd wr ft) := hDm
        have hp : r_7 = a_flt N D R (xs (i + 1)) := hp
        subst hp
        refine lv_aload_n hx hb dL_law_276 rfl (lv_at hl 2 rfl) ?_
        refine lv_aload_n hx hb dL_law_277 rfl (lv_at hl 0 rfl) ?_
        refine lv_iload_n hx hb dL_law_278 rfl (lv_at hl 3 rfl) ?_
        refine lv_iconst (v := 1) hx hb dL_law_279 (by decide) ?_
        refine lv_iadd hx hb dL_law_280 ?_
        refine x_eqi (y := nI (i + 1)) (nI_add i 1) ?_
        refine l_sld (i := i + 1) hx hb hX hbl hbA hS (by omega) (by omega) dL_law_281 ?_
        refine l_vi (w' := xW gx cA N D R (s_rdF N D R F (xs (i + 1))) KD KR FL SU1 WO1 ln1 kp (s_inc N D R (xs (i + 1)) rd) wr (s_ft N D R (xs (i + 1)) ft)) (g' := gx) (n' := 13) ⟨hx, hb, hml, hown, hts2⟩ (c_X3_read l G cA tF tC gm _ N hN D R F KD KR RW OU WM ST WK CA lm kp rd wr ft (xs (i + 1))) (cwV 1 hts2 gL_law_X3_read rfl rfl rfl (by decide +kernel) ⟨Nat.le_of_ble_eq_true rfl, Nat.le_of_ble_eq_true rfl⟩) hK hPm hDm hP hD hdj2 hgm hS hT 0 3 rfl rfl rfl hl.1 rfl (Nat.le_of_ble_eq_true rfl) dL_law_282 ⟨Nat.le_of_ble_eq_true rfl, Nat.le_of_ble_eq_true rfl⟩ (fun r_8 u H locs hp hPm hDm hP hS => ?_)
        obtain ⟨RW1, OU1, WM1, ST1, WK1, lm1⟩ := u
        have hP : va_P G vwCl (xW gx cA N D R (s_rdF N D R F (xs (i + 1))) KD KR FL SU1 WO1 ln1 kp (s_inc N D R (xs (i + 1)) rd) wr (s_ft N D R (xs (i + 1)) ft)) H := hP
        have hD : va_D (gA gx 13) (xW gx cA N D R (s_rdF N D R F (xs (i + 1))) KD KR FL SU1 WO1 ln1 kp (s_inc N D R (xs (i + 1)) rd) wr (s_ft N D R (xs (i + 1)) ft)) := hD
        have hPm : va_P G vwCl (mW gm cA N (nI (siz N)) D R (s_rdF N D R F (xs (i + 1))) KD KR RW1 OU1 WM1 ST1 WK1 CA lm1 kp (s_inc N D R (xs (i + 1)) rd) wr (s_ft N D R (xs (i + 1)) ft)) H := hPm
        have hDm : va_D (gA gm 14) (mW gm cA N (nI (siz N)) D R (s_rdF N D R F (xs (i + 1))) KD KR RW1 OU1 WM1 ST1 WK1 CA lm1 kp (s_inc N D R (xs (i + 1)) rd) wr (s_ft N D R (xs (i + 1)) ft)) := hDm
        have hp : r_8 = a_flt N D R (xs (i + 1)) := hp
        subst hp
        refine lv_icmp_eq (tgt := 717) hx hb dL_law_285 (by decide) (fun _ => ?_) (fun c_q => absurd rfl c_q)
        refine lv_iinc (v := nI (i + 4)) (lv' := [(3, .int (nI (i + 4))), (0, .ref b), (1, .ref (gx 0)), (2, .ref (gm 0))]) hx hb dL_law_717 hl (k := 3) rfl (nI_add _ 4) (by decide) rfl (fun ls hl => ?_)
        refine lv_goto (tgt := 28) hx hb dL_law_720 (by decide) ?_
        exact ih_28 (i + 4) D R (s_rdF N D R F (xs (i + 1))) KD KR FL SU1 WO1 RW1 OU1 WM1 ST1 WK1 CA ln1 kp (s_inc N D R (xs (i + 1)) rd) wr (s_ft N D R (xs (i + 1)) ft) lm1 (by omega) (by omega) _ _ _ hP hD hPm hDm hS (lv_sub hl [1, 2, 3, 0] rfl)
      · skip
        subst h4
        refine lv_tableIn (off := 248) (tgt := 290) hx hb dL_law_42 (by decide) (by decide) (by decide) (by decide) ?_
        refine lv_aload_n hx hb dL_law_290 rfl (lv_at hl 1 rfl) ?_
        refine lv_aload_n hx hb dL_law_291 rfl (lv_at hl 0 rfl) ?_
        refine lv_iload_n hx hb dL_law_292 rfl (lv_at hl 3 rfl) ?_
        refine lv_iconst (v := 1) hx hb dL_law_293 (by decide) ?_
        refine lv_iadd hx hb dL_law_294 ?_
        refine x_eqi (y := nI (i + 1)) (nI_add i 1) ?_
        refine l_sld (i := i + 1) hx hb hX hbl hbA hS (by omega) (by omega) dL_law_295 ?_
        refine l_vi (w' := mW gm cA N (nI (siz N)) D R F KD KR RW OU WM ST WK CA lm kp rd wr ft) (g' := gm) (n' := 14) ⟨hx, hb, hml, hown, hts2⟩ (c_X2_write l G cA tF tC gx _ N hN D R F KD KR FL SU WO ln kp rd wr ft (xs (i + 1))) (cwV 1 hts2 gL_law_X2_write rfl rfl rfl (by decide +kernel) ⟨Nat.le_of_ble_eq_true rfl, Nat.le_of_ble_eq_true rfl⟩) hK hP hD hPm hDm hdj hgx hS hT 0 2 rfl rfl rfl hl.1 rfl (Nat.le_of_ble_eq_true rfl) dL_law_296 ⟨Nat.le_of_ble_eq_true rfl, Nat.le_of_ble_eq_true rfl⟩ (fun r_9 u H locs hp hP hD hPm hS => ?_)
        obtain ⟨SU1, WO1, ln1⟩ := u
        have hP : va_P G vwCl (xW gx cA N (s_wrD N D R F (xs (i + 1))) (s_wrR N D R F (xs (i + 1))) F KD KR FL SU1 WO1 ln1 kp rd (s_inc N D R (xs (i + 1)) wr) (s_ft N D R (xs (i + 1)) ft)) H := hP
        have hD : va_D (gA gx 13) (xW gx cA N (s_wrD N D R F (xs (i + 1))) (s_wrR N D R F (xs (i + 1))) F KD KR FL SU1 WO1 ln1 kp rd (s_inc N D R (xs (i + 1)) wr) (s_ft N D R (xs (i + 1)) ft)) := hD
        have hPm : va_P G vwCl (mW gm cA N (nI (siz N)) D R F KD KR RW OU WM ST WK CA lm kp rd wr ft) H := hPm
        have hDm : va_D (gA gm 14) (mW gm cA N (nI (siz N)) D R F KD KR RW OU WM ST WK CA lm kp rd wr ft) := hDm
        have hp : r_9 = a_flt N D R (xs (i + 1)) := hp
        subst hp
        refine lv_aload_n hx hb dL_law_299 rfl (lv_at hl 2 rfl) ?_
        refine lv_aload_n hx hb dL_law_300 rfl (lv_at hl 0 rfl) ?_
        refine lv_iload_n hx hb dL_law_301 rfl (lv_at hl 3 rfl) ?_
        refine lv_iconst (v := 1) hx hb dL_law_302 (by decide) ?_
        refine lv_iadd hx hb dL_law_303 ?_
        refine x_eqi (y := nI (i + 1)) (nI_add i 1) ?_
        refine l_sld (i := i + 1) hx hb hX hbl hbA hS (by omega) (by omega) dL_law_304 ?_
        refine l_vi (w' := xW gx cA N (s_wrD N D R F (xs (i + 1))) (s_wrR N D R F (xs (i + 1))) F KD KR FL SU1 WO1 ln1 kp rd (s_inc N D R (xs (i + 1)) wr) (s_ft N D R (xs (i + 1)) ft)) (g' := gx) (n' := 13) ⟨hx, hb, hml, hown, hts2⟩ (c_X3_write l G cA tF tC gm _ N hN D R F KD KR RW OU WM ST WK CA lm kp rd wr ft (xs (i + 1))) (cwV 1 hts2 gL_law_X3_write rfl rfl rfl (by decide +kernel) ⟨Nat.le_of_ble_eq_true rfl, Nat.le_of_ble_eq_true rfl⟩) hK hPm hDm hP hD hdj2 hgm hS hT 0 3 rfl rfl rfl hl.1 rfl (Nat.le_of_ble_eq_true rfl) dL_law_305 ⟨Nat.le_of_ble_eq_true rfl, Nat.le_of_ble_eq_true rfl⟩ (fun r_10 u H locs hp hPm hDm hP hS => ?_)
        obtain ⟨RW1, OU1, WM1, ST1, WK1, lm1⟩ := u
        have hP : va_P G vwCl (xW gx cA N (s_wrD N D R F (xs (i + 1))) (s_wrR N D R F (xs (i + 1))) F KD KR FL SU1 WO1 ln1 kp rd (s_inc N D R (xs (i + 1)) wr) (s_ft N D R (xs (i + 1)) ft)) H := hP
        have hD : va_D (gA gx 13) (xW gx cA N (s_wrD N D R F (xs (i + 1))) (s_wrR N D R F (xs (i + 1))) F KD KR FL SU1 WO1 ln1 kp rd (s_inc N D R (xs (i + 1)) wr) (s_ft N D R (xs (i + 1)) ft)) := hD
        have hPm : va_P G vwCl (mW gm cA N (nI (siz N)) (s_wrD N D R F (xs (i + 1))) (s_wrR N D R F (xs (i + 1))) F KD KR RW1 OU1 WM1 ST1 WK1 CA lm1 kp rd (s_inc N D R (xs (i + 1)) wr) (s_ft N D R (xs (i + 1)) ft)) H := hPm
        have hDm : va_D (gA gm 14) (mW gm cA N (nI (siz N)) (s_wrD N D R F (xs (i + 1))) (s_wrR N D R F (xs (i + 1))) F KD KR RW1 OU1 WM1 ST1 WK1 CA lm1 kp rd (s_inc N D R (xs (i + 1)) wr) (s_ft N D R (xs (i + 1)) ft)) := hDm
        have hp : r_10 = a_flt N D R (xs (i + 1)) := hp
        subst hp
        refine lv_icmp_eq (tgt := 717) hx hb dL_law_308 (by decide) (fun _ => ?_) (fun c_q => absurd rfl c_q)
        refine lv_iinc (v := nI (i + 4)) (lv' := [(3, .int (nI (i + 4))), (0, .ref b), (1, .ref (gx 0)), (2, .ref (gm 0))]) hx hb dL_law_717 hl (k := 3) rfl (nI_add _ 4) (by decide) rfl (fun ls hl => ?_)
        refine lv_goto (tgt := 28) hx hb dL_law_720 (by decide) ?_
        exact ih_28 (i + 4) (s_wrD N D R F (xs (i + 1))) (s_wrR N D R F (xs (i + 1))) F KD KR FL SU1 WO1 RW1 OU1 WM1 ST1 WK1 CA ln1 kp rd (s_inc N D R (xs (i + 1)) wr) (s_ft N D R (xs (i + 1)) ft) lm1 (by omega) (by omega) _ _ _ hP hD hPm hDm hS (lv_sub hl [1, 2, 3, 0] rfl)
      · skip
        subst h4
        refine lv_tableIn (off := 271) (tgt := 313) hx hb dL_law_42 (by decide) (by decide) (by decide) (by decide) ?_
        refine lv_aload_n hx hb dL_law_313 rfl (lv_at hl 1 rfl) ?_
        refine l_vi (w' := mW gm cA N (nI (siz N)) D R F KD KR RW OU WM ST WK CA lm kp rd wr ft) (g' := gm) (n' := 14) ⟨hx, hb, hml, hown, hts2⟩ (c_X2_seal l G cA tF tC gx _ N hN D R F KD KR FL SU WO ln kp rd wr ft ) (cwV 0 hts2 gL_law_X2_seal rfl rfl rfl (by decide +kernel) ⟨Nat.le_of_ble_eq_true rfl, Nat.le_of_ble_eq_true rfl⟩) hK hP hD hPm hDm hdj hgx hS hT 0 2 rfl rfl rfl hl.1 rfl (Nat.le_of_ble_eq_true rfl) dL_law_314 ⟨Nat.le_of_ble_eq_true rfl, Nat.le_of_ble_eq_true rfl⟩ (fun r_11 u H locs hp hP hD hPm hS => ?_)
        obtain ⟨SU1, WO1, ln1⟩ := u
        have hP : va_P G vwCl (xW gx cA N (sAll N D) (sRoot N (sAll N D) R) F KD KR FL SU1 WO1 ln1 kp rd wr ft) H := hP
        have hD : va_D (gA gx 13) (xW gx cA N (sAll N D) (sRoot N (sAll N D) R) F KD KR FL SU1 WO1 ln1 kp rd wr ft) := hD
        have hPm : va_P G vwCl (mW gm cA N (nI (siz N)) D R F KD KR RW OU WM ST WK CA lm kp rd wr ft) H := hPm
        have hDm : va_D (gA gm 14) (mW gm cA N (nI (siz N)) D R F KD KR RW OU WM ST WK CA lm kp rd wr ft) := hDm
        have hp : r_11 = nI (nds N) := hp
        subst hp
        refine lv_aload_n hx hb dL_law_317 rfl (lv_at hl 2 rfl) ?_
        refine l_vi (w' := xW gx cA N (sAll N D) (sRoot N (sAll N D) R) F KD KR FL SU1 WO1 ln1 kp rd wr ft) (g' := gx) (n' := 13) ⟨hx, hb, hml, hown, hts2⟩ (c_X3_seal l G cA tF tC gm _ N hN D R F KD KR RW OU WM ST WK CA lm kp rd wr ft ) (cwV 0 hts2 gL_law_X3_seal rfl rfl rfl (by decide +kernel) ⟨Nat.le_of_ble_eq_true rfl, Nat.le_of_ble_eq_true rfl⟩) hK hPm hDm hP hD hdj2 hgm hS hT 0 3 rfl rfl rfl hl.1 rfl (Nat.le_of_ble_eq_true rfl) dL_law_318 ⟨Nat.le_of_ble_eq_true rfl, Nat.le_of_ble_eq_true rfl⟩ (fun r_12 u H locs hp hPm hDm hP hS => ?_)
        obtain ⟨RW1, OU1, WM1, ST1, WK1, lm1⟩ := u
        have hP : va_P G vwCl (xW gx cA N (sAll N D) (sRoot N (sAll N D) R) F KD KR FL SU1 WO1 ln1 kp rd wr ft) H := hP
        have hD : va_D (gA gx 13) (xW gx cA N (sAll N D) (sRoot N (sAll N D) R) F KD KR FL SU1 WO1 ln1 kp rd wr ft) := hD
        have hPm : va_P G vwCl (mW gm cA N (nI (siz N)) (sAll N D) (sRoot N (sAll N D) R) F KD KR RW1 OU1 WM1 ST1 WK1 CA lm1 kp rd wr ft) H := hPm
        have hDm : va_D (gA gm 14) (mW gm cA N (nI (siz N)) (sAll N D) (sRoot N (sAll N D) R) F KD KR RW1 OU1 WM1 ST1 WK1 CA lm1 kp rd wr ft) := hDm
        have hp : r_12 = nI (nds N) := hp
        subst hp
        refine lv_icmp_eq (tgt := 717) hx hb dL_law_321 (by decide) (fun _ => ?_) (fun c_q => absurd rfl c_q)
        refine lv_iinc (v := nI (i + 4)) (lv' := [(3, .int (nI (i + 4))), (0, .ref b), (1, .ref (gx 0)), (2, .ref (gm 0))]) hx hb dL_law_717 hl (k := 3) rfl (nI_add _ 4) (by decide) rfl (fun ls hl => ?_)
        refine lv_goto (tgt := 28) hx hb dL_law_720 (by decide) ?_
        exact ih_28 (i + 4) (sAll N D) (sRoot N (sAll N D) R) F KD KR FL SU1 WO1 RW1 OU1 WM1 ST1 WK1 CA ln1 kp rd wr ft lm1 (by omega) (by omega) _ _ _ hP hD hPm hDm hS (lv_sub hl [1, 2, 3, 0] rfl)
      · skip
        subst h4
        refine lv_tableIn (off := 284) (tgt := 326) hx hb dL_law_42 (by decide) (by decide) (by decide) (by decide) ?_
        refine lv_aload_n hx hb dL_law_326 rfl (lv_at hl 1 rfl) ?_
        refine l_vi (w' := mW gm cA N (nI (siz N)) D R F KD KR RW OU WM ST WK CA lm kp rd wr ft) (g' := gm) (n' := 14) ⟨hx, hb, hml, hown, hts2⟩ (c_X2_size l G cA tF tC gx _ N hN D R F KD KR FL SU WO ln kp rd wr ft ) (cwV 0 hts2 gL_law_X2_size rfl rfl rfl (by decide +kernel) ⟨Nat.le_of_ble_eq_true rfl, Nat.le_of_ble_eq_true rfl⟩) hK hP hD hPm hDm hdj hgx hS hT 0 2 rfl rfl rfl hl.1 rfl (Nat.le_of_ble_eq_true rfl) dL_law_327 ⟨Nat.le_of_ble_eq_true rfl, Nat.le_of_ble_eq_true rfl⟩ (fun r_13 u H locs hp hP hD hPm hS => ?_)
        have hP : va_P G vwCl (xW gx cA N D R F KD KR FL SU WO ln kp rd wr ft) H := hP
        have hD : va_D (gA gx 13) (xW gx cA N D R F KD KR FL SU WO ln kp rd wr ft) := hD
        have hPm : va_P G vwCl (mW gm cA N (nI (siz N)) D R F KD KR RW OU WM ST WK CA lm kp rd wr ft) H := hPm
        have hDm : va_D (gA gm 14) (mW gm cA N (nI (siz N)) D R F KD KR RW OU WM ST WK CA lm kp rd wr ft) := hDm
        have hp : r_13 = nI (siz N) := hp
        subst hp
        refine lv_aload_n hx hb dL_law_330 rfl (lv_at hl 2 rfl) ?_
        refine l_vi (w' := xW gx cA N D R F KD KR FL SU WO ln kp rd wr ft) (g' := gx) (n' := 13) ⟨hx, hb, hml, hown, hts2⟩ (c_X3_size l G cA tF tC gm _ N hN D R F KD KR RW OU WM ST WK CA lm kp rd wr ft ) (cwV 0 hts2 gL_law_X3_size rfl rfl rfl (by decide +kernel) ⟨Nat.le_of_ble_eq_true rfl, Nat.le_of_ble_eq_true rfl⟩) hK hPm hDm hP hD hdj2 hgm hS hT 0 3 rfl rfl rfl hl.1 rfl (Nat.le_of_ble_eq_true rfl) dL_law_331 ⟨Nat.le_of_ble_eq_true rfl, Nat.le_of_ble_eq_true rfl⟩ (fun r_14 u H locs hp hPm hDm hP hS => ?_)
        have hP : va_P G vwCl (xW gx cA N D R F KD KR FL SU WO ln kp rd wr ft) H := hP
        have hD : va_D (gA gx 13) (xW gx cA N D R F KD KR FL SU WO ln kp rd wr ft) := hD
        have hPm : va_P G vwCl (mW gm cA N (nI (siz N)) D R F KD KR RW OU WM ST WK CA lm kp rd wr ft) H := hPm
        have hDm : va_D (gA gm 14) (mW gm cA N (nI (siz N)) D R F KD KR RW OU WM ST WK CA lm kp rd wr ft) := hDm
        have hp : r_14 = nI (siz N) := hp
        subst hp
        refine lv_icmp_eq (tgt := 717) hx hb dL_law_334 (by decide) (fun _ => ?_) (fun c_q => absurd rfl c_q)
        refine lv_iinc (v := nI (i + 4)) (lv' := [(3, .int (nI (i + 4))), (0, .ref b), (1, .ref (gx 0)), (2, .ref (gm 0))]) hx hb dL_law_717 hl (k := 3) rfl (nI_add _ 4) (by decide) rfl (fun ls hl => ?_)
        refine lv_goto (tgt := 28) hx hb dL_law_720 (by decide) ?_
        exact ih_28 (i + 4) D R F KD KR FL SU WO RW OU WM ST WK CA ln kp rd wr ft lm (by omega) (by omega) _ _ _ hP hD hPm hDm hS (lv_sub hl [1, 2, 3, 0] rfl)
      · skip
        subst h4
        refine lv_tableIn (off := 297) (tgt := 339) hx hb dL_law_42 (by decide) (by decide) (by decide) (by decide) ?_
        refine lv_aload_n hx hb dL_law_339 rfl (lv_at hl 1 rfl) ?_
        refine lv_aload_n hx hb dL_law_340 rfl (lv_at hl 0 rfl) ?_
        refine lv_iload_n hx hb dL_law_341 rfl (lv_at hl 3 rfl) ?_
        refine lv_iconst (v := 1) hx hb dL_law_342 (by decide) ?_
        refine lv_iadd hx hb dL_law_343 ?_
        refine x_eqi (y := nI (i + 1)) (nI_add i 1) ?_
        refine l_sld (i := i + 1) hx hb hX hbl hbA hS (by omega) (by omega) dL_law_344 ?_
        refine l_vi (w' := mW gm cA N (nI (siz N)) D R F KD KR RW OU WM ST WK CA lm kp rd wr ft) (g' := gm) (n' := 14) ⟨hx, hb, hml, hown, hts2⟩ (c_X2_disk l G cA tF tC gx _ N hN D R F KD KR FL SU WO ln kp rd wr ft (xs (i + 1))) (cwV 1 hts2 gL_law_X2_disk rfl rfl rfl (by decide +kernel) ⟨Nat.le_of_ble_eq_true rfl, Nat.le_of_ble_eq_true rfl⟩) hK hP hD hPm hDm hdj hgx hS hT 0 2 rfl rfl rfl hl.1 rfl (Nat.le_of_ble_eq_true rfl) dL_law_345 ⟨Nat.le_of_ble_eq_true rfl, Nat.le_of_ble_eq_true rfl⟩ (fun r_15 u H locs hp hP hD hPm hS => ?_)
        have hP : va_P G vwCl (xW gx cA N D R F KD KR FL SU WO ln kp rd wr ft) H := hP
        have hD : va_D (gA gx 13) (xW gx cA N D R F KD KR FL SU WO ln kp rd wr ft) := hD
        have hPm : va_P G vwCl (mW gm cA N (nI (siz N)) D R F KD KR RW OU WM ST WK CA lm kp rd wr ft) H := hPm
        have hDm : va_D (gA gm 14) (mW gm cA N (nI (siz N)) D R F KD KR RW OU WM ST WK CA lm kp rd wr ft) := hDm
        have hp : r_15 = a_at D (siz N) (xs (i + 1)) := hp
        subst hp
        refine lv_aload_n hx hb dL_law_348 rfl (lv_at hl 2 rfl) ?_
        refine lv_aload_n hx hb dL_law_349 rfl (lv_at hl 0 rfl) ?_
        refine lv_iload_n hx hb dL_law_350 rfl (lv_at hl 3 rfl) ?_
        refine lv_iconst (v := 1) hx hb dL_law_351 (by decide) ?_
        refine lv_iadd hx hb dL_law_352 ?_
        refine x_eqi (y := nI (i + 1)) (nI_add i 1) ?_
        refine l_sld (i := i + 1) hx hb hX hbl hbA hS (by omega) (by omega) dL_law_353 ?_
        refine l_vi (w' := xW gx cA N D R F KD KR FL SU WO ln kp rd wr ft) (g' := gx) (n' := 13) ⟨hx, hb, hml, hown, hts2⟩ (c_X3_disk l G cA tF tC gm _ N hN D R F KD KR RW OU WM ST WK CA lm kp rd wr ft (xs (i + 1))) (cwV 1 hts2 gL_law_X3_disk rfl rfl rfl (by decide +kernel) ⟨Nat.le_of_ble_eq_true rfl, Nat.le_of_ble_eq_true rfl⟩) hK hPm hDm hP hD hdj2 hgm hS hT 0 3 rfl rfl rfl hl.1 rfl (Nat.le_of_ble_eq_true rfl) dL_law_354 ⟨Nat.le_of_ble_eq_true rfl, Nat.le_of_ble_eq_true rfl⟩ (fun r_16 u H locs hp hPm hDm hP hS => ?_)
        have hP : va_P G vwCl (xW gx cA N D R F KD KR FL SU WO ln kp rd wr ft) H := hP
        have hD : va_D (gA gx 13) (xW gx cA N D R F KD KR FL SU WO ln kp rd wr ft) := hD
        have hPm : va_P G vwCl (mW gm cA N (nI (siz N)) D R F KD KR RW OU WM ST WK CA lm kp rd wr ft) H := hPm
        have hDm : va_D (gA gm 14) (mW gm cA N (nI (siz N)) D R F KD KR RW OU WM ST WK CA lm kp rd wr ft) := hDm
        have hp : r_16 = a_at D (siz N) (xs (i + 1)) := hp
        subst hp
        refine lv_icmp_eq (tgt := 717) hx hb dL_law_357 (by decide) (fun _ => ?_) (fun c_q => absurd rfl c_q)
        refine lv_iinc (v := nI (i + 4)) (lv' := [(3, .int (nI (i + 4))), (0, .ref b), (1, .ref (gx 0)), (2, .ref (gm 0))]) hx hb dL_law_717 hl (k := 3) rfl (nI_add _ 4) (by decide) rfl (fun ls hl => ?_)
        refine lv_goto (tgt := 28) hx hb dL_law_720 (by decide) ?_
        exact ih_28 (i + 4) D R F KD KR FL SU WO RW OU WM ST WK CA ln kp rd wr ft lm (by omega) (by omega) _ _ _ hP hD hPm hDm hS (lv_sub hl [1, 2, 3, 0] rfl)
      · skip
        subst h4
        refine lv_tableIn (off := 320) (tgt := 362) hx hb dL_law_42 (by decide) (by decide) (by decide) (by decide) ?_
        refine lv_aload_n hx hb dL_law_362 rfl (lv_at hl 1 rfl) ?_
        refine lv_aload_n hx hb dL_law_363 rfl (lv_at hl 0 rfl) ?_
        refine lv_iload_n hx hb dL_law_364 rfl (lv_at hl 3 rfl) ?_
        refine lv_iconst (v := 1) hx hb dL_law_365 (by decide) ?_
        refine lv_iadd hx hb dL_law_366 ?_
        refine x_eqi (y := nI (i + 1)) (nI_add i 1) ?_
        refine l_sld (i := i + 1) hx hb hX hbl hbA hS (by omega) (by omega) dL_law_367 ?_
        refine lv_aload_n hx hb dL_law_368 rfl (lv_at hl 0 rfl) ?_
        refine lv_iload_n hx hb dL_law_369 rfl (lv_at hl 3 rfl) ?_
        refine lv_iconst (v := 2) hx hb dL_law_370 (by decide) ?_
        refine lv_iadd hx hb dL_law_371 ?_
        refine x_eqi (y := nI (i + 2)) (nI_add i 2) ?_
        refine l_sld (i := i + 2) hx hb hX hbl hbA hS (by omega) (by omega) dL_law_372 ?_
        refine l_vi (w' := mW gm cA N (nI (siz N)) D R F KD KR RW OU WM ST WK CA lm kp rd wr ft) (g' := gm) (n' := 14) ⟨hx, hb, hml, hown, hts2⟩ (c_X2_alter l G cA tF tC gx _ N hN D R F KD KR FL SU WO ln kp rd wr ft (xs (i + 1)) (xs (i + 2))) (cwV 2 hts2 gL_law_X2_alter rfl rfl rfl (by decide +kernel) ⟨Nat.le_of_ble_eq_true rfl, Nat.le_of_ble_eq_true rfl⟩) hK hP hD hPm hDm hdj hgx hS hT 0 2 rfl rfl rfl hl.1 rfl (Nat.le_of_ble_eq_true rfl) dL_law_373 ⟨Nat.le_of_ble_eq_true rfl, Nat.le_of_ble_eq_true rfl⟩ (fun r_17 u H locs hp hP hD hPm hS => ?_)
        have hP : va_P G vwCl (xW gx cA N (s_alt N D (xs (i + 1)) (xs (i + 2))) R F KD KR FL SU WO ln kp rd wr ft) H := hP
        have hD : va_D (gA gx 13) (xW gx cA N (s_alt N D (xs (i + 1)) (xs (i + 2))) R F KD KR FL SU WO ln kp rd wr ft) := hD
        have hPm : va_P G vwCl (mW gm cA N (nI (siz N)) D R F KD KR RW OU WM ST WK CA lm kp rd wr ft) H := hPm
        have hDm : va_D (gA gm 14) (mW gm cA N (nI (siz N)) D R F KD KR RW OU WM ST WK CA lm kp rd wr ft) := hDm
        have hp : r_17 = a_at D (siz N) (xs (i + 1)) := hp
        subst hp
        refine lv_aload_n hx hb dL_law_376 rfl (lv_at hl 2 rfl) ?_
        refine lv_aload_n hx hb dL_law_377 rfl (lv_at hl 0 rfl) ?_
        refine lv_iload_n hx hb dL_law_378 rfl (lv_at hl 3 rfl) ?_
        refine lv_iconst (v := 1) hx hb dL_law_379 (by decide) ?_
        refine lv_iadd hx hb dL_law_380 ?_
        refine x_eqi (y := nI (i + 1)) (nI_add i 1) ?_
        refine l_sld (i := i + 1) hx hb hX hbl hbA hS (by omega) (by omega) dL_law_381 ?_
        refine lv_aload_n hx hb dL_law_382 rfl (lv_at hl 0 rfl) ?_
        refine lv_iload_n hx hb dL_law_383 rfl (lv_at hl 3 rfl) ?_
        refine lv_iconst (v := 2) hx hb dL_law_384 (by decide) ?_
        refine lv_iadd hx hb dL_law_385 ?_
        refine x_eqi (y := nI (i + 2)) (nI_add i 2) ?_
        refine l_sld (i := i + 2) hx hb hX hbl hbA hS (by omega) (by omega) dL_law_386 ?_
        refine l_vi (w' := xW gx cA N (s_alt N D (xs (i + 1)) (xs (i + 2))) R F KD KR FL SU WO ln kp rd wr ft) (g' := gx) (n' := 13) ⟨hx, hb, hml, hown, hts2⟩ (c_X3_alter l G cA tF tC gm _ N hN D R F KD KR RW OU WM ST WK CA lm kp rd wr ft (xs (i + 1)) (xs (i + 2))) (cwV 2 hts2 gL_law_X3_alter rfl rfl rfl (by decide +kernel) ⟨Nat.le_of_ble_eq_true rfl, Nat.le_of_ble_eq_true rfl⟩) hK hPm hDm hP hD hdj2 hgm hS hT 0 3 rfl rfl rfl hl.1 rfl (Nat.le_of_ble_eq_true rfl) dL_law_387 ⟨Nat.le_of_ble_eq_true rfl, Nat.le_of_ble_eq_true rfl⟩ (fun r_18 u H locs hp hPm hDm hP hS => ?_)
        have hP : va_P G vwCl (xW gx cA N (s_alt N D (xs (i + 1)) (xs (i + 2))) R F KD KR FL SU WO ln kp rd wr ft) H := hP
        have hD : va_D (gA gx 13) (xW gx cA N (s_alt N D (xs (i + 1)) (xs (i + 2))) R F KD KR FL SU WO ln kp rd wr ft) := hD
        have hPm : va_P G vwCl (mW gm cA N (nI (siz N)) (s_alt N D (xs (i + 1)) (xs (i + 2))) R F KD KR RW OU WM ST WK CA lm kp rd wr ft) H := hPm
        have hDm : va_D (gA gm 14) (mW gm cA N (nI (siz N)) (s_alt N D (xs (i + 1)) (xs (i + 2))) R F KD KR RW OU WM ST WK CA lm kp rd wr ft) := hDm
        have hp : r_18 = a_at D (siz N) (xs (i + 1)) := hp
        subst hp
        refine lv_icmp_eq (tgt := 717) hx hb dL_law_390 (by decide) (fun _ => ?_) (fun c_q => absurd rfl c_q)
        refine lv_iinc (v := nI (i + 4)) (lv' := [(3, .int (nI (i + 4))), (0, .ref b), (1, .ref (gx 0)), (2, .ref (gm 0))]) hx hb dL_law_717 hl (k := 3) rfl (nI_add _ 4) (by decide) rfl (fun ls hl => ?_)
        refine lv_goto (tgt := 28) hx hb dL_law_720 (by decide) ?_
        exact ih_28 (i + 4) (s_alt N D (xs (i + 1)) (xs (i + 2))) R F KD KR FL SU WO RW OU WM ST WK CA ln kp rd wr ft lm (by omega) (by omega) _ _ _ hP hD hPm hDm hS (lv_sub hl [1, 2, 3, 0] rfl)
      · skip
        subst h4
        refine lv_tableIn (off := 353) (tgt := 395) hx hb dL_law_42 (by decide) (by decide) (by decide) (by decide) ?_
        refine lv_aload_n hx hb dL_law_395 rfl (lv_at hl 1 rfl) ?_
        refine lv_aload_n hx hb dL_law_396 rfl (lv_at hl 0 rfl) ?_
        refine lv_iload_n hx hb dL_law_397 rfl (lv_at hl 3 rfl) ?_
        refine lv_iconst (v := 1) hx hb dL_law_398 (by decide) ?_
        refine lv_iadd hx hb dL_law_399 ?_
        refine x_eqi (y := nI (i + 1)) (nI_add i 1) ?_
        refine l_sld (i := i + 1) hx hb hX hbl hbA hS (by omega) (by omega) dL_law_400 ?_
        refine lv_aload_n hx hb dL_law_401 rfl (lv_at hl 0 rfl) ?_
        refine lv_iload_n hx hb dL_law_402 rfl (lv_at hl 3 rfl) ?_
        refine lv_iconst (v := 2) hx hb dL_law_403 (by decide) ?_
        refine lv_iadd hx hb dL_law_404 ?_
        refine x_eqi (y := nI (i + 2)) (nI_add i 2) ?_
        refine l_sld (i := i + 2) hx hb hX hbl hbA hS (by omega) (by omega) dL_law_405 ?_
        refine lv_aload_n hx hb dL_law_406 rfl (lv_at hl 0 rfl) ?_
        refine lv_iload_n hx hb dL_law_407 rfl (lv_at hl 3 rfl) ?_
        refine lv_iconst (v := 3) hx hb dL_law_408 (by decide) ?_
        refine lv_iadd hx hb dL_law_409 ?_
        refine x_eqi (y := nI (i + 3)) (nI_add i 3) ?_
        refine l_sld (i := i + 3) hx hb hX hbl hbA hS (by omega) (by omega) dL_law_410 ?_
        refine l_vi (w' := mW gm cA N (nI (siz N)) D R F KD KR RW OU WM ST WK CA lm kp rd wr ft) (g' := gm) (n' := 14) ⟨hx, hb, hml, hown, hts2⟩ (c_X2_carry l G cA tF tC gx _ N hN D R F KD KR FL SU WO ln kp rd wr ft (xs (i + 1)) (xs (i + 2)) (xs (i + 3))) (cwV 3 hts2 gL_law_X2_carry rfl rfl rfl (by decide +kernel) ⟨Nat.le_of_ble_eq_true rfl, Nat.le_of_ble_eq_true rfl⟩) hK hP hD hPm hDm hdj hgx hS hT 0 2 rfl rfl rfl hl.1 rfl (Nat.le_of_ble_eq_true rfl) dL_law_411 ⟨Nat.le_of_ble_eq_true rfl, Nat.le_of_ble_eq_true rfl⟩ (fun r_19 u H locs hp hP hD hPm hS => ?_)
        have hP : va_P G vwCl (xW gx cA N (s_car N D (xs (i + 1)) (xs (i + 2)) (xs (i + 3))) R F KD KR FL SU WO ln kp rd wr ft) H := hP
        have hD : va_D (gA gx 13) (xW gx cA N (s_car N D (xs (i + 1)) (xs (i + 2)) (xs (i + 3))) R F KD KR FL SU WO ln kp rd wr ft) := hD
        have hPm : va_P G vwCl (mW gm cA N (nI (siz N)) D R F KD KR RW OU WM ST WK CA lm kp rd wr ft) H := hPm
        have hDm : va_D (gA gm 14) (mW gm cA N (nI (siz N)) D R F KD KR RW OU WM ST WK CA lm kp rd wr ft) := hDm
        have hp : r_19 = a_car N (xs (i + 1)) (xs (i + 2)) (xs (i + 3)) := hp
        subst hp
        refine lv_aload_n hx hb dL_law_414 rfl (lv_at hl 2 rfl) ?_
        refine lv_aload_n hx hb dL_law_415 rfl (lv_at hl 0 rfl) ?_
        refine lv_iload_n hx hb dL_law_416 rfl (lv_at hl 3 rfl) ?_
        refine lv_iconst (v := 1) hx hb dL_law_417 (by decide) ?_
        refine lv_iadd hx hb dL_law_418 ?_
        refine x_eqi (y := nI (i + 1)) (nI_add i 1) ?_
        refine l_sld (i := i + 1) hx hb hX hbl hbA hS (by omega) (by omega) dL_law_419 ?_
        refine lv_aload_n hx hb dL_law_420 rfl (lv_at hl 0 rfl) ?_
        refine lv_iload_n hx hb dL_law_421 rfl (lv_at hl 3 rfl) ?_
        refine lv_iconst (v := 2) hx hb dL_law_422 (by decide) ?_
        refine lv_iadd hx hb dL_law_423 ?_
        refine x_eqi (y := nI (i + 2)) (nI_add i 2) ?_
        refine l_sld (i := i + 2) hx hb hX hbl hbA hS (by omega) (by omega) dL_law_424 ?_
        refine lv_aload_n hx hb dL_law_425 rfl (lv_at hl 0 rfl) ?_
        refine lv_iload_n hx hb dL_law_426 rfl (lv_at hl 3 rfl) ?_
        refine lv_iconst (v := 3) hx hb dL_law_427 (by decide) ?_
        refine lv_iadd hx hb dL_law_428 ?_
        refine x_eqi (y := nI (i + 3)) (nI_add i 3) ?_
        refine l_sld (i := i + 3) hx hb hX hbl hbA hS (by omega) (by omega) dL_law_429 ?_
        refine l_vi (w' := xW gx cA N (s_car N D (xs (i + 1)) (xs (i + 2)) (xs (i + 3))) R F KD KR FL SU WO ln kp rd wr ft) (g' := gx) (n' := 13) ⟨hx, hb, hml, hown, hts2⟩ (c_X3_carry l G cA tF tC gm _ N hN D R F KD KR RW OU WM ST WK CA lm kp rd wr ft (xs (i + 1)) (xs (i + 2)) (xs (i + 3))) (cwV 3 hts2 gL_law_X3_carry rfl rfl rfl (by decide +kernel) ⟨Nat.le_of_ble_eq_true rfl, Nat.le_of_ble_eq_true rfl⟩) hK hPm hDm hP hD hdj2 hgm hS hT 0 3 rfl rfl rfl hl.1 rfl (Nat.le_of_ble_eq_true rfl) dL_law_430 ⟨Nat.le_of_ble_eq_true rfl, Nat.le_of_ble_eq_true rfl⟩ (fun r_20 u H locs hp hPm hDm hP hS => ?_)
        obtain ⟨CA1, rfl⟩ : ∃ z, z = u := ⟨_, rfl⟩
        have hP : va_P G vwCl (xW gx cA N (s_car N D (xs (i + 1)) (xs (i + 2)) (xs (i + 3))) R F KD KR FL SU WO ln kp rd wr ft) H := hP
        have hD : va_D (gA gx 13) (xW gx cA N (s_car N D (xs (i + 1)) (xs (i + 2)) (xs (i + 3))) R F KD KR FL SU WO ln kp rd wr ft) := hD
        have hPm : va_P G vwCl (mW gm cA N (nI (siz N)) (s_car N D (xs (i + 1)) (xs (i + 2)) (xs (i + 3))) R F KD KR RW OU WM ST WK CA1 lm kp rd wr ft) H := hPm
        have hDm : va_D (gA gm 14) (mW gm cA N (nI (siz N)) (s_car N D (xs (i + 1)) (xs (i + 2)) (xs (i + 3))) R F KD KR RW OU WM ST WK CA1 lm kp rd wr ft) := hDm
        have hp : r_20 = a_car N (xs (i + 1)) (xs (i + 2)) (xs (i + 3)) := hp
        subst hp
        refine lv_icmp_eq (tgt := 717) hx hb dL_law_433 (by decide) (fun _ => ?_) (fun c_q => absurd rfl c_q)
        refine lv_iinc (v := nI (i + 4)) (lv' := [(3, .int (nI (i + 4))), (0, .ref b), (1, .ref (gx 0)), (2, .ref (gm 0))]) hx hb dL_law_717 hl (k := 3) rfl (nI_add _ 4) (by decide) rfl (fun ls hl => ?_)
        refine lv_goto (tgt := 28) hx hb dL_law_720 (by decide) ?_
        exact ih_28 (i + 4) (s_car N D (xs (i + 1)) (xs (i + 2)) (xs (i + 3))) R F KD KR FL SU WO RW OU WM ST WK CA1 ln kp rd wr ft lm (by omega) (by omega) _ _ _ hP hD hPm hDm hS (lv_sub hl [1, 2, 3, 0] rfl)
      · skip
        subst h4
        refine lv_tableIn (off := 396) (tgt := 438) hx hb dL_law_42 (by decide) (by decide) (by decide) (by decide) ?_
        refine lv_aload_n hx hb dL_law_438 rfl (lv_at hl 1 rfl) ?_
        refine lv_aload_n hx hb dL_law_439 rfl (lv_at hl 0 rfl) ?_
        refine lv_iload_n hx hb dL_law_440 rfl (lv_at hl 3 rfl) ?_
        refine lv_iconst (v := 1) hx hb dL_law_441 (by decide) ?_
        refine lv_iadd hx hb dL_law_442 ?_
        refine x_eqi (y := nI (i + 1)) (nI_add i 1) ?_
        refine l_sld (i := i + 1) hx hb hX hbl hbA hS (by omega) (by omega) dL_law_443 ?_
        refine l_vi (w' := mW gm cA N (nI (siz N)) D R F KD KR RW OU WM ST WK CA lm kp rd wr ft) (g' := gm) (n' := 14) ⟨hx, hb, hml, hown, hts2⟩ (c_X2_root l G cA tF tC gx _ N hN D R F KD KR FL SU WO ln kp rd wr ft (xs (i + 1))) (cwV 1 hts2 gL_law_X2_root rfl rfl rfl (by decide +kernel) ⟨Nat.le_of_ble_eq_true rfl, Nat.le_of_ble_eq_true rfl⟩) hK hP hD hPm hDm hdj hgx hS hT 0 2 rfl rfl rfl hl.1 rfl (Nat.le_of_ble_eq_true rfl) dL_law_444 ⟨Nat.le_of_ble_eq_true rfl, Nat.le_of_ble_eq_true rfl⟩ (fun r_21 u H locs hp hP hD hPm hS => ?_)
        have hP : va_P G vwCl (xW gx cA N D R F KD KR FL SU WO ln kp rd wr ft) H := hP
        have hD : va_D (gA gx 13) (xW gx cA N D R F KD KR FL SU WO ln kp rd wr ft) := hD
        have hPm : va_P G vwCl (mW gm cA N (nI (siz N)) D R F KD KR RW OU WM ST WK CA lm kp rd wr ft) H := hPm
        have hDm : va_D (gA gm 14) (mW gm cA N (nI (siz N)) D R F KD KR RW OU WM ST WK CA lm kp rd wr ft) := hDm
        have hp : r_21 = a_at R 32 (xs (i + 1)) := hp
        subst hp
        refine lv_aload_n hx hb dL_law_447 rfl (lv_at hl 2 rfl) ?_
        refine lv_aload_n hx hb dL_law_448 rfl (lv_at hl 0 rfl) ?_
        refine lv_iload_n hx hb dL_law_449 rfl (lv_at hl 3 rfl) ?_
        refine lv_iconst (v := 1) hx hb dL_law_450 (by decide) ?_
        refine lv_iadd hx hb dL_law_451 ?_
        refine x_eqi (y := nI (i + 1)) (nI_add i 1) ?_
        refine l_sld (i := i + 1) hx hb hX hbl hbA hS (by omega) (by omega) dL_law_452 ?_
        refine l_vi (w' := xW gx cA N D R F KD KR FL SU WO ln kp rd wr ft) (g' := gx) (n' := 13) ⟨hx, hb, hml, hown, hts2⟩ (c_X3_root l G cA tF tC gm _ N hN D R F KD KR RW OU WM ST WK CA lm kp rd wr ft (xs (i + 1))) (cwV 1 hts2 gL_law_X3_root rfl rfl rfl (by decide +kernel) ⟨Nat.le_of_ble_eq_true rfl, Nat.le_of_ble_eq_true rfl⟩) hK hPm hDm hP hD hdj2 hgm hS hT 0 3 rfl rfl rfl hl.1 rfl (Nat.le_of_ble_eq_true rfl) dL_law_453 ⟨Nat.le_of_ble_eq_true rfl, Nat.le_of_ble_eq_true rfl⟩ (fun r_22 u H locs hp hPm hDm hP hS => ?_)
        have hP : va_P G vwCl (xW gx cA N D R F KD KR FL SU WO ln kp rd wr ft) H := hP
        have hD : va_D (gA gx 13) (xW gx cA N D R F KD KR FL SU WO ln kp rd wr ft) := hD
        have hPm : va_P G vwCl (mW gm cA N (nI (siz N)) D R F KD KR RW OU WM ST WK CA lm kp rd wr ft) H := hPm
        have hDm : va_D (gA gm 14) (mW gm cA N (nI (siz N)) D R F KD KR RW OU WM ST WK CA lm kp rd wr ft) := hDm
        have hp : r_22 = a_at R 32 (xs (i + 1)) := hp
        subst hp
        refine lv_icmp_eq (tgt := 717) hx hb dL_law_456 (by decide) (fun _ => ?_) (fun c_q => absurd rfl c_q)
        refine lv_iinc (v := nI (i + 4)) (lv' := [(3, .int (nI (i + 4))), (0, .ref b), (1, .ref (gx 0)), (2, .ref (gm 0))]) hx hb dL_law_717 hl (k := 3) rfl (nI_add _ 4) (by decide) rfl (fun ls hl => ?_)
        refine lv_goto (tgt := 28) hx hb dL_law_720 (by decide) ?_
        exact ih_28 (i + 4) D R F KD KR FL SU WO RW OU WM ST WK CA ln kp rd wr ft lm (by omega) (by omega) _ _ _ hP hD hPm hDm hS (lv_sub hl [1, 2, 3, 0] rfl)
      · skip
        subst h4
        refine lv_tableIn (off := 419) (tgt := 461) hx hb dL_law_42 (by decide) (by decide) (by decide) (by decide) ?_
        refine lv_aload_n hx hb dL_law_461 rfl (lv_at hl 1 rfl) ?_
        refine lv_aload_n hx hb dL_law_462 rfl (lv_at hl 0 rfl) ?_
        refine lv_iload_n hx hb dL_law_463 rfl (lv_at hl 3 rfl) ?_
        refine lv_iconst (v := 1) hx hb dL_law_464 (by decide) ?_
        refine lv_iadd hx hb dL_law_465 ?_
        refine x_eqi (y := nI (i + 1)) (nI_add i 1) ?_
        refine l_sld (i := i + 1) hx hb hX hbl hbA hS (by omega) (by omega) dL_law_466 ?_
        refine l_vi (w' := mW gm cA N (nI (siz N)) D R F KD KR RW OU WM ST WK CA lm kp rd wr ft) (g' := gm) (n' := 14) ⟨hx, hb, hml, hown, hts2⟩ (c_X2_fault l G cA tF tC gx _ N hN D R F KD KR FL SU WO ln kp rd wr ft (xs (i + 1))) (cwV 1 hts2 gL_law_X2_fault rfl rfl rfl (by decide +kernel) ⟨Nat.le_of_ble_eq_true rfl, Nat.le_of_ble_eq_true rfl⟩) hK hP hD hPm hDm hdj hgx hS hT 0 2 rfl rfl rfl hl.1 rfl (Nat.le_of_ble_eq_true rfl) dL_law_467 ⟨Nat.le_of_ble_eq_true rfl, Nat.le_of_ble_eq_true rfl⟩ (fun r_23 u H locs hp hP hD hPm hS => ?_)
        obtain ⟨SU1, WO1, ln1⟩ := u
        have hP : va_P G vwCl (xW gx cA N D R F KD KR FL SU1 WO1 ln1 kp rd wr ft) H := hP
        have hD : va_D (gA gx 13) (xW gx cA N D R F KD KR FL SU1 WO1 ln1 kp rd wr ft) := hD
        have hPm : va_P G vwCl (mW gm cA N (nI (siz N)) D R F KD KR RW OU WM ST WK CA lm kp rd wr ft) H := hPm
        have hDm : va_D (gA gm 14) (mW gm cA N (nI (siz N)) D R F KD KR RW OU WM ST WK CA lm kp rd wr ft) := hDm
        have hp : r_23 = a_flt N D R (xs (i + 1)) := hp
        subst hp
        refine lv_aload_n hx hb dL_law_470 rfl (lv_at hl 2 rfl) ?_
        refine lv_aload_n hx hb dL_law_471 rfl (lv_at hl 0 rfl) ?_
        refine lv_iload_n hx hb dL_law_472 rfl (lv_at hl 3 rfl) ?_
        refine lv_iconst (v := 1) hx hb dL_law_473 (by decide) ?_
        refine lv_iadd hx hb dL_law_474 ?_
        refine x_eqi (y := nI (i + 1)) (nI_add i 1) ?_
        refine l_sld (i := i + 1) hx hb hX hbl hbA hS (by omega) (by omega) dL_law_475 ?_
        refine l_vi (w' := xW gx cA N D R F KD KR FL SU1 WO1 ln1 kp rd wr ft) (g' := gx) (n' := 13) ⟨hx, hb, hml, hown, hts2⟩ (c_X3_fault l G cA tF tC gm _ N hN D R F KD KR RW OU WM ST WK CA lm kp rd wr ft (xs (i + 1))) (cwV 1 hts2 gL_law_X3_fault rfl rfl rfl (by decide +kernel) ⟨Nat.le_of_ble_eq_true rfl, Nat.le_of_ble_eq_true rfl⟩) hK hPm hDm hP hD hdj2 hgm hS hT 0 3 rfl rfl rfl hl.1 rfl (Nat.le_of_ble_eq_true rfl) dL_law_476 ⟨Nat.le_of_ble_eq_true rfl, Nat.le_of_ble_eq_true rfl⟩ (fun r_24 u H locs hp hPm hDm hP hS => ?_)
        obtain ⟨RW1, OU1, WM1, ST1, WK1, lm1⟩ := u
        have hP : va_P G vwCl (xW gx cA N D R F KD KR FL SU1 WO1 ln1 kp rd wr ft) H := hP
        have hD : va_D (gA gx 13) (xW gx cA N D R F KD KR FL SU1 WO1 ln1 kp rd wr ft) := hD
        have hPm : va_P G vwCl (mW gm cA N (nI (siz N)) D R F KD KR RW1 OU1 WM1 ST1 WK1 CA lm1 kp rd wr ft) H := hPm
        have hDm : va_D (gA gm 14) (mW gm cA N (nI (siz N)) D R F KD KR RW1 OU1 WM1 ST1 WK1 CA lm1 kp rd wr ft) := hDm
        have hp : r_24 = a_flt N D R (xs (i + 1)) := hp
        subst hp
        refine lv_icmp_eq (tgt := 717) hx hb dL_law_479 (by decide) (fun _ => ?_) (fun c_q => absurd rfl c_q)
        refine lv_iinc (v := nI (i + 4)) (lv' := [(3, .int (nI (i + 4))), (0, .ref b), (1, .ref (gx 0)), (2, .ref (gm 0))]) hx hb dL_law_717 hl (k := 3) rfl (nI_add _ 4) (by decide) rfl (fun ls hl => ?_)
        refine lv_goto (tgt := 28) hx hb dL_law_720 (by decide) ?_
        exact ih_28 (i + 4) D R F KD KR FL SU1 WO1 RW1 OU1 WM1 ST1 WK1 CA ln1 kp rd wr ft lm1 (by omega) (by omega) _ _ _ hP hD hPm hDm hS (lv_sub hl [1, 2, 3, 0] rfl)
      · skip
        subst h4
        refine lv_tableIn (off := 442) (tgt := 484) hx hb dL_law_42 (by decide) (by decide) (by decide) (by decide) ?_
        refine lv_aload_n hx hb dL_law_484 rfl (lv_at hl 1 rfl) ?_
        refine l_vi (w' := mW gm cA N (nI (siz N)) D R F KD KR RW OU WM ST WK CA lm kp rd wr ft) (g' := gm) (n' := 14) ⟨hx, hb, hml, hown, hts2⟩ (c_X2_held l G cA tF tC gx _ N hN D R F KD KR FL SU WO ln kp rd wr ft ) (cwV 0 hts2 gL_law_X2_held rfl rfl rfl (by decide +kernel) ⟨Nat.le_of_ble_eq_true rfl, Nat.le_of_ble_eq_true rfl⟩) hK hP hD hPm hDm hdj hgx hS hT 0 2 rfl rfl rfl hl.1 rfl (Nat.le_of_ble_eq_true rfl) dL_law_485 ⟨Nat.le_of_ble_eq_true rfl, Nat.le_of_ble_eq_true rfl⟩ (fun r_25 u H locs hp hP hD hPm hS => ?_)
        obtain ⟨FL1, SU1, WO1, ln1⟩ := u
        have hP : va_P G vwCl (xW gx cA N D R F KD KR FL1 SU1 WO1 ln1 kp rd wr ft) H := hP
        have hD : va_D (gA gx 13) (xW gx cA N D R F KD KR FL1 SU1 WO1 ln1 kp rd wr ft) := hD
        have hPm : va_P G vwCl (mW gm cA N (nI (siz N)) D R F KD KR RW OU WM ST WK CA lm kp rd wr ft) H := hPm
        have hDm : va_D (gA gm 14) (mW gm cA N (nI (siz N)) D R F KD KR RW OU WM ST WK CA lm kp rd wr ft) := hDm
        have hp : r_25 = nI (heldN N D R N) := hp
        subst hp
        refine lv_aload_n hx hb dL_law_488 rfl (lv_at hl 2 rfl) ?_
        refine l_vi (w' := xW gx cA N D R F KD KR FL1 SU1 WO1 ln1 kp rd wr ft) (g' := gx) (n' := 13) ⟨hx, hb, hml, hown, hts2⟩ (c_X3_held l G cA tF tC gm _ N hN D R F KD KR RW OU WM ST WK CA lm kp rd wr ft ) (cwV 0 hts2 gL_law_X3_held rfl rfl rfl (by decide +kernel) ⟨Nat.le_of_ble_eq_true rfl, Nat.le_of_ble_eq_true rfl⟩) hK hPm hDm hP hD hdj2 hgm hS hT 0 3 rfl rfl rfl hl.1 rfl (Nat.le_of_ble_eq_true rfl) dL_law_489 ⟨Nat.le_of_ble_eq_true rfl, Nat.le_of_ble_eq_true rfl⟩ (fun r_26 u H locs hp hPm hDm hP hS => ?_)
        obtain ⟨RW1, OU1, WM1, ST1, WK1, lm1⟩ := u
        have hP : va_P G vwCl (xW gx cA N D R F KD KR FL1 SU1 WO1 ln1 kp rd wr ft) H := hP
        have hD : va_D (gA gx 13) (xW gx cA N D R F KD KR FL1 SU1 WO1 ln1 kp rd wr ft) := hD
        have hPm : va_P G vwCl (mW gm cA N (nI (siz N)) D R F KD KR RW1 OU1 WM1 ST1 WK1 CA lm1 kp rd wr ft) H := hPm
        have hDm : va_D (gA gm 14) (mW gm cA N (nI (siz N)) D R F KD KR RW1 OU1 WM1 ST1 WK1 CA lm1 kp rd wr ft) := hDm
        have hp : r_26 = nI (heldN N D R N) := hp
        subst hp
        refine lv_icmp_eq (tgt := 717) hx hb dL_law_492 (by decide) (fun _ => ?_) (fun c_q => absurd rfl c_q)
        refine lv_iinc (v := nI (i + 4)) (lv' := [(3, .int (nI (i + 4))), (0, .ref b), (1, .ref (gx 0)), (2, .ref (gm 0))]) hx hb dL_law_717 hl (k := 3) rfl (nI_add _ 4) (by decide) rfl (fun ls hl => ?_)
        refine lv_goto (tgt := 28) hx hb dL_law_720 (by decide) ?_
        exact ih_28 (i + 4) D R F KD KR FL1 SU1 WO1 RW1 OU1 WM1 ST1 WK1 CA ln1 kp rd wr ft lm1 (by omega) (by omega) _ _ _ hP hD hPm hDm hS (lv_sub hl [1, 2, 3, 0] rfl)
      · skip
        subst h4
        refine lv_tableIn (off := 455) (tgt := 497) hx hb dL_law_42 (by decide) (by decide) (by decide) (by decide) ?_
        refine lv_aload_n hx hb dL_law_497 rfl (lv_at hl 1 rfl) ?_
        refine l_vi (w' := mW gm cA N (nI (siz N)) D R F KD KR RW OU WM ST WK CA lm kp rd wr ft) (g' := gm) (n' := 14) ⟨hx, hb, hml, hown, hts2⟩ (c_X2_first l G cA tF tC gx _ N hN D R F KD KR FL SU WO ln kp rd wr ft ) (cwV 0 hts2 gL_law_X2_first rfl rfl rfl (by decide +kernel) ⟨Nat.le_of_ble_eq_true rfl, Nat.le_of_ble_eq_true rfl⟩) hK hP hD hPm hDm hdj hgx hS hT 0 2 rfl rfl rfl hl.1 rfl (Nat.le_of_ble_eq_true rfl) dL_law_498 ⟨Nat.le_of_ble_eq_true rfl, Nat.le_of_ble_eq_true rfl⟩ (fun r_27 u H locs hp hP hD hPm hS => ?_)
        obtain ⟨FL1, SU1, WO1, ln1⟩ := u
        have hP : va_P G vwCl (xW gx cA N D R F KD KR FL1 SU1 WO1 ln1 kp rd wr ft) H := hP
        have hD : va_D (gA gx 13) (xW gx cA N D R F KD KR FL1 SU1 WO1 ln1 kp rd wr ft) := hD
        have hPm : va_P G vwCl (mW gm cA N (nI (siz N)) D R F KD KR RW OU WM ST WK CA lm kp rd wr ft) H := hPm
        have hDm : va_D (gA gm 14) (mW gm cA N (nI (siz N)) D R F KD KR RW OU WM ST WK CA lm kp rd wr ft) := hDm
        have hp : r_27 = fstN N D R N 0 := hp
        subst hp
        refine lv_aload_n hx hb dL_law_501 rfl (lv_at hl 2 rfl) ?_
        refine l_vi (w' := xW gx cA N D R F KD KR FL1 SU1 WO1 ln1 kp rd wr ft) (g' := gx) (n' := 13) ⟨hx, hb, hml, hown, hts2⟩ (c_X3_first l G cA tF tC gm _ N hN D R F KD KR RW OU WM ST WK CA lm kp rd wr ft ) (cwV 0 hts2 gL_law_X3_first rfl rfl rfl (by decide +kernel) ⟨Nat.le_of_ble_eq_true rfl, Nat.le_of_ble_eq_true rfl⟩) hK hPm hDm hP hD hdj2 hgm hS hT 0 3 rfl rfl rfl hl.1 rfl (Nat.le_of_ble_eq_true rfl) dL_law_502 ⟨Nat.le_of_ble_eq_true rfl, Nat.le_of_ble_eq_true rfl⟩ (fun r_28 u H locs hp hPm hDm hP hS => ?_)
        obtain ⟨RW1, OU1, WM1, ST1, WK1, lm1⟩ := u
        have hP : va_P G vwCl (xW gx cA N D R F KD KR FL1 SU1 WO1 ln1 kp rd wr ft) H := hP
        have hD : va_D (gA gx 13) (xW gx cA N D R F KD KR FL1 SU1 WO1 ln1 kp rd wr ft) := hD
        have hPm : va_P G vwCl (mW gm cA N (nI (siz N)) D R F KD KR RW1 OU1 WM1 ST1 WK1 CA lm1 kp rd wr ft) H := hPm
        have hDm : va_D (gA gm 14) (mW gm cA N (nI (siz N)) D R F KD KR RW1 OU1 WM1 ST1 WK1 CA lm1 kp rd wr ft) := hDm
        have hp : r_28 = fstN N D R N 0 := hp
        subst hp
        refine lv_icmp_eq (tgt := 717) hx hb dL_law_505 (by decide) (fun _ => ?_) (fun c_q => absurd rfl c_q)
        refine lv_iinc (v := nI (i + 4)) (lv' := [(3, .int (nI (i + 4))), (0, .ref b), (1, .ref (gx 0)), (2, .ref (gm 0))]) hx hb dL_law_717 hl (k := 3) rfl (nI_add _ 4) (by decide) rfl (fun ls hl => ?_)
        refine lv_goto (tgt := 28) hx hb dL_law_720 (by decide) ?_
        exact ih_28 (i + 4) D R F KD KR FL1 SU1 WO1 RW1 OU1 WM1 ST1 WK1 CA ln1 kp rd wr ft lm1 (by omega) (by omega) _ _ _ hP hD hPm hDm hS (lv_sub hl [1, 2, 3, 0] rfl)
      · skip
        subst h4
        refine lv_tableIn (off := 468) (tgt := 510) hx hb dL_law_42 (by decide) (by decide) (by decide) (by decide) ?_
        refine lv_aload_n hx hb dL_law_510 rfl (lv_at hl 1 rfl) ?_
        refine l_vi (w' := mW gm cA N (nI (siz N)) D R F KD KR RW OU WM ST WK CA lm kp rd wr ft) (g' := gm) (n' := 14) ⟨hx, hb, hml, hown, hts2⟩ (c_X2_levels l G cA tF tC gx _ N hN D R F KD KR FL SU WO ln kp rd wr ft ) (cwV 0 hts2 gL_law_X2_levels rfl rfl rfl (by decide +kernel) ⟨Nat.le_of_ble_eq_true rfl, Nat.le_of_ble_eq_true rfl⟩) hK hP hD hPm hDm hdj hgx hS hT 0 2 rfl rfl rfl hl.1 rfl (Nat.le_of_ble_eq_true rfl) dL_law_511 ⟨Nat.le_of_ble_eq_true rfl, Nat.le_of_ble_eq_true rfl⟩ (fun r_29 u H locs hp hP hD hPm hS => ?_)
        have hP : va_P G vwCl (xW gx cA N D R F KD KR FL SU WO ln kp rd wr ft) H := hP
        have hD : va_D (gA gx 13) (xW gx cA N D R F KD KR FL SU WO ln kp rd wr ft) := hD
        have hPm : va_P G vwCl (mW gm cA N (nI (siz N)) D R F KD KR RW OU WM ST WK CA lm kp rd wr ft) H := hPm
        have hDm : va_D (gA gm 14) (mW gm cA N (nI (siz N)) D R F KD KR RW OU WM ST WK CA lm kp rd wr ft) := hDm
        have hp : r_29 = nI (lvs N) := hp
        subst hp
        refine lv_aload_n hx hb dL_law_514 rfl (lv_at hl 2 rfl) ?_
        refine l_vi (w' := xW gx cA N D R F KD KR FL SU WO ln kp rd wr ft) (g' := gx) (n' := 13) ⟨hx, hb, hml, hown, hts2⟩ (c_X3_levels l G cA tF tC gm _ N hN D R F KD KR RW OU WM ST WK CA lm kp rd wr ft ) (cwV 0 hts2 gL_law_X3_levels rfl rfl rfl (by decide +kernel) ⟨Nat.le_of_ble_eq_true rfl, Nat.le_of_ble_eq_true rfl⟩) hK hPm hDm hP hD hdj2 hgm hS hT 0 3 rfl rfl rfl hl.1 rfl (Nat.le_of_ble_eq_true rfl) dL_law_515 ⟨Nat.le_of_ble_eq_true rfl, Nat.le_of_ble_eq_true rfl⟩ (fun r_30 u H locs hp hPm hDm hP hS => ?_)
        have hP : va_P G vwCl (xW gx cA N D R F KD KR FL SU WO ln kp rd wr ft) H := hP
        have hD : va_D (gA gx 13) (xW gx cA N D R F KD KR FL SU WO ln kp rd wr ft) := hD
        have hPm : va_P G vwCl (mW gm cA N (nI (siz N)) D R F KD KR RW OU WM ST WK CA lm kp rd wr ft) H := hPm
        have hDm : va_D (gA gm 14) (mW gm cA N (nI (siz N)) D R F KD KR RW OU WM ST WK CA lm kp rd wr ft) := hDm
        have hp : r_30 = nI (lvs N) := hp
        subst hp
        refine lv_icmp_eq (tgt := 717) hx hb dL_law_518 (by decide) (fun _ => ?_) (fun c_q => absurd rfl c_q)
        refine lv_iinc (v := nI (i + 4)) (lv' := [(3, .int (nI (i + 4))), (0, .ref b), (1, .ref (gx 0)), (2, .ref (gm 0))]) hx hb dL_law_717 hl (k := 3) rfl (nI_add _ 4) (by decide) rfl (fun ls hl => ?_)
        refine lv_goto (tgt := 28) hx hb dL_law_720 (by decide) ?_
        exact ih_28 (i + 4) D R F KD KR FL SU WO RW OU WM ST WK CA ln kp rd wr ft lm (by omega) (by omega) _ _ _ hP hD hPm hDm hS (lv_sub hl [1, 2, 3, 0] rfl)
      · skip
        subst h4
        refine lv_tableIn (off := 481) (tgt := 523) hx hb dL_law_42 (by decide) (by decide) (by decide) (by decide) ?_
        refine lv_aload_n hx hb dL_law_523 rfl (lv_at hl 1 rfl) ?_
        refine lv_aload_n hx hb dL_law_524 rfl (lv_at hl 0 rfl) ?_
        refine lv_iload_n hx hb dL_law_525 rfl (lv_at hl 3 rfl) ?_
        refine lv_iconst (v := 1) hx hb dL_law_526 (by decide) ?_
        refine lv_iadd hx hb dL_law_527 ?_
        refine x_eqi (y := nI (i + 1)) (nI_add i 1) ?_
        refine l_sld (i := i + 1) hx hb hX hbl hbA hS (by omega) (by omega) dL_law_528 ?_
        refine lv_aload_n hx hb dL_law_529 rfl (lv_at hl 0 rfl) ?_
        refine lv_iload_n hx hb dL_law_530 rfl (lv_at hl 3 rfl) ?_
        refine lv_iconst (v := 2) hx hb dL_law_531 (by decide) ?_
        refine lv_iadd hx hb dL_law_532 ?_
        refine x_eqi (y := nI (i + 2)) (nI_add i 2) ?_
        refine l_sld (i := i + 2) hx hb hX hbl hbA hS (by omega) (by omega) dL_law_533 ?_
        refine l_vi (w' := mW gm cA N (nI (siz N)) D R F KD KR RW OU WM ST WK CA lm kp rd wr ft) (g' := gm) (n' := 14) ⟨hx, hb, hml, hown, hts2⟩ (c_X2_node l G cA tF tC gx _ N hN D R F KD KR FL SU WO ln kp rd wr ft (xs (i + 1)) (xs (i + 2))) (cwV 2 hts2 gL_law_X2_node rfl rfl rfl (by decide +kernel) ⟨Nat.le_of_ble_eq_true rfl, Nat.le_of_ble_eq_true rfl⟩) hK hP hD hPm hDm hdj hgx hS hT 0 2 rfl rfl rfl hl.1 rfl (Nat.le_of_ble_eq_true rfl) dL_law_534 ⟨Nat.le_of_ble_eq_true rfl, Nat.le_of_ble_eq_true rfl⟩ (fun r_31 u H locs hp hP hD hPm hS => ?_)
        have hP : va_P G vwCl (xW gx cA N D R F KD KR FL SU WO ln kp rd wr ft) H := hP
        have hD : va_D (gA gx 13) (xW gx cA N D R F KD KR FL SU WO ln kp rd wr ft) := hD
        have hPm : va_P G vwCl (mW gm cA N (nI (siz N)) D R F KD KR RW OU WM ST WK CA lm kp rd wr ft) H := hPm
        have hDm : va_D (gA gm 14) (mW gm cA N (nI (siz N)) D R F KD KR RW OU WM ST WK CA lm kp rd wr ft) := hDm
        have hp : r_31 = a_node N (xs (i + 1)) (xs (i + 2)) := hp
        subst hp
        refine lv_aload_n hx hb dL_law_537 rfl (lv_at hl 2 rfl) ?_
        refine lv_aload_n hx hb dL_law_538 rfl (lv_at hl 0 rfl) ?_
        refine lv_iload_n hx hb dL_law_539 rfl (lv_at hl 3 rfl) ?_
        refine lv_iconst (v := 1) hx hb dL_law_540 (by decide) ?_
        refine lv_iadd hx hb dL_law_541 ?_
        refine x_eqi (y := nI (i + 1)) (nI_add i 1) ?_
        refine l_sld (i := i + 1) hx hb hX hbl hbA hS (by omega) (by omega) dL_law_542 ?_
        refine lv_aload_n hx hb dL_law_543 rfl (lv_at hl 0 rfl) ?_
        refine lv_iload_n hx hb dL_law_544 rfl (lv_at hl 3 rfl) ?_
        refine lv_iconst (v := 2) hx hb dL_law_545 (by decide) ?_
        refine lv_iadd hx hb dL_law_546 ?_
        refine x_eqi (y := nI (i + 2)) (nI_add i 2) ?_
        refine l_sld (i := i + 2) hx hb hX hbl hbA hS (by omega) (by omega) dL_law_547 ?_
        refine l_vi (w' := xW gx cA N D R F KD KR FL SU WO ln kp rd wr ft) (g' := gx) (n' := 13) ⟨hx, hb, hml, hown, hts2⟩ (c_X3_node l G cA tF tC gm _ N hN D R F KD KR RW OU WM ST WK CA lm kp rd wr ft (xs (i + 1)) (xs (i + 2))) (cwV 2 hts2 gL_law_X3_node rfl rfl rfl (by decide +kernel) ⟨Nat.le_of_ble_eq_true rfl, Nat.le_of_ble_eq_true rfl⟩) hK hPm hDm hP hD hdj2 hgm hS hT 0 3 rfl rfl rfl hl.1 rfl (Nat.le_of_ble_eq_true rfl) dL_law_548 ⟨Nat.le_of_ble_eq_true rfl, Nat.le_of_ble_eq_true rfl⟩ (fun r_32 u H locs hp hPm hDm hP hS => ?_)
        have hP : va_P G vwCl (xW gx cA N D R F KD KR FL SU WO ln kp rd wr ft) H := hP
        have hD : va_D (gA gx 13) (xW gx cA N D R F KD KR FL SU WO ln kp rd wr ft) := hD
        have hPm : va_P G vwCl (mW gm cA N (nI (siz N)) D R F KD KR RW OU WM ST WK CA lm kp rd wr ft) H := hPm
        have hDm : va_D (gA gm 14) (mW gm cA N (nI (siz N)) D R F KD KR RW OU WM ST WK CA lm kp rd wr ft) := hDm
        have hp : r_32 = a_node N (xs (i + 1)) (xs (i + 2)) := hp
        subst hp
        refine lv_icmp_eq (tgt := 717) hx hb dL_law_551 (by decide) (fun _ => ?_) (fun c_q => absurd rfl c_q)
        refine lv_iinc (v := nI (i + 4)) (lv' := [(3, .int (nI (i + 4))), (0, .ref b), (1, .ref (gx 0)), (2, .ref (gm 0))]) hx hb dL_law_717 hl (k := 3) rfl (nI_add _ 4) (by decide) rfl (fun ls hl => ?_)
        refine lv_goto (tgt := 28) hx hb dL_law_720 (by decide) ?_
        exact ih_28 (i + 4) D R F KD KR FL SU WO RW OU WM ST WK CA ln kp rd wr ft lm (by omega) (by omega) _ _ _ hP hD hPm hDm hS (lv_sub hl [1, 2, 3, 0] rfl)
      · skip
        subst h4
        refine lv_tableIn (off := 514) (tgt := 556) hx hb dL_law_42 (by decide) (by decide) (by decide) (by decide) ?_
        refine lv_aload_n hx hb dL_law_556 rfl (lv_at hl 1 rfl) ?_
        refine lv_aload_n hx hb dL_law_557 rfl (lv_at hl 0 rfl) ?_
        refine lv_iload_n hx hb dL_law_558 rfl (lv_at hl 3 rfl) ?_
        refine lv_iconst (v := 1) hx hb dL_law_559 (by decide) ?_
        refine lv_iadd hx hb dL_law_560 ?_
        refine x_eqi (y := nI (i + 1)) (nI_add i 1) ?_
        refine l_sld (i := i + 1) hx hb hX hbl hbA hS (by omega) (by omega) dL_law_561 ?_
        refine l_vi (w' := mW gm cA N (nI (siz N)) D R F KD KR RW OU WM ST WK CA lm kp rd wr ft) (g' := gm) (n' := 14) ⟨hx, hb, hml, hown, hts2⟩ (c_X2_proof l G cA tF tC gx _ N hN D R F KD KR FL SU WO ln kp rd wr ft (xs (i + 1))) (cwV 1 hts2 gL_law_X2_proof rfl rfl rfl (by decide +kernel) ⟨Nat.le_of_ble_eq_true rfl, Nat.le_of_ble_eq_true rfl⟩) hK hP hD hPm hDm hdj hgx hS hT 0 2 rfl rfl rfl hl.1 rfl (Nat.le_of_ble_eq_true rfl) dL_law_562 ⟨Nat.le_of_ble_eq_true rfl, Nat.le_of_ble_eq_true rfl⟩ (fun r_33 u H locs hp hP hD hPm hS => ?_)
        have hP : va_P G vwCl (xW gx cA N D R F KD KR FL SU WO ln kp rd wr ft) H := hP
        have hD : va_D (gA gx 13) (xW gx cA N D R F KD KR FL SU WO ln kp rd wr ft) := hD
        have hPm : va_P G vwCl (mW gm cA N (nI (siz N)) D R F KD KR RW OU WM ST WK CA lm kp rd wr ft) H := hPm
        have hDm : va_D (gA gm 14) (mW gm cA N (nI (siz N)) D R F KD KR RW OU WM ST WK CA lm kp rd wr ft) := hDm
        have hp : r_33 = a_prf N (xs (i + 1)) := hp
        subst hp
        refine lv_aload_n hx hb dL_law_565 rfl (lv_at hl 2 rfl) ?_
        refine lv_aload_n hx hb dL_law_566 rfl (lv_at hl 0 rfl) ?_
        refine lv_iload_n hx hb dL_law_567 rfl (lv_at hl 3 rfl) ?_
        refine lv_iconst (v := 1) hx hb dL_law_568 (by decide) ?_
        refine lv_iadd hx hb dL_law_569 ?_
        refine x_eqi (y := nI (i + 1)) (nI_add i 1) ?_
        refine l_sld (i := i + 1) hx hb hX hbl hbA hS (by omega) (by omega) dL_law_570 ?_
        refine l_vi (w' := xW gx cA N D R F KD KR FL SU WO ln kp rd wr ft) (g' := gx) (n' := 13) ⟨hx, hb, hml, hown, hts2⟩ (c_X3_proof l G cA tF tC gm _ N hN D R F KD KR RW OU WM ST WK CA lm kp rd wr ft (xs (i + 1))) (cwV 1 hts2 gL_law_X3_proof rfl rfl rfl (by decide +kernel) ⟨Nat.le_of_ble_eq_true rfl, Nat.le_of_ble_eq_true rfl⟩) hK hPm hDm hP hD hdj2 hgm hS hT 0 3 rfl rfl rfl hl.1 rfl (Nat.le_of_ble_eq_true rfl) dL_law_571 ⟨Nat.le_of_ble_eq_true rfl, Nat.le_of_ble_eq_true rfl⟩ (fun r_34 u H locs hp hPm hDm hP hS => ?_)
        have hP : va_P G vwCl (xW gx cA N D R F KD KR FL SU WO ln kp rd wr ft) H := hP
        have hD : va_D (gA gx 13) (xW gx cA N D R F KD KR FL SU WO ln kp rd wr ft) := hD
        have hPm : va_P G vwCl (mW gm cA N (nI (siz N)) D R F KD KR RW OU WM ST WK CA lm kp rd wr ft) H := hPm
        have hDm : va_D (gA gm 14) (mW gm cA N (nI (siz N)) D R F KD KR RW OU WM ST WK CA lm kp rd wr ft) := hDm
        have hp : r_34 = a_prf N (xs (i + 1)) := hp
        subst hp
        refine lv_icmp_eq (tgt := 717) hx hb dL_law_574 (by decide) (fun _ => ?_) (fun c_q => absurd rfl c_q)
        refine lv_iinc (v := nI (i + 4)) (lv' := [(3, .int (nI (i + 4))), (0, .ref b), (1, .ref (gx 0)), (2, .ref (gm 0))]) hx hb dL_law_717 hl (k := 3) rfl (nI_add _ 4) (by decide) rfl (fun ls hl => ?_)
        refine lv_goto (tgt := 28) hx hb dL_law_720 (by decide) ?_
        exact ih_28 (i + 4) D R F KD KR FL SU WO RW OU WM ST WK CA ln kp rd wr ft lm (by omega) (by omega) _ _ _ hP hD hPm hDm hS (lv_sub hl [1, 2, 3, 0] rfl)
      · skip
        subst h4
        refine lv_tableIn (off := 537) (tgt := 579) hx hb dL_law_42 (by decide) (by decide) (by decide) (by decide) ?_
        refine lv_aload_n hx hb dL_law_579 rfl (lv_at hl 1 rfl) ?_
        refine lv_aload_n hx hb dL_law_580 rfl (lv_at hl 0 rfl) ?_
        refine lv_iload_n hx hb dL_law_581 rfl (lv_at hl 3 rfl) ?_
        refine lv_iconst (v := 1) hx hb dL_law_582 (by decide) ?_
        refine lv_iadd hx hb dL_law_583 ?_
        refine x_eqi (y := nI (i + 1)) (nI_add i 1) ?_
        refine l_sld (i := i + 1) hx hb hX hbl hbA hS (by omega) (by omega) dL_law_584 ?_
        refine lv_aload_n hx hb dL_law_585 rfl (lv_at hl 0 rfl) ?_
        refine lv_iload_n hx hb dL_law_586 rfl (lv_at hl 3 rfl) ?_
        refine lv_iconst (v := 2) hx hb dL_law_587 (by decide) ?_
        refine lv_iadd hx hb dL_law_588 ?_
        refine x_eqi (y := nI (i + 2)) (nI_add i 2) ?_
        refine l_sld (i := i + 2) hx hb hX hbl hbA hS (by omega) (by omega) dL_law_589 ?_
        refine lv_aload_n hx hb dL_law_590 rfl (lv_at hl 0 rfl) ?_
        refine lv_iload_n hx hb dL_law_591 rfl (lv_at hl 3 rfl) ?_
        refine lv_iconst (v := 3) hx hb dL_law_592 (by decide) ?_
        refine lv_iadd hx hb dL_law_593 ?_
        refine x_eqi (y := nI (i + 3)) (nI_add i 3) ?_
        refine l_sld (i := i + 3) hx hb hX hbl hbA hS (by omega) (by omega) dL_law_594 ?_
        refine l_vi (w' := mW gm cA N (nI (siz N)) D R F KD KR RW OU WM ST WK CA lm kp rd wr ft) (g' := gm) (n' := 14) ⟨hx, hb, hml, hown, hts2⟩ (c_X2_beside l G cA tF tC gx _ N hN D R F KD KR FL SU WO ln kp rd wr ft (xs (i + 1)) (xs (i + 2)) (xs (i + 3))) (cwV 3 hts2 gL_law_X2_beside rfl rfl rfl (by decide +kernel) ⟨Nat.le_of_ble_eq_true rfl, Nat.le_of_ble_eq_true rfl⟩) hK hP hD hPm hDm hdj hgx hS hT 0 2 rfl rfl rfl hl.1 rfl (Nat.le_of_ble_eq_true rfl) dL_law_595 ⟨Nat.le_of_ble_eq_true rfl, Nat.le_of_ble_eq_true rfl⟩ (fun r_35 u H locs hp hP hD hPm hS => ?_)
        have hP : va_P G vwCl (xW gx cA N D R F KD KR FL SU WO ln kp rd wr ft) H := hP
        have hD : va_D (gA gx 13) (xW gx cA N D R F KD KR FL SU WO ln kp rd wr ft) := hD
        have hPm : va_P G vwCl (mW gm cA N (nI (siz N)) D R F KD KR RW OU WM ST WK CA lm kp rd wr ft) H := hPm
        have hDm : va_D (gA gm 14) (mW gm cA N (nI (siz N)) D R F KD KR RW OU WM ST WK CA lm kp rd wr ft) := hDm
        have hp : r_35 = a_bes N D (xs (i + 1)) (xs (i + 2)) (xs (i + 3)) := hp
        subst hp
        refine lv_aload_n hx hb dL_law_598 rfl (lv_at hl 2 rfl) ?_
        refine lv_aload_n hx hb dL_law_599 rfl (lv_at hl 0 rfl) ?_
        refine lv_iload_n hx hb dL_law_600 rfl (lv_at hl 3 rfl) ?_
        refine lv_iconst (v := 1) hx hb dL_law_601 (by decide) ?_
        refine lv_iadd hx hb dL_law_602 ?_
        refine x_eqi (y := nI (i + 1)) (nI_add i 1) ?_
        refine l_sld (i := i + 1) hx hb hX hbl hbA hS (by omega) (by omega) dL_law_603 ?_
        refine lv_aload_n hx hb dL_law_604 rfl (lv_at hl 0 rfl) ?_
        refine lv_iload_n hx hb dL_law_605 rfl (lv_at hl 3 rfl) ?_
        refine lv_iconst (v := 2) hx hb dL_law_606 (by decide) ?_
        refine lv_iadd hx hb dL_law_607 ?_
        refine x_eqi (y := nI (i + 2)) (nI_add i 2) ?_
        refine l_sld (i := i + 2) hx hb hX hbl hbA hS (by omega) (by omega) dL_law_608 ?_
        refine lv_aload_n hx hb dL_law_609 rfl (lv_at hl 0 rfl) ?_
        refine lv_iload_n hx hb dL_law_610 rfl (lv_at hl 3 rfl) ?_
        refine lv_iconst (v := 3) hx hb dL_law_611 (by decide) ?_
        refine lv_iadd hx hb dL_law_612 ?_
        refine x_eqi (y := nI (i + 3)) (nI_add i 3) ?_
        refine l_sld (i := i + 3) hx hb hX hbl hbA hS (by omega) (by omega) dL_law_613 ?_
        refine l_vi (w' := xW gx cA N D R F KD KR FL SU WO ln kp rd wr ft) (g' := gx) (n' := 13) ⟨hx, hb, hml, hown, hts2⟩ (c_X3_beside l G cA tF tC gm _ N hN D R F KD KR RW OU WM ST WK CA lm kp rd wr ft (xs (i + 1)) (xs (i + 2)) (xs (i + 3))) (cwV 3 hts2 gL_law_X3_beside rfl rfl rfl (by decide +kernel) ⟨Nat.le_of_ble_eq_true rfl, Nat.le_of_ble_eq_true rfl⟩) hK hPm hDm hP hD hdj2 hgm hS hT 0 3 rfl rfl rfl hl.1 rfl (Nat.le_of_ble_eq_true rfl) dL_law_614 ⟨Nat.le_of_ble_eq_true rfl, Nat.le_of_ble_eq_true rfl⟩ (fun r_36 u H locs hp hPm hDm hP hS => ?_)
        have hP : va_P G vwCl (xW gx cA N D R F KD KR FL SU WO ln kp rd wr ft) H := hP
        have hD : va_D (gA gx 13) (xW gx cA N D R F KD KR FL SU WO ln kp rd wr ft) := hD
        have hPm : va_P G vwCl (mW gm cA N (nI (siz N)) D R F KD KR RW OU WM ST WK CA lm kp rd wr ft) H := hPm
        have hDm : va_D (gA gm 14) (mW gm cA N (nI (siz N)) D R F KD KR RW OU WM ST WK CA lm kp rd wr ft) := hDm
        have hp : r_36 = a_bes N D (xs (i + 1)) (xs (i + 2)) (xs (i + 3)) := hp
        subst hp
        refine lv_icmp_eq (tgt := 717) hx hb dL_law_617 (by decide) (fun _ => ?_) (fun c_q => absurd rfl c_q)
        refine lv_iinc (v := nI (i + 4)) (lv' := [(3, .int (nI (i + 4))), (0, .ref b), (1, .ref (gx 0)), (2, .ref (gm 0))]) hx hb dL_law_717 hl (k := 3) rfl (nI_add _ 4) (by decide) rfl (fun ls hl => ?_)
        refine lv_goto (tgt := 28) hx hb dL_law_720 (by decide) ?_
        exact ih_28 (i + 4) D R F KD KR FL SU WO RW OU WM ST WK CA ln kp rd wr ft lm (by omega) (by omega) _ _ _ hP hD hPm hDm hS (lv_sub hl [1, 2, 3, 0] rfl)
      · skip
        subst h4
        refine lv_tableIn (off := 580) (tgt := 622) hx hb dL_law_42 (by decide) (by decide) (by decide) (by decide) ?_
        refine lv_aload_n hx hb dL_law_622 rfl (lv_at hl 1 rfl) ?_
        refine l_vi (w' := mW gm cA N (nI (siz N)) D R F KD KR RW OU WM ST WK CA lm kp rd wr ft) (g' := gm) (n' := 14) ⟨hx, hb, hml, hown, hts2⟩ (c_X2_keep l G cA tF tC gx _ N hN D R F KD KR FL SU WO ln kp rd wr ft ) (cwV 0 hts2 gL_law_X2_keep rfl rfl rfl (by decide +kernel) ⟨Nat.le_of_ble_eq_true rfl, Nat.le_of_ble_eq_true rfl⟩) hK hP hD hPm hDm hdj hgx hS hT 0 2 rfl rfl rfl hl.1 rfl (Nat.le_of_ble_eq_true rfl) dL_law_623 ⟨Nat.le_of_ble_eq_true rfl, Nat.le_of_ble_eq_true rfl⟩ (fun r_37 u H locs hp hP hD hPm hS => ?_)
        have hP : va_P G vwCl (xW gx cA N D R F (va_cpy D KD 0 0 (siz N)) (va_cpy R KR 0 0 32) FL SU WO ln 1 rd wr ft) H := hP
        have hD : va_D (gA gx 13) (xW gx cA N D R F (va_cpy D KD 0 0 (siz N)) (va_cpy R KR 0 0 32) FL SU WO ln 1 rd wr ft) := hD
        have hPm : va_P G vwCl (mW gm cA N (nI (siz N)) D R F KD KR RW OU WM ST WK CA lm kp rd wr ft) H := hPm
        have hDm : va_D (gA gm 14) (mW gm cA N (nI (siz N)) D R F KD KR RW OU WM ST WK CA lm kp rd wr ft) := hDm
        have hp : r_37 = nI (siz N) := hp
        subst hp
        refine lv_aload_n hx hb dL_law_626 rfl (lv_at hl 2 rfl) ?_
        refine l_vi (w' := xW gx cA N D R F (va_cpy D KD 0 0 (siz N)) (va_cpy R KR 0 0 32) FL SU WO ln 1 rd wr ft) (g' := gx) (n' := 13) ⟨hx, hb, hml, hown, hts2⟩ (c_X3_keep l G cA tF tC gm _ N hN D R F KD KR RW OU WM ST WK CA lm kp rd wr ft ) (cwV 0 hts2 gL_law_X3_keep rfl rfl rfl (by decide +kernel) ⟨Nat.le_of_ble_eq_true rfl, Nat.le_of_ble_eq_true rfl⟩) hK hPm hDm hP hD hdj2 hgm hS hT 0 3 rfl rfl rfl hl.1 rfl (Nat.le_of_ble_eq_true rfl) dL_law_627 ⟨Nat.le_of_ble_eq_true rfl, Nat.le_of_ble_eq_true rfl⟩ (fun r_38 u H locs hp hPm hDm hP hS => ?_)
        have hP : va_P G vwCl (xW gx cA N D R F (va_cpy D KD 0 0 (siz N)) (va_cpy R KR 0 0 32) FL SU WO ln 1 rd wr ft) H := hP
        have hD : va_D (gA gx 13) (xW gx cA N D R F (va_cpy D KD 0 0 (siz N)) (va_cpy R KR 0 0 32) FL SU WO ln 1 rd wr ft) := hD
        have hPm : va_P G vwCl (mW gm cA N (nI (siz N)) D R F (va_cpy D KD 0 0 (siz N)) (va_cpy R KR 0 0 32) RW OU WM ST WK CA lm 1 rd wr ft) H := hPm
        have hDm : va_D (gA gm 14) (mW gm cA N (nI (siz N)) D R F (va_cpy D KD 0 0 (siz N)) (va_cpy R KR 0 0 32) RW OU WM ST WK CA lm 1 rd wr ft) := hDm
        have hp : r_38 = nI (siz N) := hp
        subst hp
        refine lv_icmp_eq (tgt := 717) hx hb dL_law_630 (by decide) (fun _ => ?_) (fun c_q => absurd rfl c_q)
        refine lv_iinc (v := nI (i + 4)) (lv' := [(3, .int (nI (i + 4))), (0, .ref b), (1, .ref (gx 0)), (2, .ref (gm 0))]) hx hb dL_law_717 hl (k := 3) rfl (nI_add _ 4) (by decide) rfl (fun ls hl => ?_)
        refine lv_goto (tgt := 28) hx hb dL_law_720 (by decide) ?_
        exact ih_28 (i + 4) D R F (va_cpy D KD 0 0 (siz N)) (va_cpy R KR 0 0 32) FL SU WO RW OU WM ST WK CA ln 1 rd wr ft lm (by omega) (by omega) _ _ _ hP hD hPm hDm hS (lv_sub hl [1, 2, 3, 0] rfl)
      · skip
        subst h4
        refine lv_tableIn (off := 593) (tgt := 635) hx hb dL_law_42 (by decide) (by decide) (by decide) (by decide) ?_
        refine lv_aload_n hx hb dL_law_635 rfl (lv_at hl 1 rfl) ?_
        refine l_vi (w' := mW gm cA N (nI (siz N)) D R F KD KR RW OU WM ST WK CA lm kp rd wr ft) (g' := gm) (n' := 14) ⟨hx, hb, hml, hown, hts2⟩ (c_X2_back l G cA tF tC gx _ N hN D R F KD KR FL SU WO ln kp rd wr ft ) (cwV 0 hts2 gL_law_X2_back rfl rfl rfl (by decide +kernel) ⟨Nat.le_of_ble_eq_true rfl, Nat.le_of_ble_eq_true rfl⟩) hK hP hD hPm hDm hdj hgx hS hT 0 2 rfl rfl rfl hl.1 rfl (Nat.le_of_ble_eq_true rfl) dL_law_636 ⟨Nat.le_of_ble_eq_true rfl, Nat.le_of_ble_eq_true rfl⟩ (fun r_39 u H locs hp hP hD hPm hS => ?_)
        have hP : va_P G vwCl (xW gx cA N (s_bak N D KD kp) R F KD KR FL SU WO ln kp rd wr ft) H := hP
        have hD : va_D (gA gx 13) (xW gx cA N (s_bak N D KD kp) R F KD KR FL SU WO ln kp rd wr ft) := hD
        have hPm : va_P G vwCl (mW gm cA N (nI (siz N)) D R F KD KR RW OU WM ST WK CA lm kp rd wr ft) H := hPm
        have hDm : va_D (gA gm 14) (mW gm cA N (nI (siz N)) D R F KD KR RW OU WM ST WK CA lm kp rd wr ft) := hDm
        have hp : r_39 = a_bak N D KD kp := hp
        subst hp
        refine lv_aload_n hx hb dL_law_639 rfl (lv_at hl 2 rfl) ?_
        refine l_vi (w' := xW gx cA N (s_bak N D KD kp) R F KD KR FL SU WO ln kp rd wr ft) (g' := gx) (n' := 13) ⟨hx, hb, hml, hown, hts2⟩ (c_X3_back l G cA tF tC gm _ N hN D R F KD KR RW OU WM ST WK CA lm kp rd wr ft ) (cwV 0 hts2 gL_law_X3_back rfl rfl rfl (by decide +kernel) ⟨Nat.le_of_ble_eq_true rfl, Nat.le_of_ble_eq_true rfl⟩) hK hPm hDm hP hD hdj2 hgm hS hT 0 3 rfl rfl rfl hl.1 rfl (Nat.le_of_ble_eq_true rfl) dL_law_640 ⟨Nat.le_of_ble_eq_true rfl, Nat.le_of_ble_eq_true rfl⟩ (fun r_40 u H locs hp hPm hDm hP hS => ?_)
        have hP : va_P G vwCl (xW gx cA N (s_bak N D KD kp) R F KD KR FL SU WO ln kp rd wr ft) H := hP
        have hD : va_D (gA gx 13) (xW gx cA N (s_bak N D KD kp) R F KD KR FL SU WO ln kp rd wr ft) := hD
        have hPm : va_P G vwCl (mW gm cA N (nI (siz N)) (s_bak N D KD kp) R F KD KR RW OU WM ST WK CA lm kp rd wr ft) H := hPm
        have hDm : va_D (gA gm 14) (mW gm cA N (nI (siz N)) (s_bak N D KD kp) R F KD KR RW OU WM ST WK CA lm kp rd wr ft) := hDm
        have hp : r_40 = a_bak N D KD kp := hp
        subst hp
        refine lv_icmp_eq (tgt := 717) hx hb dL_law_643 (by decide) (fun _ => ?_) (fun c_q => absurd rfl c_q)
        refine lv_iinc (v := nI (i + 4)) (lv' := [(3, .int (nI (i + 4))), (0, .ref b), (1, .ref (gx 0)), (2, .ref (gm 0))]) hx hb dL_law_717 hl (k := 3) rfl (nI_add _ 4) (by decide) rfl (fun ls hl => ?_)
        refine lv_goto (tgt := 28) hx hb dL_law_720 (by decide) ?_
        exact ih_28 (i + 4) (s_bak N D KD kp) R F KD KR FL SU WO RW OU WM ST WK CA ln kp rd wr ft lm (by omega) (by omega) _ _ _ hP hD hPm hDm hS (lv_sub hl [1, 2, 3, 0] rfl)
      · skip
        subst h4
        refine lv_tableIn (off := 606) (tgt := 648) hx hb dL_law_42 (by decide) (by decide) (by decide) (by decide) ?_
        refine lv_aload_n hx hb dL_law_648 rfl (lv_at hl 1 rfl) ?_
        refine l_vi (w' := mW gm cA N (nI (siz N)) D R F KD KR RW OU WM ST WK CA lm kp rd wr ft) (g' := gm) (n' := 14) ⟨hx, hb, hml, hown, hts2⟩ (c_X2_open l G cA tF tC gx _ N hN D R F KD KR FL SU WO ln kp rd wr ft ) (cwV 0 hts2 gL_law_X2_open rfl rfl rfl (by decide +kernel) ⟨Nat.le_of_ble_eq_true rfl, Nat.le_of_ble_eq_true rfl⟩) hK hP hD hPm hDm hdj hgx hS hT 0 2 rfl rfl rfl hl.1 rfl (Nat.le_of_ble_eq_true rfl) dL_law_649 ⟨Nat.le_of_ble_eq_true rfl, Nat.le_of_ble_eq_true rfl⟩ (fun r_41 u H locs hp hP hD hPm hS => ?_)
        have hP : va_P G vwCl (xW gx cA N (s_bak N D KD kp) (s_opn R KR kp) F KD KR FL SU WO ln kp rd wr ft) H := hP
        have hD : va_D (gA gx 13) (xW gx cA N (s_bak N D KD kp) (s_opn R KR kp) F KD KR FL SU WO ln kp rd wr ft) := hD
        have hPm : va_P G vwCl (mW gm cA N (nI (siz N)) D R F KD KR RW OU WM ST WK CA lm kp rd wr ft) H := hPm
        have hDm : va_D (gA gm 14) (mW gm cA N (nI (siz N)) D R F KD KR RW OU WM ST WK CA lm kp rd wr ft) := hDm
        have hp : r_41 = a_bak N D KD kp := hp
        subst hp
        refine lv_aload_n hx hb dL_law_652 rfl (lv_at hl 2 rfl) ?_
        refine l_vi (w' := xW gx cA N (s_bak N D KD kp) (s_opn R KR kp) F KD KR FL SU WO ln kp rd wr ft) (g' := gx) (n' := 13) ⟨hx, hb, hml, hown, hts2⟩ (c_X3_open l G cA tF tC gm _ N hN D R F KD KR RW OU WM ST WK CA lm kp rd wr ft ) (cwV 0 hts2 gL_law_X3_open rfl rfl rfl (by decide +kernel) ⟨Nat.le_of_ble_eq_true rfl, Nat.le_of_ble_eq_true rfl⟩) hK hPm hDm hP hD hdj2 hgm hS hT 0 3 rfl rfl rfl hl.1 rfl (Nat.le_of_ble_eq_true rfl) dL_law_653 ⟨Nat.le_of_ble_eq_true rfl, Nat.le_of_ble_eq_true rfl⟩ (fun r_42 u H locs hp hPm hDm hP hS => ?_)
        have hP : va_P G vwCl (xW gx cA N (s_bak N D KD kp) (s_opn R KR kp) F KD KR FL SU WO ln kp rd wr ft) H := hP
        have hD : va_D (gA gx 13) (xW gx cA N (s_bak N D KD kp) (s_opn R KR kp) F KD KR FL SU WO ln kp rd wr ft) := hD
        have hPm : va_P G vwCl (mW gm cA N (nI (siz N)) (s_bak N D KD kp) (s_opn R KR kp) F KD KR RW OU WM ST WK CA lm kp rd wr ft) H := hPm
        have hDm : va_D (gA gm 14) (mW gm cA N (nI (siz N)) (s_bak N D KD kp) (s_opn R KR kp) F KD KR RW OU WM ST WK CA lm kp rd wr ft) := hDm
        have hp : r_42 = a_bak N D KD kp := hp
        subst hp
        refine lv_icmp_eq (tgt := 717) hx hb dL_law_656 (by decide) (fun _ => ?_) (fun c_q => absurd rfl c_q)
        refine lv_iinc (v := nI (i + 4)) (lv' := [(3, .int (nI (i + 4))), (0, .ref b), (1, .ref (gx 0)), (2, .ref (gm 0))]) hx hb dL_law_717 hl (k := 3) rfl (nI_add _ 4) (by decide) rfl (fun ls hl => ?_)
        refine lv_goto (tgt := 28) hx hb dL_law_720 (by decide) ?_
        exact ih_28 (i + 4) (s_bak N D KD kp) (s_opn R KR kp) F KD KR FL SU WO RW OU WM ST WK CA ln kp rd wr ft lm (by omega) (by omega) _ _ _ hP hD hPm hDm hS (lv_sub hl [1, 2, 3, 0] rfl)
      · skip
        subst h4
        refine lv_tableIn (off := 619) (tgt := 661) hx hb dL_law_42 (by decide) (by decide) (by decide) (by decide) ?_
        refine lv_aload_n hx hb dL_law_661 rfl (lv_at hl 1 rfl) ?_
        refine lv_aload_n hx hb dL_law_662 rfl (lv_at hl 0 rfl) ?_
        refine lv_iload_n hx hb dL_law_663 rfl (lv_at hl 3 rfl) ?_
        refine lv_iconst (v := 1) hx hb dL_law_664 (by decide) ?_
        refine lv_iadd hx hb dL_law_665 ?_
        refine x_eqi (y := nI (i + 1)) (nI_add i 1) ?_
        refine l_sld (i := i + 1) hx hb hX hbl hbA hS (by omega) (by omega) dL_law_666 ?_
        refine lv_aload_n hx hb dL_law_667 rfl (lv_at hl 0 rfl) ?_
        refine lv_iload_n hx hb dL_law_668 rfl (lv_at hl 3 rfl) ?_
        refine lv_iconst (v := 2) hx hb dL_law_669 (by decide) ?_
        refine lv_iadd hx hb dL_law_670 ?_
        refine x_eqi (y := nI (i + 2)) (nI_add i 2) ?_
        refine l_sld (i := i + 2) hx hb hX hbl hbA hS (by omega) (by omega) dL_law_671 ?_
        refine l_vi (w' := mW gm cA N (nI (siz N)) D R F KD KR RW OU WM ST WK CA lm kp rd wr ft) (g' := gm) (n' := 14) ⟨hx, hb, hml, hown, hts2⟩ (c_X2_hash l G cA tF tC gx _ N hN D R F KD KR FL SU WO ln kp rd wr ft (xs (i + 1)) (xs (i + 2))) (cwV 2 hts2 gL_law_X2_hash rfl rfl rfl (by decide +kernel) ⟨Nat.le_of_ble_eq_true rfl, Nat.le_of_ble_eq_true rfl⟩) hK hP hD hPm hDm hdj hgx hS hT 0 2 rfl rfl rfl hl.1 rfl (Nat.le_of_ble_eq_true rfl) dL_law_672 ⟨Nat.le_of_ble_eq_true rfl, Nat.le_of_ble_eq_true rfl⟩ (fun r_43 u H locs hp hP hD hPm hS => ?_)
        obtain ⟨SU1, WO1, ln1⟩ := u
        have hP : va_P G vwCl (xW gx cA N D R F KD KR FL SU1 WO1 ln1 kp rd wr ft) H := hP
        have hD : va_D (gA gx 13) (xW gx cA N D R F KD KR FL SU1 WO1 ln1 kp rd wr ft) := hD
        have hPm : va_P G vwCl (mW gm cA N (nI (siz N)) D R F KD KR RW OU WM ST WK CA lm kp rd wr ft) H := hPm
        have hDm : va_D (gA gm 14) (mW gm cA N (nI (siz N)) D R F KD KR RW OU WM ST WK CA lm kp rd wr ft) := hDm
        have hp : r_43 = a_hsh F (xs (i + 1)) (xs (i + 2)) := hp
        subst hp
        refine lv_aload_n hx hb dL_law_675 rfl (lv_at hl 2 rfl) ?_
        refine lv_aload_n hx hb dL_law_676 rfl (lv_at hl 0 rfl) ?_
        refine lv_iload_n hx hb dL_law_677 rfl (lv_at hl 3 rfl) ?_
        refine lv_iconst (v := 1) hx hb dL_law_678 (by decide) ?_
        refine lv_iadd hx hb dL_law_679 ?_
        refine x_eqi (y := nI (i + 1)) (nI_add i 1) ?_
        refine l_sld (i := i + 1) hx hb hX hbl hbA hS (by omega) (by omega) dL_law_680 ?_
        refine lv_aload_n hx hb dL_law_681 rfl (lv_at hl 0 rfl) ?_
        refine lv_iload_n hx hb dL_law_682 rfl (lv_at hl 3 rfl) ?_
        refine lv_iconst (v := 2) hx hb dL_law_683 (by decide) ?_
        refine lv_iadd hx hb dL_law_684 ?_
        refine x_eqi (y := nI (i + 2)) (nI_add i 2) ?_
        refine l_sld (i := i + 2) hx hb hX hbl hbA hS (by omega) (by omega) dL_law_685 ?_
        refine l_vi (w' := xW gx cA N D R F KD KR FL SU1 WO1 ln1 kp rd wr ft) (g' := gx) (n' := 13) ⟨hx, hb, hml, hown, hts2⟩ (c_X3_hash l G cA tF tC gm _ N hN D R F KD KR RW OU WM ST WK CA lm kp rd wr ft (xs (i + 1)) (xs (i + 2))) (cwV 2 hts2 gL_law_X3_hash rfl rfl rfl (by decide +kernel) ⟨Nat.le_of_ble_eq_true rfl, Nat.le_of_ble_eq_true rfl⟩) hK hPm hDm hP hD hdj2 hgm hS hT 0 3 rfl rfl rfl hl.1 rfl (Nat.le_of_ble_eq_true rfl) dL_law_686 ⟨Nat.le_of_ble_eq_true rfl, Nat.le_of_ble_eq_true rfl⟩ (fun r_44 u H locs hp hPm hDm hP hS => ?_)
        obtain ⟨RW1, OU1, WM1, ST1, WK1, lm1⟩ := u
        have hP : va_P G vwCl (xW gx cA N D R F KD KR FL SU1 WO1 ln1 kp rd wr ft) H := hP
        have hD : va_D (gA gx 13) (xW gx cA N D R F KD KR FL SU1 WO1 ln1 kp rd wr ft) := hD
        have hPm : va_P G vwCl (mW gm cA N (nI (siz N)) D R F KD KR RW1 OU1 WM1 ST1 WK1 CA lm1 kp rd wr ft) H := hPm
        have hDm : va_D (gA gm 14) (mW gm cA N (nI (siz N)) D R F KD KR RW1 OU1 WM1 ST1 WK1 CA lm1 kp rd wr ft) := hDm
        have hp : r_44 = a_hsh F (xs (i + 1)) (xs (i + 2)) := hp
        subst hp
        refine lv_icmp_eq (tgt := 717) hx hb dL_law_689 (by decide) (fun _ => ?_) (fun c_q => absurd rfl c_q)
        refine lv_iinc (v := nI (i + 4)) (lv' := [(3, .int (nI (i + 4))), (0, .ref b), (1, .ref (gx 0)), (2, .ref (gm 0))]) hx hb dL_law_717 hl (k := 3) rfl (nI_add _ 4) (by decide) rfl (fun ls hl => ?_)
        refine lv_goto (tgt := 28) hx hb dL_law_720 (by decide) ?_
        exact ih_28 (i + 4) D R F KD KR FL SU1 WO1 RW1 OU1 WM1 ST1 WK1 CA ln1 kp rd wr ft lm1 (by omega) (by omega) _ _ _ hP hD hPm hDm hS (lv_sub hl [1, 2, 3, 0] rfl)
      · skip
        subst h4
        refine lv_tableIn (off := 652) (tgt := 694) hx hb dL_law_42 (by decide) (by decide) (by decide) (by decide) ?_
        refine lv_aload_n hx hb dL_law_694 rfl (lv_at hl 1 rfl) ?_
        refine lv_aload_n hx hb dL_law_695 rfl (lv_at hl 0 rfl) ?_
        refine lv_iload_n hx hb dL_law_696 rfl (lv_at hl 3 rfl) ?_
        refine lv_iconst (v := 1) hx hb dL_law_697 (by decide) ?_
        refine lv_iadd hx hb dL_law_698 ?_
        refine x_eqi (y := nI (i + 1)) (nI_add i 1) ?_
        refine l_sld (i := i + 1) hx hb hX hbl hbA hS (by omega) (by omega) dL_law_699 ?_
        refine l_vi (w' := mW gm cA N (nI (siz N)) D R F KD KR RW OU WM ST WK CA lm kp rd wr ft) (g' := gm) (n' := 14) ⟨hx, hb, hml, hown, hts2⟩ (c_X2_told l G cA tF tC gx _ N hN D R F KD KR FL SU WO ln kp rd wr ft (xs (i + 1))) (cwV 1 hts2 gL_law_X2_told rfl rfl rfl (by decide +kernel) ⟨Nat.le_of_ble_eq_true rfl, Nat.le_of_ble_eq_true rfl⟩) hK hP hD hPm hDm hdj hgx hS hT 0 2 rfl rfl rfl hl.1 rfl (Nat.le_of_ble_eq_true rfl) dL_law_700 ⟨Nat.le_of_ble_eq_true rfl, Nat.le_of_ble_eq_true rfl⟩ (fun r_45 u H locs hp hP hD hPm hS => ?_)
        have hP : va_P G vwCl (xW gx cA N D R F KD KR FL SU WO ln kp rd wr ft) H := hP
        have hD : va_D (gA gx 13) (xW gx cA N D R F KD KR FL SU WO ln kp rd wr ft) := hD
        have hPm : va_P G vwCl (mW gm cA N (nI (siz N)) D R F KD KR RW OU WM ST WK CA lm kp rd wr ft) H := hPm
        have hDm : va_D (gA gm 14) (mW gm cA N (nI (siz N)) D R F KD KR RW OU WM ST WK CA lm kp rd wr ft) := hDm
        have hp : r_45 = a_told N rd wr ft (xs (i + 1)) := hp
        subst hp
        refine lv_aload_n hx hb dL_law_703 rfl (lv_at hl 2 rfl) ?_
        refine lv_aload_n hx hb dL_law_704 rfl (lv_at hl 0 rfl) ?_
        refine lv_iload_n hx hb dL_law_705 rfl (lv_at hl 3 rfl) ?_
        refine lv_iconst (v := 1) hx hb dL_law_706 (by decide) ?_
        refine lv_iadd hx hb dL_law_707 ?_
        refine x_eqi (y := nI (i + 1)) (nI_add i 1) ?_
        refine l_sld (i := i + 1) hx hb hX hbl hbA hS (by omega) (by omega) dL_law_708 ?_
        refine l_vi (w' := xW gx cA N D R F KD KR FL SU WO ln kp rd wr ft) (g' := gx) (n' := 13) ⟨hx, hb, hml, hown, hts2⟩ (c_X3_told l G cA tF tC gm _ N hN D R F KD KR RW OU WM ST WK CA lm kp rd wr ft (xs (i + 1))) (cwV 1 hts2 gL_law_X3_told rfl rfl rfl (by decide +kernel) ⟨Nat.le_of_ble_eq_true rfl, Nat.le_of_ble_eq_true rfl⟩) hK hPm hDm hP hD hdj2 hgm hS hT 0 3 rfl rfl rfl hl.1 rfl (Nat.le_of_ble_eq_true rfl) dL_law_709 ⟨Nat.le_of_ble_eq_true rfl, Nat.le_of_ble_eq_true rfl⟩ (fun r_46 u H locs hp hPm hDm hP hS => ?_)
        have hP : va_P G vwCl (xW gx cA N D R F KD KR FL SU WO ln kp rd wr ft) H := hP
        have hD : va_D (gA gx 13) (xW gx cA N D R F KD KR FL SU WO ln kp rd wr ft) := hD
        have hPm : va_P G vwCl (mW gm cA N (nI (siz N)) D R F KD KR RW OU WM ST WK CA lm kp rd wr ft) H := hPm
        have hDm : va_D (gA gm 14) (mW gm cA N (nI (siz N)) D R F KD KR RW OU WM ST WK CA lm kp rd wr ft) := hDm
        have hp : r_46 = a_told N rd wr ft (xs (i + 1)) := hp
        subst hp
        refine lv_icmp_eq (tgt := 717) hx hb dL_law_712 (by decide) (fun _ => ?_) (fun c_q => absurd rfl c_q)
        refine lv_iinc (v := nI (i + 4)) (lv' := [(3, .int (nI (i + 4))), (0, .ref b), (1, .ref (gx 0)), (2, .ref (gm 0))]) hx hb dL_law_717 hl (k := 3) rfl (nI_add _ 4) (by decide) rfl (fun ls hl => ?_)
        refine lv_goto (tgt := 28) hx hb dL_law_720 (by decide) ?_
        exact ih_28 (i + 4) D R F KD KR FL SU WO RW OU WM ST WK CA ln kp rd wr ft lm (by omega) (by omega) _ _ _ hP hD hPm hDm hS (lv_sub hl [1, 2, 3, 0] rfl)
      · skip
        refine lv_tableOut (tgt := 717) hx hb dL_law_42 (Or.inr (by rw [nI_toInt (by omega)]; omega)) (by decide) ?_
        refine lv_iinc (v := nI (i + 4)) (lv' := [(3, .int (nI (i + 4))), (0, .ref b), (1, .ref (gx 0)), (2, .ref (gm 0))]) hx hb dL_law_717 hl (k := 3) rfl (nI_add _ 4) (by decide) rfl (fun ls hl => ?_)
        refine lv_goto (tgt := 28) hx hb dL_law_720 (by decide) ?_
        exact ih_28 (i + 4) D R F KD KR FL SU WO RW OU WM ST WK CA ln kp rd wr ft lm (by omega) (by omega) _ _ _ hP hD hPm hDm hS (lv_sub hl [1, 2, 3, 0] rfl)
