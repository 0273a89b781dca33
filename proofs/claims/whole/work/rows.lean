section
-- ===== PART A: goes FIRST, ahead of the names: the tables' words, and 'selects' of the private methods out of them =====
/-- a private method of a class that the tables say can be made, by its rows of tables_1 -/
def lw_okq (q : MethodName × Nat) : Prop := (q.1.cls ≠ "java/lang/invoke/MethodHandle" ∧ q.1.cls ≠ "java/lang/invoke/VarHandle") ∧ Cond.instantiable q.1.cls q.2 ∈ tables_1 ∧ Cond.privateMethod q.1 ∈ tables_1 ∧ Cond.instanceMethod q.1 ∈ tables_1
theorem lw_p0 : lw_okq (⟨"SealedPages", "sealAll", "()V"⟩, 12) := ⟨⟨by decide +kernel, by decide +kernel⟩, List.mem_of_getElem? (i := 8) (by decide +kernel), List.mem_of_getElem? (i := 69) (by decide +kernel), List.mem_of_getElem? (i := 70) (by decide +kernel)⟩
theorem lw_p1 : lw_okq (⟨"SealedPages", "headByteAsTold", "(I)I"⟩, 12) := ⟨⟨by decide +kernel, by decide +kernel⟩, List.mem_of_getElem? (i := 8) (by decide +kernel), List.mem_of_getElem? (i := 73) (by decide +kernel), List.mem_of_getElem? (i := 74) (by decide +kernel)⟩
theorem lw_p2 : lw_okq (⟨"SealedPages", "sealNode", "(II)V"⟩, 12) := ⟨⟨by decide +kernel, by decide +kernel⟩, List.mem_of_getElem? (i := 8) (by decide +kernel), List.mem_of_getElem? (i := 77) (by decide +kernel), List.mem_of_getElem? (i := 78) (by decide +kernel)⟩
theorem lw_p3 : lw_okq (⟨"SealedPages", "hashNode", "(II)V"⟩, 12) := ⟨⟨by decide +kernel, by decide +kernel⟩, List.mem_of_getElem? (i := 8) (by decide +kernel), List.mem_of_getElem? (i := 81) (by decide +kernel), List.mem_of_getElem? (i := 82) (by decide +kernel)⟩
theorem lw_p4 : lw_okq (⟨"SealedPages$Hasher", "spreadWords", "()V"⟩, 3) := ⟨⟨by decide +kernel, by decide +kernel⟩, List.mem_of_getElem? (i := 53) (by decide +kernel), List.mem_of_getElem? (i := 98) (by decide +kernel), List.mem_of_getElem? (i := 99) (by decide +kernel)⟩
theorem lw_p5 : lw_okq (⟨"SealedPages$Hasher", "mixBlock", "()V"⟩, 3) := ⟨⟨by decide +kernel, by decide +kernel⟩, List.mem_of_getElem? (i := 53) (by decide +kernel), List.mem_of_getElem? (i := 102) (by decide +kernel), List.mem_of_getElem? (i := 103) (by decide +kernel)⟩
theorem lw_p6 : lw_okq (⟨"SealedPages", "sealRoot", "()V"⟩, 12) := ⟨⟨by decide +kernel, by decide +kernel⟩, List.mem_of_getElem? (i := 8) (by decide +kernel), List.mem_of_getElem? (i := 145) (by decide +kernel), List.mem_of_getElem? (i := 146) (by decide +kernel)⟩
theorem lw_p7 : lw_okq (⟨"SealedPages", "hashHeadAndLastNode", "()V"⟩, 12) := ⟨⟨by decide +kernel, by decide +kernel⟩, List.mem_of_getElem? (i := 8) (by decide +kernel), List.mem_of_getElem? (i := 149) (by decide +kernel), List.mem_of_getElem? (i := 150) (by decide +kernel)⟩
theorem lw_p8 : lw_okq (⟨"SealedPages", "faultAboveTree", "()I"⟩, 12) := ⟨⟨by decide +kernel, by decide +kernel⟩, List.mem_of_getElem? (i := 8) (by decide +kernel), List.mem_of_getElem? (i := 215) (by decide +kernel), List.mem_of_getElem? (i := 216) (by decide +kernel)⟩
theorem lw_p9 : lw_okq (⟨"SealedPages", "faultOfNode", "(II)I"⟩, 12) := ⟨⟨by decide +kernel, by decide +kernel⟩, List.mem_of_getElem? (i := 8) (by decide +kernel), List.mem_of_getElem? (i := 223) (by decide +kernel), List.mem_of_getElem? (i := 224) (by decide +kernel)⟩
theorem lw_p10 : lw_okq (⟨"SealedPages", "sealWay", "(I)V"⟩, 12) := ⟨⟨by decide +kernel, by decide +kernel⟩, List.mem_of_getElem? (i := 8) (by decide +kernel), List.mem_of_getElem? (i := 232) (by decide +kernel), List.mem_of_getElem? (i := 233) (by decide +kernel)⟩
theorem lw_p11 : lw_okq (⟨"SealedPages", "surveyTree", "()V"⟩, 12) := ⟨⟨by decide +kernel, by decide +kernel⟩, List.mem_of_getElem? (i := 8) (by decide +kernel), List.mem_of_getElem? (i := 265) (by decide +kernel), List.mem_of_getElem? (i := 266) (by decide +kernel)⟩
theorem lw_p12 : lw_okq (⟨"SealedPages", "restoreDisk", "()I"⟩, 12) := ⟨⟨by decide +kernel, by decide +kernel⟩, List.mem_of_getElem? (i := 8) (by decide +kernel), List.mem_of_getElem? (i := 301) (by decide +kernel), List.mem_of_getElem? (i := 302) (by decide +kernel)⟩
theorem lw_p13 : lw_okq (⟨"SealedPagesModel", "levelsOf", "()I"⟩, 20) := ⟨⟨by decide +kernel, by decide +kernel⟩, List.mem_of_getElem? (i := 321) (by decide +kernel), List.mem_of_getElem? (i := 399) (by decide +kernel), List.mem_of_getElem? (i := 400) (by decide +kernel)⟩
theorem lw_p14 : lw_okq (⟨"SealedPagesModel", "nodesOf", "(I)I"⟩, 20) := ⟨⟨by decide +kernel, by decide +kernel⟩, List.mem_of_getElem? (i := 321) (by decide +kernel), List.mem_of_getElem? (i := 403) (by decide +kernel), List.mem_of_getElem? (i := 404) (by decide +kernel)⟩
theorem lw_p15 : lw_okq (⟨"SealedPagesModel", "placeOf", "(II)I"⟩, 20) := ⟨⟨by decide +kernel, by decide +kernel⟩, List.mem_of_getElem? (i := 321) (by decide +kernel), List.mem_of_getElem? (i := 407) (by decide +kernel), List.mem_of_getElem? (i := 408) (by decide +kernel)⟩
def lw_privs_1 : List (MethodName × Nat) := [(⟨"SealedPages", "sealAll", "()V"⟩, 12), (⟨"SealedPages", "headByteAsTold", "(I)I"⟩, 12), (⟨"SealedPages", "sealNode", "(II)V"⟩, 12), (⟨"SealedPages", "hashNode", "(II)V"⟩, 12), (⟨"SealedPages$Hasher", "spreadWords", "()V"⟩, 3), (⟨"SealedPages$Hasher", "mixBlock", "()V"⟩, 3), (⟨"SealedPages", "sealRoot", "()V"⟩, 12), (⟨"SealedPages", "hashHeadAndLastNode", "()V"⟩, 12), (⟨"SealedPages", "faultAboveTree", "()I"⟩, 12), (⟨"SealedPages", "faultOfNode", "(II)I"⟩, 12), (⟨"SealedPages", "sealWay", "(I)V"⟩, 12), (⟨"SealedPages", "surveyTree", "()V"⟩, 12), (⟨"SealedPages", "restoreDisk", "()I"⟩, 12), (⟨"SealedPagesModel", "levelsOf", "()I"⟩, 20), (⟨"SealedPagesModel", "nodesOf", "(I)I"⟩, 20), (⟨"SealedPagesModel", "placeOf", "(II)I"⟩, 20)]
theorem lw_r1 : ∀ q ∈ lw_privs_1, lw_okq q := List.forall_mem_cons.mpr ⟨lw_p0, List.forall_mem_cons.mpr ⟨lw_p1, List.forall_mem_cons.mpr ⟨lw_p2, List.forall_mem_cons.mpr ⟨lw_p3, List.forall_mem_cons.mpr ⟨lw_p4, List.forall_mem_cons.mpr ⟨lw_p5, List.forall_mem_cons.mpr ⟨lw_p6, List.forall_mem_cons.mpr ⟨lw_p7, List.forall_mem_cons.mpr ⟨lw_p8, List.forall_mem_cons.mpr ⟨lw_p9, List.forall_mem_cons.mpr ⟨lw_p10, List.forall_mem_cons.mpr ⟨lw_p11, List.forall_mem_cons.mpr ⟨lw_p12, List.forall_mem_cons.mpr ⟨lw_p13, List.forall_mem_cons.mpr ⟨lw_p14, List.forall_mem_cons.mpr ⟨lw_p15, fun _ h => absurd h List.not_mem_nil⟩⟩⟩⟩⟩⟩⟩⟩⟩⟩⟩⟩⟩⟩⟩⟩
theorem lw_p16 : lw_okq (⟨"SealedPagesModel", "headOf", "(I)I"⟩, 20) := ⟨⟨by decide +kernel, by decide +kernel⟩, List.mem_of_getElem? (i := 321) (by decide +kernel), List.mem_of_getElem? (i := 415) (by decide +kernel), List.mem_of_getElem? (i := 416) (by decide +kernel)⟩
theorem lw_p17 : lw_okq (⟨"SealedPagesModel", "putNode", "(II)V"⟩, 20) := ⟨⟨by decide +kernel, by decide +kernel⟩, List.mem_of_getElem? (i := 321) (by decide +kernel), List.mem_of_getElem? (i := 419) (by decide +kernel), List.mem_of_getElem? (i := 420) (by decide +kernel)⟩
theorem lw_p18 : lw_okq (⟨"SealedPagesModel", "hashNode", "(II)V"⟩, 20) := ⟨⟨by decide +kernel, by decide +kernel⟩, List.mem_of_getElem? (i := 321) (by decide +kernel), List.mem_of_getElem? (i := 423) (by decide +kernel), List.mem_of_getElem? (i := 424) (by decide +kernel)⟩
theorem lw_p19 : lw_okq (⟨"SealedPagesModel", "add", "(I)V"⟩, 20) := ⟨⟨by decide +kernel, by decide +kernel⟩, List.mem_of_getElem? (i := 321) (by decide +kernel), List.mem_of_getElem? (i := 427) (by decide +kernel), List.mem_of_getElem? (i := 428) (by decide +kernel)⟩
theorem lw_p20 : lw_okq (⟨"SealedPagesModel", "hashRow", "()V"⟩, 20) := ⟨⟨by decide +kernel, by decide +kernel⟩, List.mem_of_getElem? (i := 321) (by decide +kernel), List.mem_of_getElem? (i := 431) (by decide +kernel), List.mem_of_getElem? (i := 432) (by decide +kernel)⟩
theorem lw_p21 : lw_okq (⟨"SealedPagesModel", "mix", "(I)V"⟩, 20) := ⟨⟨by decide +kernel, by decide +kernel⟩, List.mem_of_getElem? (i := 321) (by decide +kernel), List.mem_of_getElem? (i := 435) (by decide +kernel), List.mem_of_getElem? (i := 436) (by decide +kernel)⟩
theorem lw_p22 : lw_okq (⟨"SealedPagesModel", "round", "(I)V"⟩, 20) := ⟨⟨by decide +kernel, by decide +kernel⟩, List.mem_of_getElem? (i := 321) (by decide +kernel), List.mem_of_getElem? (i := 442) (by decide +kernel), List.mem_of_getElem? (i := 443) (by decide +kernel)⟩
theorem lw_p23 : lw_okq (⟨"SealedPagesModel", "putRoot", "()V"⟩, 20) := ⟨⟨by decide +kernel, by decide +kernel⟩, List.mem_of_getElem? (i := 321) (by decide +kernel), List.mem_of_getElem? (i := 446) (by decide +kernel), List.mem_of_getElem? (i := 447) (by decide +kernel)⟩
theorem lw_p24 : lw_okq (⟨"SealedPagesModel", "hashRoot", "()V"⟩, 20) := ⟨⟨by decide +kernel, by decide +kernel⟩, List.mem_of_getElem? (i := 321) (by decide +kernel), List.mem_of_getElem? (i := 450) (by decide +kernel), List.mem_of_getElem? (i := 451) (by decide +kernel)⟩
theorem lw_p25 : lw_okq (⟨"SealedPagesModel", "isPage", "(I)Z"⟩, 20) := ⟨⟨by decide +kernel, by decide +kernel⟩, List.mem_of_getElem? (i := 321) (by decide +kernel), List.mem_of_getElem? (i := 531) (by decide +kernel), List.mem_of_getElem? (i := 532) (by decide +kernel)⟩
theorem lw_p26 : lw_okq (⟨"SealedPagesModel", "faultOf", "(I)I"⟩, 20) := ⟨⟨by decide +kernel, by decide +kernel⟩, List.mem_of_getElem? (i := 321) (by decide +kernel), List.mem_of_getElem? (i := 535) (by decide +kernel), List.mem_of_getElem? (i := 536) (by decide +kernel)⟩
theorem lw_p27 : lw_okq (⟨"SealedPagesModel", "nodeOn", "(II)I"⟩, 20) := ⟨⟨by decide +kernel, by decide +kernel⟩, List.mem_of_getElem? (i := 321) (by decide +kernel), List.mem_of_getElem? (i := 539) (by decide +kernel), List.mem_of_getElem? (i := 540) (by decide +kernel)⟩
theorem lw_p28 : lw_okq (⟨"SealedPagesModel", "isNode", "(II)Z"⟩, 20) := ⟨⟨by decide +kernel, by decide +kernel⟩, List.mem_of_getElem? (i := 321) (by decide +kernel), List.mem_of_getElem? (i := 543) (by decide +kernel), List.mem_of_getElem? (i := 544) (by decide +kernel)⟩
theorem lw_p29 : lw_okq (⟨"SealedPagesModel", "isByte", "(I)Z"⟩, 20) := ⟨⟨by decide +kernel, by decide +kernel⟩, List.mem_of_getElem? (i := 321) (by decide +kernel), List.mem_of_getElem? (i := 560) (by decide +kernel), List.mem_of_getElem? (i := 561) (by decide +kernel)⟩
theorem lw_p30 : lw_okq (⟨"SealedPagesModel", "besideOf", "(II)I"⟩, 20) := ⟨⟨by decide +kernel, by decide +kernel⟩, List.mem_of_getElem? (i := 321) (by decide +kernel), List.mem_of_getElem? (i := 600) (by decide +kernel), List.mem_of_getElem? (i := 601) (by decide +kernel)⟩
def lw_privs_2 : List (MethodName × Nat) := [(⟨"SealedPagesModel", "headOf", "(I)I"⟩, 20), (⟨"SealedPagesModel", "putNode", "(II)V"⟩, 20), (⟨"SealedPagesModel", "hashNode", "(II)V"⟩, 20), (⟨"SealedPagesModel", "add", "(I)V"⟩, 20), (⟨"SealedPagesModel", "hashRow", "()V"⟩, 20), (⟨"SealedPagesModel", "mix", "(I)V"⟩, 20), (⟨"SealedPagesModel", "round", "(I)V"⟩, 20), (⟨"SealedPagesModel", "putRoot", "()V"⟩, 20), (⟨"SealedPagesModel", "hashRoot", "()V"⟩, 20), (⟨"SealedPagesModel", "isPage", "(I)Z"⟩, 20), (⟨"SealedPagesModel", "faultOf", "(I)I"⟩, 20), (⟨"SealedPagesModel", "nodeOn", "(II)I"⟩, 20), (⟨"SealedPagesModel", "isNode", "(II)Z"⟩, 20), (⟨"SealedPagesModel", "isByte", "(I)Z"⟩, 20), (⟨"SealedPagesModel", "besideOf", "(II)I"⟩, 20)]
theorem lw_r2 : ∀ q ∈ lw_privs_2, lw_okq q := List.forall_mem_cons.mpr ⟨lw_p16, List.forall_mem_cons.mpr ⟨lw_p17, List.forall_mem_cons.mpr ⟨lw_p18, List.forall_mem_cons.mpr ⟨lw_p19, List.forall_mem_cons.mpr ⟨lw_p20, List.forall_mem_cons.mpr ⟨lw_p21, List.forall_mem_cons.mpr ⟨lw_p22, List.forall_mem_cons.mpr ⟨lw_p23, List.forall_mem_cons.mpr ⟨lw_p24, List.forall_mem_cons.mpr ⟨lw_p25, List.forall_mem_cons.mpr ⟨lw_p26, List.forall_mem_cons.mpr ⟨lw_p27, List.forall_mem_cons.mpr ⟨lw_p28, List.forall_mem_cons.mpr ⟨lw_p29, List.forall_mem_cons.mpr ⟨lw_p30, fun _ h => absurd h List.not_mem_nil⟩⟩⟩⟩⟩⟩⟩⟩⟩⟩⟩⟩⟩⟩⟩
def lw_privs : List (MethodName × Nat) := lw_privs_1 ++ (lw_privs_2)
def lw_tbl : List Cond := k2_sels lw_privs ++ tables_1
theorem lw_privs_ok : ∀ q ∈ lw_privs, lw_okq q := by
  show ∀ q ∈ lw_privs_1 ++ (lw_privs_2), lw_okq q
  exact List.forall_mem_append.mpr ⟨lw_r1, lw_r2⟩
end
section
/-! ===== BEGIN words of one list among another's, by their places ===== -/
theorem goodIn_r {big : List Cond} (ws : List Cond) (ps : List Nat) (hp : ws = ps.filterMap (fun i => big[i]?)) (h : ws.all goodWord = true) : GoodIn big ws := by
  intro w hw
  have h1 := List.all_eq_true.mp h w hw
  rw [hp] at hw
  obtain ⟨i, -, hi⟩ := List.mem_filterMap.mp hw
  have hm : w ∈ big := by first | exact List.mem_of_getElem? hi | exact List.getElem?_mem hi
  exact ⟨hm, good_of_word h1⟩
theorem goodIn_app {big a b : List Cond} (ha : GoodIn big a) (hb : GoodIn big b) : GoodIn big (a ++ b) := fun w h => (List.mem_append.mp h).elim (ha w) (hb w)
theorem goodIn_ca {big a b : List Cond} {c : Cond} (ha : GoodIn big (c :: a)) (hb : GoodIn big b) : GoodIn big (c :: (a ++ b)) := fun w h => (List.mem_cons.mp h).elim (fun e => ha w (List.mem_cons.mpr (Or.inl e))) (fun h => (List.mem_append.mp h).elim (fun h => ha w (List.mem_cons.mpr (Or.inr h))) (hb w))
theorem goodIn_sub {big ws : List Cond} (hm : ∀ w ∈ ws, w ∈ big) (h : ws.all goodWord = true) : GoodIn big ws := fun w hw => ⟨hm w hw, good_of_word (List.all_eq_true.mp h w hw)⟩
/-! ===== END ===== -/

/-! ===== BEGIN printed: names, fields, word lists, decode rows ===== -/
def RX0 : String := "SealedPages$Hasher"
def TX0 : u_T := fun k => match k with
  | 0 => ("SealedPages$Hasher", "sums", "[I", true)
  | 1 => ("SealedPages$Hasher", "words", "[I", true)
  | _ => ("SealedPages$Hasher", "length", "I", false)
def tyX0 : Nat → FieldType := fun k => match k with
  | 0 => .array .int
  | 1 => .array .int
  | _ => .int
abbrev wsX00 : List Cond := u_ws RX0 TX0 3
theorem nmX0 : ∀ a, a < 3 → ∀ b, b < 3 → a ≠ b → (TX0 a).2.1 ≠ (TX0 b).2.1 := by decide +kernel
theorem tyX0_ok : ∀ k, k < 3 → parseFieldDescriptor (TX0 k).2.2.1 = some (tyX0 k) := by decide +kernel
abbrev cX0_init : ByteArray := prog_2_method_1_code
def yX0_init : MethodName := ⟨RX0, "<init>", "()V"⟩
abbrev cX0_begin : ByteArray := prog_2_method_2_code
def yX0_begin : MethodName := ⟨RX0, "begin", "()V"⟩
abbrev cX0_addByte : ByteArray := prog_2_method_3_code
def yX0_addByte : MethodName := ⟨RX0, "addByte", "(I)V"⟩
abbrev cX0_addRow : ByteArray := prog_2_method_4_code
def yX0_addRow : MethodName := ⟨RX0, "addRow", "([III)V"⟩
abbrev cX0_finish : ByteArray := prog_2_method_5_code
def yX0_finish : MethodName := ⟨RX0, "finish", "()V"⟩
abbrev cX0_resultByte : ByteArray := prog_2_method_6_code
def yX0_resultByte : MethodName := ⟨RX0, "resultByte", "(I)I"⟩
abbrev cX0_resultIsAt : ByteArray := prog_2_method_7_code
def yX0_resultIsAt : MethodName := ⟨RX0, "resultIsAt", "([II)Z"⟩
abbrev cX0_copyResult : ByteArray := prog_2_method_8_code
def yX0_copyResult : MethodName := ⟨RX0, "copyResult", "([II)V"⟩
abbrev cX0_spreadWords : ByteArray := prog_2_method_9_code
def yX0_spreadWords : MethodName := ⟨RX0, "spreadWords", "()V"⟩
abbrev cX0_mixBlock : ByteArray := prog_2_method_10_code
def yX0_mixBlock : MethodName := ⟨RX0, "mixBlock", "()V"⟩
def RX1 : String := "SealedPages$Layout"
def TX1 : u_T := fun k => match k with
  | 0 => ("SealedPages$Layout", "pageCount", "I", true)
  | 1 => ("SealedPages$Layout", "levelCount", "I", true)
  | 2 => ("SealedPages$Layout", "nodeCount", "I", true)
  | 3 => ("SealedPages$Layout", "byteCount", "I", true)
  | 4 => ("SealedPages$Layout", "widths", "[I", true)
  | _ => ("SealedPages$Layout", "nodesAhead", "[I", true)
def tyX1 : Nat → FieldType := fun k => match k with
  | 0 => .int
  | 1 => .int
  | 2 => .int
  | 3 => .int
  | 4 => .array .int
  | _ => .array .int
abbrev wsX10 : List Cond := u_ws RX1 TX1 6
theorem nmX1 : ∀ a, a < 6 → ∀ b, b < 6 → a ≠ b → (TX1 a).2.1 ≠ (TX1 b).2.1 := by decide +kernel
theorem tyX1_ok : ∀ k, k < 6 → parseFieldDescriptor (TX1 k).2.2.1 = some (tyX1 k) := by decide +kernel
abbrev cX1_init : ByteArray := prog_3_method_1_code
def yX1_init : MethodName := ⟨RX1, "<init>", "(I)V"⟩
abbrev cX1_hasPage : ByteArray := prog_3_method_2_code
def yX1_hasPage : MethodName := ⟨RX1, "hasPage", "(I)Z"⟩
abbrev cX1_hasNode : ByteArray := prog_3_method_3_code
def yX1_hasNode : MethodName := ⟨RX1, "hasNode", "(II)Z"⟩
abbrev cX1_placeOfPage : ByteArray := prog_3_method_4_code
def yX1_placeOfPage : MethodName := ⟨RX1, "placeOfPage", "(I)I"⟩
abbrev cX1_numberOfNode : ByteArray := prog_3_method_5_code
def yX1_numberOfNode : MethodName := ⟨RX1, "numberOfNode", "(II)I"⟩
abbrev cX1_placeOfNode : ByteArray := prog_3_method_6_code
def yX1_placeOfNode : MethodName := ⟨RX1, "placeOfNode", "(II)I"⟩
def RX2 : String := "SealedPages"
def TX2 : u_T := fun k => match k with
  | 0 => ("SealedPages", "layout", "LSealedPages$Layout;", true)
  | 1 => ("SealedPages", "hasher", "LSealedPages$Hasher;", true)
  | 2 => ("SealedPages", "diskBytes", "[I", true)
  | 3 => ("SealedPages", "rootBytes", "[I", true)
  | 4 => ("SealedPages", "draftBytes", "[I", true)
  | 5 => ("SealedPages", "keptDisk", "[I", true)
  | 6 => ("SealedPages", "keptRoot", "[I", true)
  | 7 => ("SealedPages", "faultsDownTo", "[I", true)
  | 8 => ("SealedPages", "somethingKept", "Z", false)
  | 9 => ("SealedPages", "pagesGiven", "I", false)
  | 10 => ("SealedPages", "pagesWritten", "I", false)
  | _ => ("SealedPages", "faultsTold", "I", false)
def tyX2 : Nat → FieldType := fun k => match k with
  | 0 => .object "SealedPages$Layout"
  | 1 => .object "SealedPages$Hasher"
  | 2 => .array .int
  | 3 => .array .int
  | 4 => .array .int
  | 5 => .array .int
  | 6 => .array .int
  | 7 => .array .int
  | 8 => .boolean
  | 9 => .int
  | 10 => .int
  | _ => .int
abbrev wsX20 : List Cond := u_ws RX2 TX2 12
theorem nmX2 : ∀ a, a < 12 → ∀ b, b < 12 → a ≠ b → (TX2 a).2.1 ≠ (TX2 b).2.1 := by decide +kernel
theorem tyX2_ok : ∀ k, k < 12 → parseFieldDescriptor (TX2 k).2.2.1 = some (tyX2 k) := by decide +kernel
abbrev cX2_init : ByteArray := prog_1_method_1_code
def yX2_init : MethodName := ⟨RX2, "<init>", "(I)V"⟩
abbrev cX2_put : ByteArray := prog_1_method_2_code
def yX2_put : MethodName := ⟨RX2, "put", "(II)I"⟩
abbrev cX2_fill : ByteArray := prog_1_method_3_code
def yX2_fill : MethodName := ⟨RX2, "fill", "(IJ)I"⟩
abbrev cX2_draft : ByteArray := prog_1_method_4_code
def yX2_draft : MethodName := ⟨RX2, "draft", "(I)I"⟩
abbrev cX2_read : ByteArray := prog_1_method_5_code
def yX2_read : MethodName := ⟨RX2, "read", "(I)I"⟩
abbrev cX2_write : ByteArray := prog_1_method_6_code
def yX2_write : MethodName := ⟨RX2, "write", "(I)I"⟩
abbrev cX2_seal : ByteArray := prog_1_method_7_code
def yX2_seal : MethodName := ⟨RX2, "seal", "()I"⟩
abbrev cX2_size : ByteArray := prog_1_method_8_code
def yX2_size : MethodName := ⟨RX2, "size", "()I"⟩
abbrev cX2_disk : ByteArray := prog_1_method_9_code
def yX2_disk : MethodName := ⟨RX2, "disk", "(I)I"⟩
abbrev cX2_alter : ByteArray := prog_1_method_10_code
def yX2_alter : MethodName := ⟨RX2, "alter", "(II)I"⟩
abbrev cX2_carry : ByteArray := prog_1_method_11_code
def yX2_carry : MethodName := ⟨RX2, "carry", "(III)I"⟩
abbrev cX2_root : ByteArray := prog_1_method_12_code
def yX2_root : MethodName := ⟨RX2, "root", "(I)I"⟩
abbrev cX2_fault : ByteArray := prog_1_method_13_code
def yX2_fault : MethodName := ⟨RX2, "fault", "(I)I"⟩
abbrev cX2_held : ByteArray := prog_1_method_14_code
def yX2_held : MethodName := ⟨RX2, "held", "()I"⟩
abbrev cX2_first : ByteArray := prog_1_method_15_code
def yX2_first : MethodName := ⟨RX2, "first", "()I"⟩
abbrev cX2_levels : ByteArray := prog_1_method_16_code
def yX2_levels : MethodName := ⟨RX2, "levels", "()I"⟩
abbrev cX2_node : ByteArray := prog_1_method_17_code
def yX2_node : MethodName := ⟨RX2, "node", "(II)I"⟩
abbrev cX2_proof : ByteArray := prog_1_method_18_code
def yX2_proof : MethodName := ⟨RX2, "proof", "(I)I"⟩
abbrev cX2_beside : ByteArray := prog_1_method_19_code
def yX2_beside : MethodName := ⟨RX2, "beside", "(III)I"⟩
abbrev cX2_keep : ByteArray := prog_1_method_20_code
def yX2_keep : MethodName := ⟨RX2, "keep", "()I"⟩
abbrev cX2_back : ByteArray := prog_1_method_21_code
def yX2_back : MethodName := ⟨RX2, "back", "()I"⟩
abbrev cX2_open : ByteArray := prog_1_method_22_code
def yX2_open : MethodName := ⟨RX2, "open", "()I"⟩
abbrev cX2_hash : ByteArray := prog_1_method_23_code
def yX2_hash : MethodName := ⟨RX2, "hash", "(II)I"⟩
abbrev cX2_told : ByteArray := prog_1_method_24_code
def yX2_told : MethodName := ⟨RX2, "told", "(I)I"⟩
abbrev cX2_isBelow : ByteArray := prog_1_method_25_code
def yX2_isBelow : MethodName := ⟨RX2, "isBelow", "(II)Z"⟩
abbrev cX2_nodeBesideWay : ByteArray := prog_1_method_26_code
def yX2_nodeBesideWay : MethodName := ⟨RX2, "nodeBesideWay", "(II)I"⟩
abbrev cX2_headByteAsTold : ByteArray := prog_1_method_27_code
def yX2_headByteAsTold : MethodName := ⟨RX2, "headByteAsTold", "(I)I"⟩
abbrev cX2_hashNode : ByteArray := prog_1_method_28_code
def yX2_hashNode : MethodName := ⟨RX2, "hashNode", "(II)V"⟩
abbrev cX2_hashHeadAndLastNode : ByteArray := prog_1_method_29_code
def yX2_hashHeadAndLastNode : MethodName := ⟨RX2, "hashHeadAndLastNode", "()V"⟩
abbrev cX2_faultAboveTree : ByteArray := prog_1_method_30_code
def yX2_faultAboveTree : MethodName := ⟨RX2, "faultAboveTree", "()I"⟩
abbrev cX2_faultOfNode : ByteArray := prog_1_method_31_code
def yX2_faultOfNode : MethodName := ⟨RX2, "faultOfNode", "(II)I"⟩
abbrev cX2_surveyTree : ByteArray := prog_1_method_32_code
def yX2_surveyTree : MethodName := ⟨RX2, "surveyTree", "()V"⟩
abbrev cX2_sealNode : ByteArray := prog_1_method_33_code
def yX2_sealNode : MethodName := ⟨RX2, "sealNode", "(II)V"⟩
abbrev cX2_sealRoot : ByteArray := prog_1_method_34_code
def yX2_sealRoot : MethodName := ⟨RX2, "sealRoot", "()V"⟩
abbrev cX2_sealWay : ByteArray := prog_1_method_35_code
def yX2_sealWay : MethodName := ⟨RX2, "sealWay", "(I)V"⟩
abbrev cX2_sealAll : ByteArray := prog_1_method_36_code
def yX2_sealAll : MethodName := ⟨RX2, "sealAll", "()V"⟩
abbrev cX2_restoreDisk : ByteArray := prog_1_method_37_code
def yX2_restoreDisk : MethodName := ⟨RX2, "restoreDisk", "()I"⟩
def RX3 : String := "SealedPagesModel"
def TX3 : u_T := fun k => match k with
  | 0 => ("SealedPagesModel", "k0", "[I", true)
  | 1 => ("SealedPagesModel", "h0", "[I", true)
  | 2 => ("SealedPagesModel", "pages", "I", false)
  | 3 => ("SealedPagesModel", "size", "I", false)
  | 4 => ("SealedPagesModel", "disk", "[I", true)
  | 5 => ("SealedPagesModel", "root", "[I", true)
  | 6 => ("SealedPagesModel", "draft", "[I", true)
  | 7 => ("SealedPagesModel", "keptDisk", "[I", true)
  | 8 => ("SealedPagesModel", "keptRoot", "[I", true)
  | 9 => ("SealedPagesModel", "isKept", "Z", false)
  | 10 => ("SealedPagesModel", "reads", "I", false)
  | 11 => ("SealedPagesModel", "writes", "I", false)
  | 12 => ("SealedPagesModel", "faults", "I", false)
  | 13 => ("SealedPagesModel", "row", "[I", true)
  | 14 => ("SealedPagesModel", "length", "I", false)
  | 15 => ("SealedPagesModel", "out", "[I", true)
  | 16 => ("SealedPagesModel", "words", "[I", true)
  | 17 => ("SealedPagesModel", "state", "[I", true)
  | 18 => ("SealedPagesModel", "work", "[I", true)
  | _ => ("SealedPagesModel", "carried", "[I", true)
def tyX3 : Nat → FieldType := fun k => match k with
  | 0 => .array .int
  | 1 => .array .int
  | 2 => .int
  | 3 => .int
  | 4 => .array .int
  | 5 => .array .int
  | 6 => .array .int
  | 7 => .array .int
  | 8 => .array .int
  | 9 => .boolean
  | 10 => .int
  | 11 => .int
  | 12 => .int
  | 13 => .array .int
  | 14 => .int
  | 15 => .array .int
  | 16 => .array .int
  | 17 => .array .int
  | 18 => .array .int
  | _ => .array .int
abbrev wsX30 : List Cond := u_ws RX3 TX3 20
theorem nmX3 : ∀ a, a < 20 → ∀ b, b < 20 → a ≠ b → (TX3 a).2.1 ≠ (TX3 b).2.1 := by decide +kernel
theorem tyX3_ok : ∀ k, k < 20 → parseFieldDescriptor (TX3 k).2.2.1 = some (tyX3 k) := by decide +kernel
abbrev cX3_init : ByteArray := prog_5_method_1_code
def yX3_init : MethodName := ⟨RX3, "<init>", "(I)V"⟩
abbrev cX3_turned : ByteArray := prog_5_method_2_code
def yX3_turned : MethodName := ⟨RX3, "turned", "(II)I"⟩
abbrev cX3_add : ByteArray := prog_5_method_3_code
def yX3_add : MethodName := ⟨RX3, "add", "(I)V"⟩
abbrev cX3_hashRow : ByteArray := prog_5_method_4_code
def yX3_hashRow : MethodName := ⟨RX3, "hashRow", "()V"⟩
abbrev cX3_mix : ByteArray := prog_5_method_5_code
def yX3_mix : MethodName := ⟨RX3, "mix", "(I)V"⟩
abbrev cX3_round : ByteArray := prog_5_method_6_code
def yX3_round : MethodName := ⟨RX3, "round", "(I)V"⟩
abbrev cX3_nodesOf : ByteArray := prog_5_method_7_code
def yX3_nodesOf : MethodName := ⟨RX3, "nodesOf", "(I)I"⟩
abbrev cX3_levelsOf : ByteArray := prog_5_method_8_code
def yX3_levelsOf : MethodName := ⟨RX3, "levelsOf", "()I"⟩
abbrev cX3_placeOf : ByteArray := prog_5_method_9_code
def yX3_placeOf : MethodName := ⟨RX3, "placeOf", "(II)I"⟩
abbrev cX3_isPage : ByteArray := prog_5_method_10_code
def yX3_isPage : MethodName := ⟨RX3, "isPage", "(I)Z"⟩
abbrev cX3_headOf : ByteArray := prog_5_method_11_code
def yX3_headOf : MethodName := ⟨RX3, "headOf", "(I)I"⟩
abbrev cX3_hashNode : ByteArray := prog_5_method_12_code
def yX3_hashNode : MethodName := ⟨RX3, "hashNode", "(II)V"⟩
abbrev cX3_hashRoot : ByteArray := prog_5_method_13_code
def yX3_hashRoot : MethodName := ⟨RX3, "hashRoot", "()V"⟩
abbrev cX3_isNode : ByteArray := prog_5_method_14_code
def yX3_isNode : MethodName := ⟨RX3, "isNode", "(II)Z"⟩
abbrev cX3_putNode : ByteArray := prog_5_method_15_code
def yX3_putNode : MethodName := ⟨RX3, "putNode", "(II)V"⟩
abbrev cX3_putRoot : ByteArray := prog_5_method_16_code
def yX3_putRoot : MethodName := ⟨RX3, "putRoot", "()V"⟩
abbrev cX3_nodeOn : ByteArray := prog_5_method_17_code
def yX3_nodeOn : MethodName := ⟨RX3, "nodeOn", "(II)I"⟩
abbrev cX3_faultOf : ByteArray := prog_5_method_18_code
def yX3_faultOf : MethodName := ⟨RX3, "faultOf", "(I)I"⟩
abbrev cX3_put : ByteArray := prog_5_method_19_code
def yX3_put : MethodName := ⟨RX3, "put", "(II)I"⟩
abbrev cX3_fill : ByteArray := prog_5_method_20_code
def yX3_fill : MethodName := ⟨RX3, "fill", "(IJ)I"⟩
abbrev cX3_draft : ByteArray := prog_5_method_21_code
def yX3_draft : MethodName := ⟨RX3, "draft", "(I)I"⟩
abbrev cX3_read : ByteArray := prog_5_method_22_code
def yX3_read : MethodName := ⟨RX3, "read", "(I)I"⟩
abbrev cX3_write : ByteArray := prog_5_method_23_code
def yX3_write : MethodName := ⟨RX3, "write", "(I)I"⟩
abbrev cX3_seal : ByteArray := prog_5_method_24_code
def yX3_seal : MethodName := ⟨RX3, "seal", "()I"⟩
abbrev cX3_size : ByteArray := prog_5_method_25_code
def yX3_size : MethodName := ⟨RX3, "size", "()I"⟩
abbrev cX3_isByte : ByteArray := prog_5_method_26_code
def yX3_isByte : MethodName := ⟨RX3, "isByte", "(I)Z"⟩
abbrev cX3_disk : ByteArray := prog_5_method_27_code
def yX3_disk : MethodName := ⟨RX3, "disk", "(I)I"⟩
abbrev cX3_alter : ByteArray := prog_5_method_28_code
def yX3_alter : MethodName := ⟨RX3, "alter", "(II)I"⟩
abbrev cX3_carry : ByteArray := prog_5_method_29_code
def yX3_carry : MethodName := ⟨RX3, "carry", "(III)I"⟩
abbrev cX3_root : ByteArray := prog_5_method_30_code
def yX3_root : MethodName := ⟨RX3, "root", "(I)I"⟩
abbrev cX3_fault : ByteArray := prog_5_method_31_code
def yX3_fault : MethodName := ⟨RX3, "fault", "(I)I"⟩
abbrev cX3_held : ByteArray := prog_5_method_32_code
def yX3_held : MethodName := ⟨RX3, "held", "()I"⟩
abbrev cX3_first : ByteArray := prog_5_method_33_code
def yX3_first : MethodName := ⟨RX3, "first", "()I"⟩
abbrev cX3_levels : ByteArray := prog_5_method_34_code
def yX3_levels : MethodName := ⟨RX3, "levels", "()I"⟩
abbrev cX3_node : ByteArray := prog_5_method_35_code
def yX3_node : MethodName := ⟨RX3, "node", "(II)I"⟩
abbrev cX3_besideOf : ByteArray := prog_5_method_36_code
def yX3_besideOf : MethodName := ⟨RX3, "besideOf", "(II)I"⟩
abbrev cX3_proof : ByteArray := prog_5_method_37_code
def yX3_proof : MethodName := ⟨RX3, "proof", "(I)I"⟩
abbrev cX3_beside : ByteArray := prog_5_method_38_code
def yX3_beside : MethodName := ⟨RX3, "beside", "(III)I"⟩
abbrev cX3_keep : ByteArray := prog_5_method_39_code
def yX3_keep : MethodName := ⟨RX3, "keep", "()I"⟩
abbrev cX3_back : ByteArray := prog_5_method_40_code
def yX3_back : MethodName := ⟨RX3, "back", "()I"⟩
abbrev cX3_open : ByteArray := prog_5_method_41_code
def yX3_open : MethodName := ⟨RX3, "open", "()I"⟩
abbrev cX3_hash : ByteArray := prog_5_method_42_code
def yX3_hash : MethodName := ⟨RX3, "hash", "(II)I"⟩
abbrev cX3_told : ByteArray := prog_5_method_43_code
def yX3_told : MethodName := ⟨RX3, "told", "(I)I"⟩
def RJ9 : String := "java/lang/Math"
def TJ9 : u_T := fun k => match k with
  | _ => ("", "", "", false)
def tyJ9 : Nat → FieldType := fun k => match k with
  | _ => .int
abbrev wsJ90 : List Cond := u_ws RJ9 TJ9 0
theorem nmJ9 : ∀ a, a < 0 → ∀ b, b < 0 → a ≠ b → (TJ9 a).2.1 ≠ (TJ9 b).2.1 := by decide +kernel
theorem tyJ9_ok : ∀ k, k < 0 → parseFieldDescriptor (TJ9 k).2.2.1 = some (tyJ9 k) := by decide +kernel
abbrev cJ9_max_7cf53 : ByteArray := prog_6_method_65_code
def yJ9_max_7cf53 : MethodName := ⟨RJ9, "max", "(II)I"⟩
abbrev cJ9_min_7cf53 : ByteArray := prog_6_method_69_code
def yJ9_min_7cf53 : MethodName := ⟨RJ9, "min", "(II)I"⟩
def RJ10 : String := "java/lang/System"
def TJ10 : u_T := fun k => match k with
  | _ => ("", "", "", false)
def tyJ10 : Nat → FieldType := fun k => match k with
  | _ => .int
abbrev wsJ100 : List Cond := u_ws RJ10 TJ10 0
theorem nmJ10 : ∀ a, a < 0 → ∀ b, b < 0 → a ≠ b → (TJ10 a).2.1 ≠ (TJ10 b).2.1 := by decide +kernel
theorem tyJ10_ok : ∀ k, k < 0 → parseFieldDescriptor (TJ10 k).2.2.1 = some (tyJ10 k) := by decide +kernel
def RL : String := "SealedPagesLaw"
abbrev cL_cell : ByteArray := method_2_code
def yL_cell : MethodName := ⟨RL, "cell", "([II)I"⟩
abbrev cL_law : ByteArray := code
def yL_law : MethodName := ⟨RL, "law", "([I)Z"⟩
def wsX0_init : List Cond := .code yX0_init cX0_init 1 none :: ([.methodLink RX0 3 objectInit, .instanceMethod objectInit, .code objectInit ⟨#[0xb1]⟩ 1 none, .arrayClass .int, .fieldLink RX0 9 "SealedPages$Hasher" "sums" "[I", .fieldLink RX0 15 "SealedPages$Hasher" "words" "[I"] ++ wsX00)
def wsX0_begin : List Cond := .code yX0_begin cX0_begin 1 none :: ([.fieldLink RX0 18 "SealedPages$Hasher" "FIRST_SUMS" "[I", .fieldLink RX0 9 "SealedPages$Hasher" "sums" "[I", .methodLink RX0 21 arraycopyName, .native arraycopyName, .static arraycopyName, .initialized "java/lang/System", .fieldLink RX0 27 "SealedPages$Hasher" "length" "I"] ++ wsX00)
def wsX0_spreadWords : List Cond := .code yX0_spreadWords cX0_spreadWords 6 none :: ([.fieldLink RX0 15 "SealedPages$Hasher" "words" "[I"] ++ wsX00)
def wsX0_mixBlock : List Cond := .code yX0_mixBlock cX0_mixBlock 14 none :: ([.fieldLink RX0 9 "SealedPages$Hasher" "sums" "[I", .fieldLink RX0 47 "SealedPages$Hasher" "CONSTANTS" "[I", .fieldLink RX0 15 "SealedPages$Hasher" "words" "[I"] ++ wsX00)
def wsX0_addByte : List Cond := .code yX0_addByte cX0_addByte 3 none :: ([.fieldLink RX0 27 "SealedPages$Hasher" "length" "I", .fieldLink RX0 15 "SealedPages$Hasher" "words" "[I", .methodLink RX0 31 yX0_spreadWords, .instanceMethod yX0_spreadWords, .selects RX0 yX0_spreadWords yX0_spreadWords, .initialized RX0, .code yX0_spreadWords cX0_spreadWords 6 none, .methodLink RX0 34 yX0_mixBlock, .instanceMethod yX0_mixBlock, .selects RX0 yX0_mixBlock yX0_mixBlock, .code yX0_mixBlock cX0_mixBlock 14 none, .fieldLink RX0 9 "SealedPages$Hasher" "sums" "[I", .fieldLink RX0 47 "SealedPages$Hasher" "CONSTANTS" "[I"] ++ wsX00)
def wsX0_addRow : List Cond := .code yX0_addRow cX0_addRow 5 none :: ([.methodLink RX0 37 yX0_addByte, .instanceMethod yX0_addByte, .selects RX0 yX0_addByte yX0_addByte, .initialized RX0, .code yX0_addByte cX0_addByte 3 none, .fieldLink RX0 27 "SealedPages$Hasher" "length" "I", .fieldLink RX0 15 "SealedPages$Hasher" "words" "[I", .methodLink RX0 31 yX0_spreadWords, .instanceMethod yX0_spreadWords, .selects RX0 yX0_spreadWords yX0_spreadWords, .code yX0_spreadWords cX0_spreadWords 6 none, .methodLink RX0 34 yX0_mixBlock, .instanceMethod yX0_mixBlock, .selects RX0 yX0_mixBlock yX0_mixBlock, .code yX0_mixBlock cX0_mixBlock 14 none, .fieldLink RX0 9 "SealedPages$Hasher" "sums" "[I", .fieldLink RX0 47 "SealedPages$Hasher" "CONSTANTS" "[I"] ++ wsX00)
def wsX0_finish : List Cond := .code yX0_finish cX0_finish 5 none :: ([.constantLong RX0 41 (8), .fieldLink RX0 27 "SealedPages$Hasher" "length" "I", .methodLink RX0 37 yX0_addByte, .instanceMethod yX0_addByte, .selects RX0 yX0_addByte yX0_addByte, .initialized RX0, .code yX0_addByte cX0_addByte 3 none, .fieldLink RX0 15 "SealedPages$Hasher" "words" "[I", .methodLink RX0 31 yX0_spreadWords, .instanceMethod yX0_spreadWords, .selects RX0 yX0_spreadWords yX0_spreadWords, .code yX0_spreadWords cX0_spreadWords 6 none, .methodLink RX0 34 yX0_mixBlock, .instanceMethod yX0_mixBlock, .selects RX0 yX0_mixBlock yX0_mixBlock, .code yX0_mixBlock cX0_mixBlock 14 none, .fieldLink RX0 9 "SealedPages$Hasher" "sums" "[I", .fieldLink RX0 47 "SealedPages$Hasher" "CONSTANTS" "[I"] ++ wsX00)
def wsX0_resultByte : List Cond := .code yX0_resultByte cX0_resultByte 2 (some .int) :: ([.fieldLink RX0 9 "SealedPages$Hasher" "sums" "[I"] ++ wsX00)
def wsX0_resultIsAt : List Cond := .code yX0_resultIsAt cX0_resultIsAt 4 (some .boolean) :: ([.methodLink RX0 43 yX0_resultByte, .instanceMethod yX0_resultByte, .selects RX0 yX0_resultByte yX0_resultByte, .initialized RX0, .code yX0_resultByte cX0_resultByte 2 (some .int), .fieldLink RX0 9 "SealedPages$Hasher" "sums" "[I"] ++ wsX00)
def wsX0_copyResult : List Cond := .code yX0_copyResult cX0_copyResult 4 none :: ([.methodLink RX0 43 yX0_resultByte, .instanceMethod yX0_resultByte, .selects RX0 yX0_resultByte yX0_resultByte, .initialized RX0, .code yX0_resultByte cX0_resultByte 2 (some .int), .fieldLink RX0 9 "SealedPages$Hasher" "sums" "[I"] ++ wsX00)
def wsX1_init : List Cond := .code yX1_init cX1_init 6 none :: ([.methodLink RX1 3 objectInit, .instanceMethod objectInit, .code objectInit ⟨#[0xb1]⟩ 1 none, .fieldLink RX1 9 "SealedPages$Layout" "pageCount" "I", .arrayClass .int, .fieldLink RX1 15 "SealedPages$Layout" "widths" "[I", .fieldLink RX1 19 "SealedPages$Layout" "nodesAhead" "[I", .fieldLink RX1 22 "SealedPages$Layout" "levelCount" "I", .fieldLink RX1 25 "SealedPages$Layout" "nodeCount" "I", .fieldLink RX1 28 "SealedPages$Layout" "byteCount" "I"] ++ wsX10)
def wsX2_isBelow : List Cond := .code yX2_isBelow cX2_isBelow 2 (some .boolean) :: ([])
def wsX1_hasPage : List Cond := .code yX1_hasPage cX1_hasPage 2 (some .boolean) :: ([.fieldLink RX1 9 "SealedPages$Layout" "pageCount" "I", .static yX2_isBelow, .initialized RX2, .code yX2_isBelow cX2_isBelow 2 (some .boolean)] ++ wsX10)
def wsX1_hasNode : List Cond := .code yX1_hasNode cX1_hasNode 3 (some .boolean) :: ([.fieldLink RX1 22 "SealedPages$Layout" "levelCount" "I", .fieldLink RX1 15 "SealedPages$Layout" "widths" "[I", .static yX2_isBelow, .initialized RX2, .code yX2_isBelow cX2_isBelow 2 (some .boolean)] ++ wsX10)
def wsX1_placeOfPage : List Cond := .code yX1_placeOfPage cX1_placeOfPage 2 (some .int) :: ([])
def wsX1_numberOfNode : List Cond := .code yX1_numberOfNode cX1_numberOfNode 3 (some .int) :: ([.fieldLink RX1 19 "SealedPages$Layout" "nodesAhead" "[I"] ++ wsX10)
def wsX1_placeOfNode : List Cond := .code yX1_placeOfNode cX1_placeOfNode 3 (some .int) :: ([.fieldLink RX1 9 "SealedPages$Layout" "pageCount" "I", .methodLink RX1 35 yX1_numberOfNode, .instanceMethod yX1_numberOfNode, .selects RX1 yX1_numberOfNode yX1_numberOfNode, .initialized RX1, .code yX1_numberOfNode cX1_numberOfNode 3 (some .int), .fieldLink RX1 19 "SealedPages$Layout" "nodesAhead" "[I"] ++ wsX10)
def wsX2_headByteAsTold : List Cond := .code yX2_headByteAsTold cX2_headByteAsTold 2 (some .int) :: ([.fieldLink RX2 23 "SealedPages" "layout" "LSealedPages$Layout;", .fieldLink RX2 109 "SealedPages$Layout" "pageCount" "I"] ++ wsX20 ++ wsX10)
def wsX2_hashNode_r1 : List Cond := [Cond.fieldLink RX2 30 "SealedPages" "hasher" "LSealedPages$Hasher;", Cond.fieldLink RX2 38 "SealedPages" "diskBytes" "[I", Cond.fieldLink RX2 23 "SealedPages" "layout" "LSealedPages$Layout;", Cond.methodLink RX2 131 yX0_begin, Cond.instanceMethod yX0_begin, Cond.selects RX0 yX0_begin yX0_begin, Cond.initialized RX0, Cond.code yX0_begin cX0_begin 1 none, Cond.fieldLink RX0 18 "SealedPages$Hasher" "FIRST_SUMS" "[I", Cond.fieldLink RX0 9 "SealedPages$Hasher" "sums" "[I", Cond.methodLink RX0 21 arraycopyName, Cond.native arraycopyName, Cond.static arraycopyName, Cond.initialized "java/lang/System", Cond.fieldLink RX0 27 "SealedPages$Hasher" "length" "I", Cond.methodLink RX2 144 yX0_addByte, Cond.instanceMethod yX0_addByte, Cond.selects RX0 yX0_addByte yX0_addByte, Cond.code yX0_addByte cX0_addByte 3 none, Cond.fieldLink RX0 15 "SealedPages$Hasher" "words" "[I", Cond.methodLink RX0 31 yX0_spreadWords, Cond.instanceMethod yX0_spreadWords, Cond.selects RX0 yX0_spreadWords yX0_spreadWords, Cond.code yX0_spreadWords cX0_spreadWords 6 none]
def wsX2_hashNode_r2 : List Cond := [Cond.methodLink RX0 34 yX0_mixBlock, Cond.instanceMethod yX0_mixBlock, Cond.selects RX0 yX0_mixBlock yX0_mixBlock, Cond.code yX0_mixBlock cX0_mixBlock 14 none, Cond.fieldLink RX0 47 "SealedPages$Hasher" "CONSTANTS" "[I", Cond.methodLink RX2 71 yX1_placeOfPage, Cond.instanceMethod yX1_placeOfPage, Cond.selects RX1 yX1_placeOfPage yX1_placeOfPage, Cond.initialized RX1, Cond.code yX1_placeOfPage cX1_placeOfPage 2 (some .int), Cond.methodLink RX2 134 yX0_addRow, Cond.instanceMethod yX0_addRow, Cond.selects RX0 yX0_addRow yX0_addRow, Cond.code yX0_addRow cX0_addRow 5 none, Cond.methodLink RX0 37 yX0_addByte, Cond.methodLink RX2 115 yX1_hasNode, Cond.instanceMethod yX1_hasNode, Cond.selects RX1 yX1_hasNode yX1_hasNode, Cond.code yX1_hasNode cX1_hasNode 3 (some .boolean), Cond.fieldLink RX1 22 "SealedPages$Layout" "levelCount" "I", Cond.fieldLink RX1 15 "SealedPages$Layout" "widths" "[I", Cond.static yX2_isBelow, Cond.initialized RX2, Cond.code yX2_isBelow cX2_isBelow 2 (some .boolean)]
def wsX2_hashNode_r3 : List Cond := [Cond.methodLink RX2 118 yX1_placeOfNode, Cond.instanceMethod yX1_placeOfNode, Cond.selects RX1 yX1_placeOfNode yX1_placeOfNode, Cond.code yX1_placeOfNode cX1_placeOfNode 3 (some .int), Cond.fieldLink RX1 9 "SealedPages$Layout" "pageCount" "I", Cond.methodLink RX1 35 yX1_numberOfNode, Cond.instanceMethod yX1_numberOfNode, Cond.selects RX1 yX1_numberOfNode yX1_numberOfNode, Cond.code yX1_numberOfNode cX1_numberOfNode 3 (some .int), Cond.fieldLink RX1 19 "SealedPages$Layout" "nodesAhead" "[I", Cond.methodLink RX2 138 yX0_finish, Cond.instanceMethod yX0_finish, Cond.selects RX0 yX0_finish yX0_finish, Cond.code yX0_finish cX0_finish 5 none, Cond.constantLong RX0 41 (8)]
def wsX2_hashNode : List Cond := .code yX2_hashNode cX2_hashNode 4 none :: ((wsX2_hashNode_r1 ++ (wsX2_hashNode_r2 ++ wsX2_hashNode_r3)) ++ wsX20 ++ wsX00 ++ wsX10)
def wsX2_sealNode_r1 : List Cond := [Cond.fieldLink RX2 30 "SealedPages" "hasher" "LSealedPages$Hasher;", Cond.fieldLink RX2 38 "SealedPages" "diskBytes" "[I", Cond.fieldLink RX2 23 "SealedPages" "layout" "LSealedPages$Layout;", Cond.methodLink RX2 157 yX2_hashNode, Cond.instanceMethod yX2_hashNode, Cond.selects RX2 yX2_hashNode yX2_hashNode, Cond.initialized RX2, Cond.code yX2_hashNode cX2_hashNode 4 none, Cond.methodLink RX2 131 yX0_begin, Cond.instanceMethod yX0_begin, Cond.selects RX0 yX0_begin yX0_begin, Cond.initialized RX0, Cond.code yX0_begin cX0_begin 1 none, Cond.fieldLink RX0 18 "SealedPages$Hasher" "FIRST_SUMS" "[I", Cond.fieldLink RX0 9 "SealedPages$Hasher" "sums" "[I", Cond.methodLink RX0 21 arraycopyName, Cond.native arraycopyName, Cond.static arraycopyName, Cond.initialized "java/lang/System", Cond.fieldLink RX0 27 "SealedPages$Hasher" "length" "I", Cond.methodLink RX2 144 yX0_addByte, Cond.instanceMethod yX0_addByte, Cond.selects RX0 yX0_addByte yX0_addByte, Cond.code yX0_addByte cX0_addByte 3 none]
def wsX2_sealNode_r2 : List Cond := [Cond.fieldLink RX0 15 "SealedPages$Hasher" "words" "[I", Cond.methodLink RX0 31 yX0_spreadWords, Cond.instanceMethod yX0_spreadWords, Cond.selects RX0 yX0_spreadWords yX0_spreadWords, Cond.code yX0_spreadWords cX0_spreadWords 6 none, Cond.methodLink RX0 34 yX0_mixBlock, Cond.instanceMethod yX0_mixBlock, Cond.selects RX0 yX0_mixBlock yX0_mixBlock, Cond.code yX0_mixBlock cX0_mixBlock 14 none, Cond.fieldLink RX0 47 "SealedPages$Hasher" "CONSTANTS" "[I", Cond.methodLink RX2 71 yX1_placeOfPage, Cond.instanceMethod yX1_placeOfPage, Cond.selects RX1 yX1_placeOfPage yX1_placeOfPage, Cond.initialized RX1, Cond.code yX1_placeOfPage cX1_placeOfPage 2 (some .int), Cond.methodLink RX2 134 yX0_addRow, Cond.instanceMethod yX0_addRow, Cond.selects RX0 yX0_addRow yX0_addRow, Cond.code yX0_addRow cX0_addRow 5 none, Cond.methodLink RX0 37 yX0_addByte, Cond.methodLink RX2 115 yX1_hasNode, Cond.instanceMethod yX1_hasNode, Cond.selects RX1 yX1_hasNode yX1_hasNode, Cond.code yX1_hasNode cX1_hasNode 3 (some .boolean)]
def wsX2_sealNode_r3 : List Cond := [Cond.fieldLink RX1 22 "SealedPages$Layout" "levelCount" "I", Cond.fieldLink RX1 15 "SealedPages$Layout" "widths" "[I", Cond.static yX2_isBelow, Cond.code yX2_isBelow cX2_isBelow 2 (some .boolean), Cond.methodLink RX2 118 yX1_placeOfNode, Cond.instanceMethod yX1_placeOfNode, Cond.selects RX1 yX1_placeOfNode yX1_placeOfNode, Cond.code yX1_placeOfNode cX1_placeOfNode 3 (some .int), Cond.fieldLink RX1 9 "SealedPages$Layout" "pageCount" "I", Cond.methodLink RX1 35 yX1_numberOfNode, Cond.instanceMethod yX1_numberOfNode, Cond.selects RX1 yX1_numberOfNode yX1_numberOfNode, Cond.code yX1_numberOfNode cX1_numberOfNode 3 (some .int), Cond.fieldLink RX1 19 "SealedPages$Layout" "nodesAhead" "[I", Cond.methodLink RX2 138 yX0_finish, Cond.instanceMethod yX0_finish, Cond.selects RX0 yX0_finish yX0_finish, Cond.code yX0_finish cX0_finish 5 none, Cond.constantLong RX0 41 (8), Cond.methodLink RX2 164 yX0_copyResult, Cond.instanceMethod yX0_copyResult, Cond.selects RX0 yX0_copyResult yX0_copyResult, Cond.code yX0_copyResult cX0_copyResult 4 none, Cond.methodLink RX0 43 yX0_resultByte]
def wsX2_sealNode_r4 : List Cond := [Cond.instanceMethod yX0_resultByte, Cond.selects RX0 yX0_resultByte yX0_resultByte, Cond.code yX0_resultByte cX0_resultByte 2 (some .int)]
def wsX2_sealNode : List Cond := .code yX2_sealNode cX2_sealNode 3 none :: ((wsX2_sealNode_r1 ++ (wsX2_sealNode_r2 ++ (wsX2_sealNode_r3 ++ wsX2_sealNode_r4))) ++ wsX20 ++ wsX00 ++ wsX10)
def wsX2_hashHeadAndLastNode_r1 : List Cond := [Cond.fieldLink RX2 30 "SealedPages" "hasher" "LSealedPages$Hasher;", Cond.fieldLink RX2 38 "SealedPages" "diskBytes" "[I", Cond.fieldLink RX2 23 "SealedPages" "layout" "LSealedPages$Layout;", Cond.fieldLink RX2 100 "SealedPages$Layout" "levelCount" "I", Cond.methodLink RX2 131 yX0_begin, Cond.instanceMethod yX0_begin, Cond.selects RX0 yX0_begin yX0_begin, Cond.initialized RX0, Cond.code yX0_begin cX0_begin 1 none, Cond.fieldLink RX0 18 "SealedPages$Hasher" "FIRST_SUMS" "[I", Cond.fieldLink RX0 9 "SealedPages$Hasher" "sums" "[I", Cond.methodLink RX0 21 arraycopyName, Cond.native arraycopyName, Cond.static arraycopyName, Cond.initialized "java/lang/System", Cond.fieldLink RX0 27 "SealedPages$Hasher" "length" "I", Cond.methodLink RX2 134 yX0_addRow, Cond.instanceMethod yX0_addRow, Cond.selects RX0 yX0_addRow yX0_addRow, Cond.code yX0_addRow cX0_addRow 5 none, Cond.methodLink RX0 37 yX0_addByte, Cond.instanceMethod yX0_addByte, Cond.selects RX0 yX0_addByte yX0_addByte, Cond.code yX0_addByte cX0_addByte 3 none]
def wsX2_hashHeadAndLastNode_r2 : List Cond := [Cond.fieldLink RX0 15 "SealedPages$Hasher" "words" "[I", Cond.methodLink RX0 31 yX0_spreadWords, Cond.instanceMethod yX0_spreadWords, Cond.selects RX0 yX0_spreadWords yX0_spreadWords, Cond.code yX0_spreadWords cX0_spreadWords 6 none, Cond.methodLink RX0 34 yX0_mixBlock, Cond.instanceMethod yX0_mixBlock, Cond.selects RX0 yX0_mixBlock yX0_mixBlock, Cond.code yX0_mixBlock cX0_mixBlock 14 none, Cond.fieldLink RX0 47 "SealedPages$Hasher" "CONSTANTS" "[I", Cond.methodLink RX2 118 yX1_placeOfNode, Cond.instanceMethod yX1_placeOfNode, Cond.selects RX1 yX1_placeOfNode yX1_placeOfNode, Cond.initialized RX1, Cond.code yX1_placeOfNode cX1_placeOfNode 3 (some .int), Cond.fieldLink RX1 9 "SealedPages$Layout" "pageCount" "I", Cond.methodLink RX1 35 yX1_numberOfNode, Cond.instanceMethod yX1_numberOfNode, Cond.selects RX1 yX1_numberOfNode yX1_numberOfNode, Cond.code yX1_numberOfNode cX1_numberOfNode 3 (some .int), Cond.fieldLink RX1 19 "SealedPages$Layout" "nodesAhead" "[I", Cond.methodLink RX2 138 yX0_finish, Cond.instanceMethod yX0_finish, Cond.selects RX0 yX0_finish yX0_finish]
def wsX2_hashHeadAndLastNode_r3 : List Cond := [Cond.code yX0_finish cX0_finish 5 none, Cond.constantLong RX0 41 (8)]
def wsX2_hashHeadAndLastNode : List Cond := .code yX2_hashHeadAndLastNode cX2_hashHeadAndLastNode 1 none :: ((wsX2_hashHeadAndLastNode_r1 ++ (wsX2_hashHeadAndLastNode_r2 ++ wsX2_hashHeadAndLastNode_r3)) ++ wsX20 ++ wsX10 ++ wsX00)
def wsX2_sealRoot_r1 : List Cond := [Cond.fieldLink RX2 30 "SealedPages" "hasher" "LSealedPages$Hasher;", Cond.fieldLink RX2 42 "SealedPages" "rootBytes" "[I", Cond.methodLink RX2 150 yX2_hashHeadAndLastNode, Cond.instanceMethod yX2_hashHeadAndLastNode, Cond.selects RX2 yX2_hashHeadAndLastNode yX2_hashHeadAndLastNode, Cond.initialized RX2, Cond.code yX2_hashHeadAndLastNode cX2_hashHeadAndLastNode 1 none, Cond.fieldLink RX2 38 "SealedPages" "diskBytes" "[I", Cond.fieldLink RX2 23 "SealedPages" "layout" "LSealedPages$Layout;", Cond.fieldLink RX2 100 "SealedPages$Layout" "levelCount" "I", Cond.methodLink RX2 131 yX0_begin, Cond.instanceMethod yX0_begin, Cond.selects RX0 yX0_begin yX0_begin, Cond.initialized RX0, Cond.code yX0_begin cX0_begin 1 none, Cond.fieldLink RX0 18 "SealedPages$Hasher" "FIRST_SUMS" "[I", Cond.fieldLink RX0 9 "SealedPages$Hasher" "sums" "[I", Cond.methodLink RX0 21 arraycopyName, Cond.native arraycopyName, Cond.static arraycopyName, Cond.initialized "java/lang/System", Cond.fieldLink RX0 27 "SealedPages$Hasher" "length" "I", Cond.methodLink RX2 134 yX0_addRow, Cond.instanceMethod yX0_addRow]
def wsX2_sealRoot_r2 : List Cond := [Cond.selects RX0 yX0_addRow yX0_addRow, Cond.code yX0_addRow cX0_addRow 5 none, Cond.methodLink RX0 37 yX0_addByte, Cond.instanceMethod yX0_addByte, Cond.selects RX0 yX0_addByte yX0_addByte, Cond.code yX0_addByte cX0_addByte 3 none, Cond.fieldLink RX0 15 "SealedPages$Hasher" "words" "[I", Cond.methodLink RX0 31 yX0_spreadWords, Cond.instanceMethod yX0_spreadWords, Cond.selects RX0 yX0_spreadWords yX0_spreadWords, Cond.code yX0_spreadWords cX0_spreadWords 6 none, Cond.methodLink RX0 34 yX0_mixBlock, Cond.instanceMethod yX0_mixBlock, Cond.selects RX0 yX0_mixBlock yX0_mixBlock, Cond.code yX0_mixBlock cX0_mixBlock 14 none, Cond.fieldLink RX0 47 "SealedPages$Hasher" "CONSTANTS" "[I", Cond.methodLink RX2 118 yX1_placeOfNode, Cond.instanceMethod yX1_placeOfNode, Cond.selects RX1 yX1_placeOfNode yX1_placeOfNode, Cond.initialized RX1, Cond.code yX1_placeOfNode cX1_placeOfNode 3 (some .int), Cond.fieldLink RX1 9 "SealedPages$Layout" "pageCount" "I", Cond.methodLink RX1 35 yX1_numberOfNode, Cond.instanceMethod yX1_numberOfNode]
def wsX2_sealRoot_r3 : List Cond := [Cond.selects RX1 yX1_numberOfNode yX1_numberOfNode, Cond.code yX1_numberOfNode cX1_numberOfNode 3 (some .int), Cond.fieldLink RX1 19 "SealedPages$Layout" "nodesAhead" "[I", Cond.methodLink RX2 138 yX0_finish, Cond.instanceMethod yX0_finish, Cond.selects RX0 yX0_finish yX0_finish, Cond.code yX0_finish cX0_finish 5 none, Cond.constantLong RX0 41 (8), Cond.methodLink RX2 164 yX0_copyResult, Cond.instanceMethod yX0_copyResult, Cond.selects RX0 yX0_copyResult yX0_copyResult, Cond.code yX0_copyResult cX0_copyResult 4 none, Cond.methodLink RX0 43 yX0_resultByte, Cond.instanceMethod yX0_resultByte, Cond.selects RX0 yX0_resultByte yX0_resultByte, Cond.code yX0_resultByte cX0_resultByte 2 (some .int)]
def wsX2_sealRoot : List Cond := .code yX2_sealRoot cX2_sealRoot 1 none :: ((wsX2_sealRoot_r1 ++ (wsX2_sealRoot_r2 ++ wsX2_sealRoot_r3)) ++ wsX20 ++ wsX10 ++ wsX00)
def wsX2_sealAll_r1 : List Cond := [Cond.fieldLink RX2 38 "SealedPages" "diskBytes" "[I", Cond.fieldLink RX2 23 "SealedPages" "layout" "LSealedPages$Layout;", Cond.fieldLink RX2 100 "SealedPages$Layout" "levelCount" "I", Cond.fieldLink RX2 161 "SealedPages$Layout" "widths" "[I", Cond.methodLink RX2 147 yX2_headByteAsTold, Cond.instanceMethod yX2_headByteAsTold, Cond.selects RX2 yX2_headByteAsTold yX2_headByteAsTold, Cond.initialized RX2, Cond.code yX2_headByteAsTold cX2_headByteAsTold 2 (some .int), Cond.fieldLink RX2 109 "SealedPages$Layout" "pageCount" "I", Cond.methodLink RX2 168 yX2_sealNode, Cond.instanceMethod yX2_sealNode, Cond.selects RX2 yX2_sealNode yX2_sealNode, Cond.code yX2_sealNode cX2_sealNode 3 none, Cond.fieldLink RX2 30 "SealedPages" "hasher" "LSealedPages$Hasher;", Cond.methodLink RX2 157 yX2_hashNode, Cond.instanceMethod yX2_hashNode, Cond.selects RX2 yX2_hashNode yX2_hashNode, Cond.code yX2_hashNode cX2_hashNode 4 none, Cond.methodLink RX2 131 yX0_begin, Cond.instanceMethod yX0_begin, Cond.selects RX0 yX0_begin yX0_begin, Cond.initialized RX0, Cond.code yX0_begin cX0_begin 1 none]
def wsX2_sealAll_r2 : List Cond := [Cond.fieldLink RX0 18 "SealedPages$Hasher" "FIRST_SUMS" "[I", Cond.fieldLink RX0 9 "SealedPages$Hasher" "sums" "[I", Cond.methodLink RX0 21 arraycopyName, Cond.native arraycopyName, Cond.static arraycopyName, Cond.initialized "java/lang/System", Cond.fieldLink RX0 27 "SealedPages$Hasher" "length" "I", Cond.methodLink RX2 144 yX0_addByte, Cond.instanceMethod yX0_addByte, Cond.selects RX0 yX0_addByte yX0_addByte, Cond.code yX0_addByte cX0_addByte 3 none, Cond.fieldLink RX0 15 "SealedPages$Hasher" "words" "[I", Cond.methodLink RX0 31 yX0_spreadWords, Cond.instanceMethod yX0_spreadWords, Cond.selects RX0 yX0_spreadWords yX0_spreadWords, Cond.code yX0_spreadWords cX0_spreadWords 6 none, Cond.methodLink RX0 34 yX0_mixBlock, Cond.instanceMethod yX0_mixBlock, Cond.selects RX0 yX0_mixBlock yX0_mixBlock, Cond.code yX0_mixBlock cX0_mixBlock 14 none, Cond.fieldLink RX0 47 "SealedPages$Hasher" "CONSTANTS" "[I", Cond.methodLink RX2 71 yX1_placeOfPage, Cond.instanceMethod yX1_placeOfPage, Cond.selects RX1 yX1_placeOfPage yX1_placeOfPage]
def wsX2_sealAll_r3 : List Cond := [Cond.initialized RX1, Cond.code yX1_placeOfPage cX1_placeOfPage 2 (some .int), Cond.methodLink RX2 134 yX0_addRow, Cond.instanceMethod yX0_addRow, Cond.selects RX0 yX0_addRow yX0_addRow, Cond.code yX0_addRow cX0_addRow 5 none, Cond.methodLink RX0 37 yX0_addByte, Cond.methodLink RX2 115 yX1_hasNode, Cond.instanceMethod yX1_hasNode, Cond.selects RX1 yX1_hasNode yX1_hasNode, Cond.code yX1_hasNode cX1_hasNode 3 (some .boolean), Cond.fieldLink RX1 22 "SealedPages$Layout" "levelCount" "I", Cond.fieldLink RX1 15 "SealedPages$Layout" "widths" "[I", Cond.static yX2_isBelow, Cond.code yX2_isBelow cX2_isBelow 2 (some .boolean), Cond.methodLink RX2 118 yX1_placeOfNode, Cond.instanceMethod yX1_placeOfNode, Cond.selects RX1 yX1_placeOfNode yX1_placeOfNode, Cond.code yX1_placeOfNode cX1_placeOfNode 3 (some .int), Cond.fieldLink RX1 9 "SealedPages$Layout" "pageCount" "I", Cond.methodLink RX1 35 yX1_numberOfNode, Cond.instanceMethod yX1_numberOfNode, Cond.selects RX1 yX1_numberOfNode yX1_numberOfNode, Cond.code yX1_numberOfNode cX1_numberOfNode 3 (some .int)]
def wsX2_sealAll_r4 : List Cond := [Cond.fieldLink RX1 19 "SealedPages$Layout" "nodesAhead" "[I", Cond.methodLink RX2 138 yX0_finish, Cond.instanceMethod yX0_finish, Cond.selects RX0 yX0_finish yX0_finish, Cond.code yX0_finish cX0_finish 5 none, Cond.constantLong RX0 41 (8), Cond.methodLink RX2 164 yX0_copyResult, Cond.instanceMethod yX0_copyResult, Cond.selects RX0 yX0_copyResult yX0_copyResult, Cond.code yX0_copyResult cX0_copyResult 4 none, Cond.methodLink RX0 43 yX0_resultByte, Cond.instanceMethod yX0_resultByte, Cond.selects RX0 yX0_resultByte yX0_resultByte, Cond.code yX0_resultByte cX0_resultByte 2 (some .int), Cond.methodLink RX2 171 yX2_sealRoot, Cond.instanceMethod yX2_sealRoot, Cond.selects RX2 yX2_sealRoot yX2_sealRoot, Cond.code yX2_sealRoot cX2_sealRoot 1 none, Cond.fieldLink RX2 42 "SealedPages" "rootBytes" "[I", Cond.methodLink RX2 150 yX2_hashHeadAndLastNode, Cond.instanceMethod yX2_hashHeadAndLastNode, Cond.selects RX2 yX2_hashHeadAndLastNode yX2_hashHeadAndLastNode, Cond.code yX2_hashHeadAndLastNode cX2_hashHeadAndLastNode 1 none]
def wsX2_sealAll : List Cond := .code yX2_sealAll cX2_sealAll 3 none :: ((wsX2_sealAll_r1 ++ (wsX2_sealAll_r2 ++ (wsX2_sealAll_r3 ++ wsX2_sealAll_r4))) ++ wsX20 ++ wsX10 ++ wsX00)
def wsX2_init_r1 : List Cond := [Cond.methodLink RX2 1 objectInit, Cond.instanceMethod objectInit, Cond.code objectInit ⟨#[0xb1]⟩ 1 none, Cond.classLink RX2 7 RX1, Cond.instantiable RX1 6, Cond.initialized RX1, Cond.methodLink RX2 11 Lib.Math.min.name, Cond.static Lib.Math.min.name, Cond.initialized "java/lang/Math", Cond.code Lib.Math.min.name Lib.Math.min.code 2 (some .int), Cond.methodLink RX2 17 Lib.Math.max.name, Cond.static Lib.Math.max.name, Cond.code Lib.Math.max.name Lib.Math.max.code 2 (some .int), Cond.fieldLink RX2 23 "SealedPages" "layout" "LSealedPages$Layout;", Cond.classLink RX2 27 RX0, Cond.instantiable RX0 3, Cond.initialized RX0, Cond.fieldLink RX2 30 "SealedPages" "hasher" "LSealedPages$Hasher;", Cond.fieldLink RX2 34 "SealedPages$Layout" "byteCount" "I", Cond.arrayClass .int, Cond.fieldLink RX2 38 "SealedPages" "diskBytes" "[I", Cond.fieldLink RX2 42 "SealedPages" "rootBytes" "[I", Cond.fieldLink RX2 45 "SealedPages" "draftBytes" "[I", Cond.fieldLink RX2 48 "SealedPages" "keptDisk" "[I"]
def wsX2_init_r2 : List Cond := [Cond.fieldLink RX2 51 "SealedPages" "keptRoot" "[I", Cond.fieldLink RX2 54 "SealedPages$Layout" "nodeCount" "I", Cond.fieldLink RX2 57 "SealedPages" "faultsDownTo" "[I", Cond.methodLink RX2 20 yX1_init, Cond.instanceMethod yX1_init, Cond.code yX1_init cX1_init 6 none, Cond.methodLink RX1 3 objectInit, Cond.fieldLink RX1 9 "SealedPages$Layout" "pageCount" "I", Cond.fieldLink RX1 15 "SealedPages$Layout" "widths" "[I", Cond.fieldLink RX1 19 "SealedPages$Layout" "nodesAhead" "[I", Cond.fieldLink RX1 22 "SealedPages$Layout" "levelCount" "I", Cond.fieldLink RX1 25 "SealedPages$Layout" "nodeCount" "I", Cond.fieldLink RX1 28 "SealedPages$Layout" "byteCount" "I", Cond.instanceMethod yX0_init, Cond.code yX0_init cX0_init 1 none, Cond.methodLink RX0 3 objectInit, Cond.fieldLink RX0 9 "SealedPages$Hasher" "sums" "[I", Cond.fieldLink RX0 15 "SealedPages$Hasher" "words" "[I", Cond.methodLink RX2 60 yX2_sealAll, Cond.instanceMethod yX2_sealAll, Cond.selects RX2 yX2_sealAll yX2_sealAll, Cond.initialized RX2, Cond.code yX2_sealAll cX2_sealAll 3 none, Cond.fieldLink RX2 100 "SealedPages$Layout" "levelCount" "I"]
def wsX2_init_r3 : List Cond := [Cond.fieldLink RX2 161 "SealedPages$Layout" "widths" "[I", Cond.methodLink RX2 147 yX2_headByteAsTold, Cond.instanceMethod yX2_headByteAsTold, Cond.selects RX2 yX2_headByteAsTold yX2_headByteAsTold, Cond.code yX2_headByteAsTold cX2_headByteAsTold 2 (some .int), Cond.fieldLink RX2 109 "SealedPages$Layout" "pageCount" "I", Cond.methodLink RX2 168 yX2_sealNode, Cond.instanceMethod yX2_sealNode, Cond.selects RX2 yX2_sealNode yX2_sealNode, Cond.code yX2_sealNode cX2_sealNode 3 none, Cond.methodLink RX2 157 yX2_hashNode, Cond.instanceMethod yX2_hashNode, Cond.selects RX2 yX2_hashNode yX2_hashNode, Cond.code yX2_hashNode cX2_hashNode 4 none, Cond.methodLink RX2 131 yX0_begin, Cond.instanceMethod yX0_begin, Cond.selects RX0 yX0_begin yX0_begin, Cond.code yX0_begin cX0_begin 1 none, Cond.fieldLink RX0 18 "SealedPages$Hasher" "FIRST_SUMS" "[I", Cond.methodLink RX0 21 arraycopyName, Cond.native arraycopyName, Cond.static arraycopyName, Cond.initialized "java/lang/System", Cond.fieldLink RX0 27 "SealedPages$Hasher" "length" "I"]
def wsX2_init_r4 : List Cond := [Cond.methodLink RX2 144 yX0_addByte, Cond.instanceMethod yX0_addByte, Cond.selects RX0 yX0_addByte yX0_addByte, Cond.code yX0_addByte cX0_addByte 3 none, Cond.methodLink RX0 31 yX0_spreadWords, Cond.instanceMethod yX0_spreadWords, Cond.selects RX0 yX0_spreadWords yX0_spreadWords, Cond.code yX0_spreadWords cX0_spreadWords 6 none, Cond.methodLink RX0 34 yX0_mixBlock, Cond.instanceMethod yX0_mixBlock, Cond.selects RX0 yX0_mixBlock yX0_mixBlock, Cond.code yX0_mixBlock cX0_mixBlock 14 none, Cond.fieldLink RX0 47 "SealedPages$Hasher" "CONSTANTS" "[I", Cond.methodLink RX2 71 yX1_placeOfPage, Cond.instanceMethod yX1_placeOfPage, Cond.selects RX1 yX1_placeOfPage yX1_placeOfPage, Cond.code yX1_placeOfPage cX1_placeOfPage 2 (some .int), Cond.methodLink RX2 134 yX0_addRow, Cond.instanceMethod yX0_addRow, Cond.selects RX0 yX0_addRow yX0_addRow, Cond.code yX0_addRow cX0_addRow 5 none, Cond.methodLink RX0 37 yX0_addByte, Cond.methodLink RX2 115 yX1_hasNode, Cond.instanceMethod yX1_hasNode]
def wsX2_init_r5 : List Cond := [Cond.selects RX1 yX1_hasNode yX1_hasNode, Cond.code yX1_hasNode cX1_hasNode 3 (some .boolean), Cond.static yX2_isBelow, Cond.code yX2_isBelow cX2_isBelow 2 (some .boolean), Cond.methodLink RX2 118 yX1_placeOfNode, Cond.instanceMethod yX1_placeOfNode, Cond.selects RX1 yX1_placeOfNode yX1_placeOfNode, Cond.code yX1_placeOfNode cX1_placeOfNode 3 (some .int), Cond.methodLink RX1 35 yX1_numberOfNode, Cond.instanceMethod yX1_numberOfNode, Cond.selects RX1 yX1_numberOfNode yX1_numberOfNode, Cond.code yX1_numberOfNode cX1_numberOfNode 3 (some .int), Cond.methodLink RX2 138 yX0_finish, Cond.instanceMethod yX0_finish, Cond.selects RX0 yX0_finish yX0_finish, Cond.code yX0_finish cX0_finish 5 none, Cond.constantLong RX0 41 (8), Cond.methodLink RX2 164 yX0_copyResult, Cond.instanceMethod yX0_copyResult, Cond.selects RX0 yX0_copyResult yX0_copyResult, Cond.code yX0_copyResult cX0_copyResult 4 none, Cond.methodLink RX0 43 yX0_resultByte, Cond.instanceMethod yX0_resultByte, Cond.selects RX0 yX0_resultByte yX0_resultByte]
def wsX2_init_r6 : List Cond := [Cond.code yX0_resultByte cX0_resultByte 2 (some .int), Cond.methodLink RX2 171 yX2_sealRoot, Cond.instanceMethod yX2_sealRoot, Cond.selects RX2 yX2_sealRoot yX2_sealRoot, Cond.code yX2_sealRoot cX2_sealRoot 1 none, Cond.methodLink RX2 150 yX2_hashHeadAndLastNode, Cond.instanceMethod yX2_hashHeadAndLastNode, Cond.selects RX2 yX2_hashHeadAndLastNode yX2_hashHeadAndLastNode, Cond.code yX2_hashHeadAndLastNode cX2_hashHeadAndLastNode 1 none]
def wsX2_init : List Cond := .code yX2_init cX2_init 2 none :: ((wsX2_init_r1 ++ (wsX2_init_r2 ++ (wsX2_init_r3 ++ (wsX2_init_r4 ++ (wsX2_init_r5 ++ wsX2_init_r6))))) ++ wsX10 ++ wsX20 ++ wsX00)
def wsX2_put : List Cond := .code yX2_put cX2_put 4 (some .int) :: ([.fieldLink RX2 45 "SealedPages" "draftBytes" "[I", .methodLink RX2 63 yX2_isBelow, .static yX2_isBelow, .initialized RX2, .code yX2_isBelow cX2_isBelow 2 (some .boolean)] ++ wsX20)
def wsX2_fill : List Cond := .code yX2_fill cX2_fill 6 (some .int) :: ([.fieldLink RX2 45 "SealedPages" "draftBytes" "[I", .methodLink RX2 63 yX2_isBelow, .static yX2_isBelow, .initialized RX2, .code yX2_isBelow cX2_isBelow 2 (some .boolean)] ++ wsX20)
def wsX2_draft : List Cond := .code yX2_draft cX2_draft 2 (some .int) :: ([.fieldLink RX2 45 "SealedPages" "draftBytes" "[I", .methodLink RX2 63 yX2_isBelow, .static yX2_isBelow, .initialized RX2, .code yX2_isBelow cX2_isBelow 2 (some .boolean)] ++ wsX20)
def wsX2_faultAboveTree_r1 : List Cond := [Cond.fieldLink RX2 38 "SealedPages" "diskBytes" "[I", Cond.fieldLink RX2 30 "SealedPages" "hasher" "LSealedPages$Hasher;", Cond.fieldLink RX2 42 "SealedPages" "rootBytes" "[I", Cond.methodLink RX2 147 yX2_headByteAsTold, Cond.instanceMethod yX2_headByteAsTold, Cond.selects RX2 yX2_headByteAsTold yX2_headByteAsTold, Cond.initialized RX2, Cond.code yX2_headByteAsTold cX2_headByteAsTold 2 (some .int), Cond.fieldLink RX2 23 "SealedPages" "layout" "LSealedPages$Layout;", Cond.fieldLink RX2 109 "SealedPages$Layout" "pageCount" "I", Cond.methodLink RX2 150 yX2_hashHeadAndLastNode, Cond.instanceMethod yX2_hashHeadAndLastNode, Cond.selects RX2 yX2_hashHeadAndLastNode yX2_hashHeadAndLastNode, Cond.code yX2_hashHeadAndLastNode cX2_hashHeadAndLastNode 1 none, Cond.fieldLink RX2 100 "SealedPages$Layout" "levelCount" "I", Cond.methodLink RX2 131 yX0_begin, Cond.instanceMethod yX0_begin, Cond.selects RX0 yX0_begin yX0_begin, Cond.initialized RX0, Cond.code yX0_begin cX0_begin 1 none, Cond.fieldLink RX0 18 "SealedPages$Hasher" "FIRST_SUMS" "[I", Cond.fieldLink RX0 9 "SealedPages$Hasher" "sums" "[I", Cond.methodLink RX0 21 arraycopyName, Cond.native arraycopyName]
def wsX2_faultAboveTree_r2 : List Cond := [Cond.static arraycopyName, Cond.initialized "java/lang/System", Cond.fieldLink RX0 27 "SealedPages$Hasher" "length" "I", Cond.methodLink RX2 134 yX0_addRow, Cond.instanceMethod yX0_addRow, Cond.selects RX0 yX0_addRow yX0_addRow, Cond.code yX0_addRow cX0_addRow 5 none, Cond.methodLink RX0 37 yX0_addByte, Cond.instanceMethod yX0_addByte, Cond.selects RX0 yX0_addByte yX0_addByte, Cond.code yX0_addByte cX0_addByte 3 none, Cond.fieldLink RX0 15 "SealedPages$Hasher" "words" "[I", Cond.methodLink RX0 31 yX0_spreadWords, Cond.instanceMethod yX0_spreadWords, Cond.selects RX0 yX0_spreadWords yX0_spreadWords, Cond.code yX0_spreadWords cX0_spreadWords 6 none, Cond.methodLink RX0 34 yX0_mixBlock, Cond.instanceMethod yX0_mixBlock, Cond.selects RX0 yX0_mixBlock yX0_mixBlock, Cond.code yX0_mixBlock cX0_mixBlock 14 none, Cond.fieldLink RX0 47 "SealedPages$Hasher" "CONSTANTS" "[I", Cond.methodLink RX2 118 yX1_placeOfNode, Cond.instanceMethod yX1_placeOfNode, Cond.selects RX1 yX1_placeOfNode yX1_placeOfNode]
def wsX2_faultAboveTree_r3 : List Cond := [Cond.initialized RX1, Cond.code yX1_placeOfNode cX1_placeOfNode 3 (some .int), Cond.fieldLink RX1 9 "SealedPages$Layout" "pageCount" "I", Cond.methodLink RX1 35 yX1_numberOfNode, Cond.instanceMethod yX1_numberOfNode, Cond.selects RX1 yX1_numberOfNode yX1_numberOfNode, Cond.code yX1_numberOfNode cX1_numberOfNode 3 (some .int), Cond.fieldLink RX1 19 "SealedPages$Layout" "nodesAhead" "[I", Cond.methodLink RX2 138 yX0_finish, Cond.instanceMethod yX0_finish, Cond.selects RX0 yX0_finish yX0_finish, Cond.code yX0_finish cX0_finish 5 none, Cond.constantLong RX0 41 (8), Cond.methodLink RX2 153 yX0_resultIsAt, Cond.instanceMethod yX0_resultIsAt, Cond.selects RX0 yX0_resultIsAt yX0_resultIsAt, Cond.code yX0_resultIsAt cX0_resultIsAt 4 (some .boolean), Cond.methodLink RX0 43 yX0_resultByte, Cond.instanceMethod yX0_resultByte, Cond.selects RX0 yX0_resultByte yX0_resultByte, Cond.code yX0_resultByte cX0_resultByte 2 (some .int)]
def wsX2_faultAboveTree : List Cond := .code yX2_faultAboveTree cX2_faultAboveTree 2 (some .int) :: ((wsX2_faultAboveTree_r1 ++ (wsX2_faultAboveTree_r2 ++ wsX2_faultAboveTree_r3)) ++ wsX20 ++ wsX10 ++ wsX00)
def wsX2_faultOfNode_r1 : List Cond := [Cond.fieldLink RX2 30 "SealedPages" "hasher" "LSealedPages$Hasher;", Cond.fieldLink RX2 38 "SealedPages" "diskBytes" "[I", Cond.fieldLink RX2 23 "SealedPages" "layout" "LSealedPages$Layout;", Cond.methodLink RX2 157 yX2_hashNode, Cond.instanceMethod yX2_hashNode, Cond.selects RX2 yX2_hashNode yX2_hashNode, Cond.initialized RX2, Cond.code yX2_hashNode cX2_hashNode 4 none, Cond.methodLink RX2 131 yX0_begin, Cond.instanceMethod yX0_begin, Cond.selects RX0 yX0_begin yX0_begin, Cond.initialized RX0, Cond.code yX0_begin cX0_begin 1 none, Cond.fieldLink RX0 18 "SealedPages$Hasher" "FIRST_SUMS" "[I", Cond.fieldLink RX0 9 "SealedPages$Hasher" "sums" "[I", Cond.methodLink RX0 21 arraycopyName, Cond.native arraycopyName, Cond.static arraycopyName, Cond.initialized "java/lang/System", Cond.fieldLink RX0 27 "SealedPages$Hasher" "length" "I", Cond.methodLink RX2 144 yX0_addByte, Cond.instanceMethod yX0_addByte, Cond.selects RX0 yX0_addByte yX0_addByte, Cond.code yX0_addByte cX0_addByte 3 none]
def wsX2_faultOfNode_r2 : List Cond := [Cond.fieldLink RX0 15 "SealedPages$Hasher" "words" "[I", Cond.methodLink RX0 31 yX0_spreadWords, Cond.instanceMethod yX0_spreadWords, Cond.selects RX0 yX0_spreadWords yX0_spreadWords, Cond.code yX0_spreadWords cX0_spreadWords 6 none, Cond.methodLink RX0 34 yX0_mixBlock, Cond.instanceMethod yX0_mixBlock, Cond.selects RX0 yX0_mixBlock yX0_mixBlock, Cond.code yX0_mixBlock cX0_mixBlock 14 none, Cond.fieldLink RX0 47 "SealedPages$Hasher" "CONSTANTS" "[I", Cond.methodLink RX2 71 yX1_placeOfPage, Cond.instanceMethod yX1_placeOfPage, Cond.selects RX1 yX1_placeOfPage yX1_placeOfPage, Cond.initialized RX1, Cond.code yX1_placeOfPage cX1_placeOfPage 2 (some .int), Cond.methodLink RX2 134 yX0_addRow, Cond.instanceMethod yX0_addRow, Cond.selects RX0 yX0_addRow yX0_addRow, Cond.code yX0_addRow cX0_addRow 5 none, Cond.methodLink RX0 37 yX0_addByte, Cond.methodLink RX2 115 yX1_hasNode, Cond.instanceMethod yX1_hasNode, Cond.selects RX1 yX1_hasNode yX1_hasNode, Cond.code yX1_hasNode cX1_hasNode 3 (some .boolean)]
def wsX2_faultOfNode_r3 : List Cond := [Cond.fieldLink RX1 22 "SealedPages$Layout" "levelCount" "I", Cond.fieldLink RX1 15 "SealedPages$Layout" "widths" "[I", Cond.static yX2_isBelow, Cond.code yX2_isBelow cX2_isBelow 2 (some .boolean), Cond.methodLink RX2 118 yX1_placeOfNode, Cond.instanceMethod yX1_placeOfNode, Cond.selects RX1 yX1_placeOfNode yX1_placeOfNode, Cond.code yX1_placeOfNode cX1_placeOfNode 3 (some .int), Cond.fieldLink RX1 9 "SealedPages$Layout" "pageCount" "I", Cond.methodLink RX1 35 yX1_numberOfNode, Cond.instanceMethod yX1_numberOfNode, Cond.selects RX1 yX1_numberOfNode yX1_numberOfNode, Cond.code yX1_numberOfNode cX1_numberOfNode 3 (some .int), Cond.fieldLink RX1 19 "SealedPages$Layout" "nodesAhead" "[I", Cond.methodLink RX2 138 yX0_finish, Cond.instanceMethod yX0_finish, Cond.selects RX0 yX0_finish yX0_finish, Cond.code yX0_finish cX0_finish 5 none, Cond.constantLong RX0 41 (8), Cond.methodLink RX2 153 yX0_resultIsAt, Cond.instanceMethod yX0_resultIsAt, Cond.selects RX0 yX0_resultIsAt yX0_resultIsAt, Cond.code yX0_resultIsAt cX0_resultIsAt 4 (some .boolean), Cond.methodLink RX0 43 yX0_resultByte]
def wsX2_faultOfNode_r4 : List Cond := [Cond.instanceMethod yX0_resultByte, Cond.selects RX0 yX0_resultByte yX0_resultByte, Cond.code yX0_resultByte cX0_resultByte 2 (some .int)]
def wsX2_faultOfNode : List Cond := .code yX2_faultOfNode cX2_faultOfNode 3 (some .int) :: ((wsX2_faultOfNode_r1 ++ (wsX2_faultOfNode_r2 ++ (wsX2_faultOfNode_r3 ++ wsX2_faultOfNode_r4))) ++ wsX20 ++ wsX00 ++ wsX10)
def wsX2_fault_r1 : List Cond := [Cond.fieldLink RX2 23 "SealedPages" "layout" "LSealedPages$Layout;", Cond.fieldLink RX2 100 "SealedPages$Layout" "levelCount" "I", Cond.methodLink RX2 92 yX1_hasPage, Cond.instanceMethod yX1_hasPage, Cond.selects RX1 yX1_hasPage yX1_hasPage, Cond.initialized RX1, Cond.code yX1_hasPage cX1_hasPage 2 (some .boolean), Cond.fieldLink RX1 9 "SealedPages$Layout" "pageCount" "I", Cond.static yX2_isBelow, Cond.initialized RX2, Cond.code yX2_isBelow cX2_isBelow 2 (some .boolean), Cond.methodLink RX2 96 yX2_faultAboveTree, Cond.instanceMethod yX2_faultAboveTree, Cond.selects RX2 yX2_faultAboveTree yX2_faultAboveTree, Cond.code yX2_faultAboveTree cX2_faultAboveTree 2 (some .int), Cond.fieldLink RX2 38 "SealedPages" "diskBytes" "[I", Cond.fieldLink RX2 30 "SealedPages" "hasher" "LSealedPages$Hasher;", Cond.fieldLink RX2 42 "SealedPages" "rootBytes" "[I", Cond.methodLink RX2 147 yX2_headByteAsTold, Cond.instanceMethod yX2_headByteAsTold, Cond.selects RX2 yX2_headByteAsTold yX2_headByteAsTold, Cond.code yX2_headByteAsTold cX2_headByteAsTold 2 (some .int), Cond.fieldLink RX2 109 "SealedPages$Layout" "pageCount" "I", Cond.methodLink RX2 150 yX2_hashHeadAndLastNode]
def wsX2_fault_r2 : List Cond := [Cond.instanceMethod yX2_hashHeadAndLastNode, Cond.selects RX2 yX2_hashHeadAndLastNode yX2_hashHeadAndLastNode, Cond.code yX2_hashHeadAndLastNode cX2_hashHeadAndLastNode 1 none, Cond.methodLink RX2 131 yX0_begin, Cond.instanceMethod yX0_begin, Cond.selects RX0 yX0_begin yX0_begin, Cond.initialized RX0, Cond.code yX0_begin cX0_begin 1 none, Cond.fieldLink RX0 18 "SealedPages$Hasher" "FIRST_SUMS" "[I", Cond.fieldLink RX0 9 "SealedPages$Hasher" "sums" "[I", Cond.methodLink RX0 21 arraycopyName, Cond.native arraycopyName, Cond.static arraycopyName, Cond.initialized "java/lang/System", Cond.fieldLink RX0 27 "SealedPages$Hasher" "length" "I", Cond.methodLink RX2 134 yX0_addRow, Cond.instanceMethod yX0_addRow, Cond.selects RX0 yX0_addRow yX0_addRow, Cond.code yX0_addRow cX0_addRow 5 none, Cond.methodLink RX0 37 yX0_addByte, Cond.instanceMethod yX0_addByte, Cond.selects RX0 yX0_addByte yX0_addByte, Cond.code yX0_addByte cX0_addByte 3 none, Cond.fieldLink RX0 15 "SealedPages$Hasher" "words" "[I"]
def wsX2_fault_r3 : List Cond := [Cond.methodLink RX0 31 yX0_spreadWords, Cond.instanceMethod yX0_spreadWords, Cond.selects RX0 yX0_spreadWords yX0_spreadWords, Cond.code yX0_spreadWords cX0_spreadWords 6 none, Cond.methodLink RX0 34 yX0_mixBlock, Cond.instanceMethod yX0_mixBlock, Cond.selects RX0 yX0_mixBlock yX0_mixBlock, Cond.code yX0_mixBlock cX0_mixBlock 14 none, Cond.fieldLink RX0 47 "SealedPages$Hasher" "CONSTANTS" "[I", Cond.methodLink RX2 118 yX1_placeOfNode, Cond.instanceMethod yX1_placeOfNode, Cond.selects RX1 yX1_placeOfNode yX1_placeOfNode, Cond.code yX1_placeOfNode cX1_placeOfNode 3 (some .int), Cond.methodLink RX1 35 yX1_numberOfNode, Cond.instanceMethod yX1_numberOfNode, Cond.selects RX1 yX1_numberOfNode yX1_numberOfNode, Cond.code yX1_numberOfNode cX1_numberOfNode 3 (some .int), Cond.fieldLink RX1 19 "SealedPages$Layout" "nodesAhead" "[I", Cond.methodLink RX2 138 yX0_finish, Cond.instanceMethod yX0_finish, Cond.selects RX0 yX0_finish yX0_finish, Cond.code yX0_finish cX0_finish 5 none, Cond.constantLong RX0 41 (8), Cond.methodLink RX2 153 yX0_resultIsAt]
def wsX2_fault_r4 : List Cond := [Cond.instanceMethod yX0_resultIsAt, Cond.selects RX0 yX0_resultIsAt yX0_resultIsAt, Cond.code yX0_resultIsAt cX0_resultIsAt 4 (some .boolean), Cond.methodLink RX0 43 yX0_resultByte, Cond.instanceMethod yX0_resultByte, Cond.selects RX0 yX0_resultByte yX0_resultByte, Cond.code yX0_resultByte cX0_resultByte 2 (some .int), Cond.methodLink RX2 103 yX2_faultOfNode, Cond.instanceMethod yX2_faultOfNode, Cond.selects RX2 yX2_faultOfNode yX2_faultOfNode, Cond.code yX2_faultOfNode cX2_faultOfNode 3 (some .int), Cond.methodLink RX2 157 yX2_hashNode, Cond.instanceMethod yX2_hashNode, Cond.selects RX2 yX2_hashNode yX2_hashNode, Cond.code yX2_hashNode cX2_hashNode 4 none, Cond.methodLink RX2 144 yX0_addByte, Cond.methodLink RX2 71 yX1_placeOfPage, Cond.instanceMethod yX1_placeOfPage, Cond.selects RX1 yX1_placeOfPage yX1_placeOfPage, Cond.code yX1_placeOfPage cX1_placeOfPage 2 (some .int), Cond.methodLink RX2 115 yX1_hasNode, Cond.instanceMethod yX1_hasNode, Cond.selects RX1 yX1_hasNode yX1_hasNode, Cond.code yX1_hasNode cX1_hasNode 3 (some .boolean)]
def wsX2_fault_r5 : List Cond := [Cond.fieldLink RX1 22 "SealedPages$Layout" "levelCount" "I", Cond.fieldLink RX1 15 "SealedPages$Layout" "widths" "[I"]
def wsX2_fault : List Cond := .code yX2_fault cX2_fault 4 (some .int) :: ((wsX2_fault_r1 ++ (wsX2_fault_r2 ++ (wsX2_fault_r3 ++ (wsX2_fault_r4 ++ wsX2_fault_r5)))) ++ wsX20 ++ wsX10 ++ wsX00)
def wsX2_read_r1 : List Cond := [Cond.fieldLink RX2 38 "SealedPages" "diskBytes" "[I", Cond.fieldLink RX2 23 "SealedPages" "layout" "LSealedPages$Layout;", Cond.fieldLink RX2 45 "SealedPages" "draftBytes" "[I", Cond.methodLink RX2 74 arraycopyName, Cond.native arraycopyName, Cond.static arraycopyName, Cond.initialized "java/lang/System", Cond.fieldLink RX2 80 "SealedPages" "pagesGiven" "I", Cond.fieldLink RX2 83 "SealedPages" "faultsTold" "I", Cond.methodLink RX2 67 yX2_fault, Cond.instanceMethod yX2_fault, Cond.selects RX2 yX2_fault yX2_fault, Cond.initialized RX2, Cond.code yX2_fault cX2_fault 4 (some .int), Cond.fieldLink RX2 100 "SealedPages$Layout" "levelCount" "I", Cond.methodLink RX2 92 yX1_hasPage, Cond.instanceMethod yX1_hasPage, Cond.selects RX1 yX1_hasPage yX1_hasPage, Cond.initialized RX1, Cond.code yX1_hasPage cX1_hasPage 2 (some .boolean), Cond.fieldLink RX1 9 "SealedPages$Layout" "pageCount" "I", Cond.static yX2_isBelow, Cond.code yX2_isBelow cX2_isBelow 2 (some .boolean), Cond.methodLink RX2 96 yX2_faultAboveTree]
def wsX2_read_r2 : List Cond := [Cond.instanceMethod yX2_faultAboveTree, Cond.selects RX2 yX2_faultAboveTree yX2_faultAboveTree, Cond.code yX2_faultAboveTree cX2_faultAboveTree 2 (some .int), Cond.fieldLink RX2 30 "SealedPages" "hasher" "LSealedPages$Hasher;", Cond.fieldLink RX2 42 "SealedPages" "rootBytes" "[I", Cond.methodLink RX2 147 yX2_headByteAsTold, Cond.instanceMethod yX2_headByteAsTold, Cond.selects RX2 yX2_headByteAsTold yX2_headByteAsTold, Cond.code yX2_headByteAsTold cX2_headByteAsTold 2 (some .int), Cond.fieldLink RX2 109 "SealedPages$Layout" "pageCount" "I", Cond.methodLink RX2 150 yX2_hashHeadAndLastNode, Cond.instanceMethod yX2_hashHeadAndLastNode, Cond.selects RX2 yX2_hashHeadAndLastNode yX2_hashHeadAndLastNode, Cond.code yX2_hashHeadAndLastNode cX2_hashHeadAndLastNode 1 none, Cond.methodLink RX2 131 yX0_begin, Cond.instanceMethod yX0_begin, Cond.selects RX0 yX0_begin yX0_begin, Cond.initialized RX0, Cond.code yX0_begin cX0_begin 1 none, Cond.fieldLink RX0 18 "SealedPages$Hasher" "FIRST_SUMS" "[I", Cond.fieldLink RX0 9 "SealedPages$Hasher" "sums" "[I", Cond.methodLink RX0 21 arraycopyName, Cond.fieldLink RX0 27 "SealedPages$Hasher" "length" "I", Cond.methodLink RX2 134 yX0_addRow]
def wsX2_read_r3 : List Cond := [Cond.instanceMethod yX0_addRow, Cond.selects RX0 yX0_addRow yX0_addRow, Cond.code yX0_addRow cX0_addRow 5 none, Cond.methodLink RX0 37 yX0_addByte, Cond.instanceMethod yX0_addByte, Cond.selects RX0 yX0_addByte yX0_addByte, Cond.code yX0_addByte cX0_addByte 3 none, Cond.fieldLink RX0 15 "SealedPages$Hasher" "words" "[I", Cond.methodLink RX0 31 yX0_spreadWords, Cond.instanceMethod yX0_spreadWords, Cond.selects RX0 yX0_spreadWords yX0_spreadWords, Cond.code yX0_spreadWords cX0_spreadWords 6 none, Cond.methodLink RX0 34 yX0_mixBlock, Cond.instanceMethod yX0_mixBlock, Cond.selects RX0 yX0_mixBlock yX0_mixBlock, Cond.code yX0_mixBlock cX0_mixBlock 14 none, Cond.fieldLink RX0 47 "SealedPages$Hasher" "CONSTANTS" "[I", Cond.methodLink RX2 118 yX1_placeOfNode, Cond.instanceMethod yX1_placeOfNode, Cond.selects RX1 yX1_placeOfNode yX1_placeOfNode, Cond.code yX1_placeOfNode cX1_placeOfNode 3 (some .int), Cond.methodLink RX1 35 yX1_numberOfNode, Cond.instanceMethod yX1_numberOfNode, Cond.selects RX1 yX1_numberOfNode yX1_numberOfNode]
def wsX2_read_r4 : List Cond := [Cond.code yX1_numberOfNode cX1_numberOfNode 3 (some .int), Cond.fieldLink RX1 19 "SealedPages$Layout" "nodesAhead" "[I", Cond.methodLink RX2 138 yX0_finish, Cond.instanceMethod yX0_finish, Cond.selects RX0 yX0_finish yX0_finish, Cond.code yX0_finish cX0_finish 5 none, Cond.constantLong RX0 41 (8), Cond.methodLink RX2 153 yX0_resultIsAt, Cond.instanceMethod yX0_resultIsAt, Cond.selects RX0 yX0_resultIsAt yX0_resultIsAt, Cond.code yX0_resultIsAt cX0_resultIsAt 4 (some .boolean), Cond.methodLink RX0 43 yX0_resultByte, Cond.instanceMethod yX0_resultByte, Cond.selects RX0 yX0_resultByte yX0_resultByte, Cond.code yX0_resultByte cX0_resultByte 2 (some .int), Cond.methodLink RX2 103 yX2_faultOfNode, Cond.instanceMethod yX2_faultOfNode, Cond.selects RX2 yX2_faultOfNode yX2_faultOfNode, Cond.code yX2_faultOfNode cX2_faultOfNode 3 (some .int), Cond.methodLink RX2 157 yX2_hashNode, Cond.instanceMethod yX2_hashNode, Cond.selects RX2 yX2_hashNode yX2_hashNode, Cond.code yX2_hashNode cX2_hashNode 4 none, Cond.methodLink RX2 144 yX0_addByte]
def wsX2_read_r5 : List Cond := [Cond.methodLink RX2 71 yX1_placeOfPage, Cond.instanceMethod yX1_placeOfPage, Cond.selects RX1 yX1_placeOfPage yX1_placeOfPage, Cond.code yX1_placeOfPage cX1_placeOfPage 2 (some .int), Cond.methodLink RX2 115 yX1_hasNode, Cond.instanceMethod yX1_hasNode, Cond.selects RX1 yX1_hasNode yX1_hasNode, Cond.code yX1_hasNode cX1_hasNode 3 (some .boolean), Cond.fieldLink RX1 22 "SealedPages$Layout" "levelCount" "I", Cond.fieldLink RX1 15 "SealedPages$Layout" "widths" "[I"]
def wsX2_read : List Cond := .code yX2_read cX2_read 3 (some .int) :: ((wsX2_read_r1 ++ (wsX2_read_r2 ++ (wsX2_read_r3 ++ (wsX2_read_r4 ++ wsX2_read_r5)))) ++ wsX20 ++ wsX10 ++ wsX00)
def wsX2_sealWay_r1 : List Cond := [Cond.fieldLink RX2 23 "SealedPages" "layout" "LSealedPages$Layout;", Cond.fieldLink RX2 100 "SealedPages$Layout" "levelCount" "I", Cond.methodLink RX2 168 yX2_sealNode, Cond.instanceMethod yX2_sealNode, Cond.selects RX2 yX2_sealNode yX2_sealNode, Cond.initialized RX2, Cond.code yX2_sealNode cX2_sealNode 3 none, Cond.fieldLink RX2 30 "SealedPages" "hasher" "LSealedPages$Hasher;", Cond.fieldLink RX2 38 "SealedPages" "diskBytes" "[I", Cond.methodLink RX2 157 yX2_hashNode, Cond.instanceMethod yX2_hashNode, Cond.selects RX2 yX2_hashNode yX2_hashNode, Cond.code yX2_hashNode cX2_hashNode 4 none, Cond.methodLink RX2 131 yX0_begin, Cond.instanceMethod yX0_begin, Cond.selects RX0 yX0_begin yX0_begin, Cond.initialized RX0, Cond.code yX0_begin cX0_begin 1 none, Cond.fieldLink RX0 18 "SealedPages$Hasher" "FIRST_SUMS" "[I", Cond.fieldLink RX0 9 "SealedPages$Hasher" "sums" "[I", Cond.methodLink RX0 21 arraycopyName, Cond.native arraycopyName, Cond.static arraycopyName, Cond.initialized "java/lang/System"]
def wsX2_sealWay_r2 : List Cond := [Cond.fieldLink RX0 27 "SealedPages$Hasher" "length" "I", Cond.methodLink RX2 144 yX0_addByte, Cond.instanceMethod yX0_addByte, Cond.selects RX0 yX0_addByte yX0_addByte, Cond.code yX0_addByte cX0_addByte 3 none, Cond.fieldLink RX0 15 "SealedPages$Hasher" "words" "[I", Cond.methodLink RX0 31 yX0_spreadWords, Cond.instanceMethod yX0_spreadWords, Cond.selects RX0 yX0_spreadWords yX0_spreadWords, Cond.code yX0_spreadWords cX0_spreadWords 6 none, Cond.methodLink RX0 34 yX0_mixBlock, Cond.instanceMethod yX0_mixBlock, Cond.selects RX0 yX0_mixBlock yX0_mixBlock, Cond.code yX0_mixBlock cX0_mixBlock 14 none, Cond.fieldLink RX0 47 "SealedPages$Hasher" "CONSTANTS" "[I", Cond.methodLink RX2 71 yX1_placeOfPage, Cond.instanceMethod yX1_placeOfPage, Cond.selects RX1 yX1_placeOfPage yX1_placeOfPage, Cond.initialized RX1, Cond.code yX1_placeOfPage cX1_placeOfPage 2 (some .int), Cond.methodLink RX2 134 yX0_addRow, Cond.instanceMethod yX0_addRow, Cond.selects RX0 yX0_addRow yX0_addRow, Cond.code yX0_addRow cX0_addRow 5 none]
def wsX2_sealWay_r3 : List Cond := [Cond.methodLink RX0 37 yX0_addByte, Cond.methodLink RX2 115 yX1_hasNode, Cond.instanceMethod yX1_hasNode, Cond.selects RX1 yX1_hasNode yX1_hasNode, Cond.code yX1_hasNode cX1_hasNode 3 (some .boolean), Cond.fieldLink RX1 22 "SealedPages$Layout" "levelCount" "I", Cond.fieldLink RX1 15 "SealedPages$Layout" "widths" "[I", Cond.static yX2_isBelow, Cond.code yX2_isBelow cX2_isBelow 2 (some .boolean), Cond.methodLink RX2 118 yX1_placeOfNode, Cond.instanceMethod yX1_placeOfNode, Cond.selects RX1 yX1_placeOfNode yX1_placeOfNode, Cond.code yX1_placeOfNode cX1_placeOfNode 3 (some .int), Cond.fieldLink RX1 9 "SealedPages$Layout" "pageCount" "I", Cond.methodLink RX1 35 yX1_numberOfNode, Cond.instanceMethod yX1_numberOfNode, Cond.selects RX1 yX1_numberOfNode yX1_numberOfNode, Cond.code yX1_numberOfNode cX1_numberOfNode 3 (some .int), Cond.fieldLink RX1 19 "SealedPages$Layout" "nodesAhead" "[I", Cond.methodLink RX2 138 yX0_finish, Cond.instanceMethod yX0_finish, Cond.selects RX0 yX0_finish yX0_finish, Cond.code yX0_finish cX0_finish 5 none, Cond.constantLong RX0 41 (8)]
def wsX2_sealWay_r4 : List Cond := [Cond.methodLink RX2 164 yX0_copyResult, Cond.instanceMethod yX0_copyResult, Cond.selects RX0 yX0_copyResult yX0_copyResult, Cond.code yX0_copyResult cX0_copyResult 4 none, Cond.methodLink RX0 43 yX0_resultByte, Cond.instanceMethod yX0_resultByte, Cond.selects RX0 yX0_resultByte yX0_resultByte, Cond.code yX0_resultByte cX0_resultByte 2 (some .int), Cond.methodLink RX2 171 yX2_sealRoot, Cond.instanceMethod yX2_sealRoot, Cond.selects RX2 yX2_sealRoot yX2_sealRoot, Cond.code yX2_sealRoot cX2_sealRoot 1 none, Cond.fieldLink RX2 42 "SealedPages" "rootBytes" "[I", Cond.methodLink RX2 150 yX2_hashHeadAndLastNode, Cond.instanceMethod yX2_hashHeadAndLastNode, Cond.selects RX2 yX2_hashHeadAndLastNode yX2_hashHeadAndLastNode, Cond.code yX2_hashHeadAndLastNode cX2_hashHeadAndLastNode 1 none]
def wsX2_sealWay : List Cond := .code yX2_sealWay cX2_sealWay 3 none :: ((wsX2_sealWay_r1 ++ (wsX2_sealWay_r2 ++ (wsX2_sealWay_r3 ++ wsX2_sealWay_r4))) ++ wsX20 ++ wsX10 ++ wsX00)
def wsX2_write_r1 : List Cond := [Cond.fieldLink RX2 45 "SealedPages" "draftBytes" "[I", Cond.fieldLink RX2 38 "SealedPages" "diskBytes" "[I", Cond.fieldLink RX2 23 "SealedPages" "layout" "LSealedPages$Layout;", Cond.methodLink RX2 74 arraycopyName, Cond.native arraycopyName, Cond.static arraycopyName, Cond.initialized "java/lang/System", Cond.fieldLink RX2 89 "SealedPages" "pagesWritten" "I", Cond.fieldLink RX2 83 "SealedPages" "faultsTold" "I", Cond.methodLink RX2 67 yX2_fault, Cond.instanceMethod yX2_fault, Cond.selects RX2 yX2_fault yX2_fault, Cond.initialized RX2, Cond.code yX2_fault cX2_fault 4 (some .int), Cond.fieldLink RX2 100 "SealedPages$Layout" "levelCount" "I", Cond.methodLink RX2 92 yX1_hasPage, Cond.instanceMethod yX1_hasPage, Cond.selects RX1 yX1_hasPage yX1_hasPage, Cond.initialized RX1, Cond.code yX1_hasPage cX1_hasPage 2 (some .boolean), Cond.fieldLink RX1 9 "SealedPages$Layout" "pageCount" "I", Cond.static yX2_isBelow, Cond.code yX2_isBelow cX2_isBelow 2 (some .boolean), Cond.methodLink RX2 96 yX2_faultAboveTree]
def wsX2_write_r2 : List Cond := [Cond.instanceMethod yX2_faultAboveTree, Cond.selects RX2 yX2_faultAboveTree yX2_faultAboveTree, Cond.code yX2_faultAboveTree cX2_faultAboveTree 2 (some .int), Cond.fieldLink RX2 30 "SealedPages" "hasher" "LSealedPages$Hasher;", Cond.fieldLink RX2 42 "SealedPages" "rootBytes" "[I", Cond.methodLink RX2 147 yX2_headByteAsTold, Cond.instanceMethod yX2_headByteAsTold, Cond.selects RX2 yX2_headByteAsTold yX2_headByteAsTold, Cond.code yX2_headByteAsTold cX2_headByteAsTold 2 (some .int), Cond.fieldLink RX2 109 "SealedPages$Layout" "pageCount" "I", Cond.methodLink RX2 150 yX2_hashHeadAndLastNode, Cond.instanceMethod yX2_hashHeadAndLastNode, Cond.selects RX2 yX2_hashHeadAndLastNode yX2_hashHeadAndLastNode, Cond.code yX2_hashHeadAndLastNode cX2_hashHeadAndLastNode 1 none, Cond.methodLink RX2 131 yX0_begin, Cond.instanceMethod yX0_begin, Cond.selects RX0 yX0_begin yX0_begin, Cond.initialized RX0, Cond.code yX0_begin cX0_begin 1 none, Cond.fieldLink RX0 18 "SealedPages$Hasher" "FIRST_SUMS" "[I", Cond.fieldLink RX0 9 "SealedPages$Hasher" "sums" "[I", Cond.methodLink RX0 21 arraycopyName, Cond.fieldLink RX0 27 "SealedPages$Hasher" "length" "I", Cond.methodLink RX2 134 yX0_addRow]
def wsX2_write_r3 : List Cond := [Cond.instanceMethod yX0_addRow, Cond.selects RX0 yX0_addRow yX0_addRow, Cond.code yX0_addRow cX0_addRow 5 none, Cond.methodLink RX0 37 yX0_addByte, Cond.instanceMethod yX0_addByte, Cond.selects RX0 yX0_addByte yX0_addByte, Cond.code yX0_addByte cX0_addByte 3 none, Cond.fieldLink RX0 15 "SealedPages$Hasher" "words" "[I", Cond.methodLink RX0 31 yX0_spreadWords, Cond.instanceMethod yX0_spreadWords, Cond.selects RX0 yX0_spreadWords yX0_spreadWords, Cond.code yX0_spreadWords cX0_spreadWords 6 none, Cond.methodLink RX0 34 yX0_mixBlock, Cond.instanceMethod yX0_mixBlock, Cond.selects RX0 yX0_mixBlock yX0_mixBlock, Cond.code yX0_mixBlock cX0_mixBlock 14 none, Cond.fieldLink RX0 47 "SealedPages$Hasher" "CONSTANTS" "[I", Cond.methodLink RX2 118 yX1_placeOfNode, Cond.instanceMethod yX1_placeOfNode, Cond.selects RX1 yX1_placeOfNode yX1_placeOfNode, Cond.code yX1_placeOfNode cX1_placeOfNode 3 (some .int), Cond.methodLink RX1 35 yX1_numberOfNode, Cond.instanceMethod yX1_numberOfNode, Cond.selects RX1 yX1_numberOfNode yX1_numberOfNode]
def wsX2_write_r4 : List Cond := [Cond.code yX1_numberOfNode cX1_numberOfNode 3 (some .int), Cond.fieldLink RX1 19 "SealedPages$Layout" "nodesAhead" "[I", Cond.methodLink RX2 138 yX0_finish, Cond.instanceMethod yX0_finish, Cond.selects RX0 yX0_finish yX0_finish, Cond.code yX0_finish cX0_finish 5 none, Cond.constantLong RX0 41 (8), Cond.methodLink RX2 153 yX0_resultIsAt, Cond.instanceMethod yX0_resultIsAt, Cond.selects RX0 yX0_resultIsAt yX0_resultIsAt, Cond.code yX0_resultIsAt cX0_resultIsAt 4 (some .boolean), Cond.methodLink RX0 43 yX0_resultByte, Cond.instanceMethod yX0_resultByte, Cond.selects RX0 yX0_resultByte yX0_resultByte, Cond.code yX0_resultByte cX0_resultByte 2 (some .int), Cond.methodLink RX2 103 yX2_faultOfNode, Cond.instanceMethod yX2_faultOfNode, Cond.selects RX2 yX2_faultOfNode yX2_faultOfNode, Cond.code yX2_faultOfNode cX2_faultOfNode 3 (some .int), Cond.methodLink RX2 157 yX2_hashNode, Cond.instanceMethod yX2_hashNode, Cond.selects RX2 yX2_hashNode yX2_hashNode, Cond.code yX2_hashNode cX2_hashNode 4 none, Cond.methodLink RX2 144 yX0_addByte]
def wsX2_write_r5 : List Cond := [Cond.methodLink RX2 71 yX1_placeOfPage, Cond.instanceMethod yX1_placeOfPage, Cond.selects RX1 yX1_placeOfPage yX1_placeOfPage, Cond.code yX1_placeOfPage cX1_placeOfPage 2 (some .int), Cond.methodLink RX2 115 yX1_hasNode, Cond.instanceMethod yX1_hasNode, Cond.selects RX1 yX1_hasNode yX1_hasNode, Cond.code yX1_hasNode cX1_hasNode 3 (some .boolean), Cond.fieldLink RX1 22 "SealedPages$Layout" "levelCount" "I", Cond.fieldLink RX1 15 "SealedPages$Layout" "widths" "[I", Cond.methodLink RX2 86 yX2_sealWay, Cond.instanceMethod yX2_sealWay, Cond.selects RX2 yX2_sealWay yX2_sealWay, Cond.code yX2_sealWay cX2_sealWay 3 none, Cond.methodLink RX2 168 yX2_sealNode, Cond.instanceMethod yX2_sealNode, Cond.selects RX2 yX2_sealNode yX2_sealNode, Cond.code yX2_sealNode cX2_sealNode 3 none, Cond.methodLink RX2 164 yX0_copyResult, Cond.instanceMethod yX0_copyResult, Cond.selects RX0 yX0_copyResult yX0_copyResult, Cond.code yX0_copyResult cX0_copyResult 4 none, Cond.methodLink RX2 171 yX2_sealRoot, Cond.instanceMethod yX2_sealRoot]
def wsX2_write_r6 : List Cond := [Cond.selects RX2 yX2_sealRoot yX2_sealRoot, Cond.code yX2_sealRoot cX2_sealRoot 1 none]
def wsX2_write : List Cond := .code yX2_write cX2_write 3 (some .int) :: ((wsX2_write_r1 ++ (wsX2_write_r2 ++ (wsX2_write_r3 ++ (wsX2_write_r4 ++ (wsX2_write_r5 ++ wsX2_write_r6))))) ++ wsX20 ++ wsX10 ++ wsX00)
def wsX2_seal_r1 : List Cond := [Cond.fieldLink RX2 23 "SealedPages" "layout" "LSealedPages$Layout;", Cond.fieldLink RX2 54 "SealedPages$Layout" "nodeCount" "I", Cond.methodLink RX2 60 yX2_sealAll, Cond.instanceMethod yX2_sealAll, Cond.selects RX2 yX2_sealAll yX2_sealAll, Cond.initialized RX2, Cond.code yX2_sealAll cX2_sealAll 3 none, Cond.fieldLink RX2 38 "SealedPages" "diskBytes" "[I", Cond.fieldLink RX2 100 "SealedPages$Layout" "levelCount" "I", Cond.fieldLink RX2 161 "SealedPages$Layout" "widths" "[I", Cond.methodLink RX2 147 yX2_headByteAsTold, Cond.instanceMethod yX2_headByteAsTold, Cond.selects RX2 yX2_headByteAsTold yX2_headByteAsTold, Cond.code yX2_headByteAsTold cX2_headByteAsTold 2 (some .int), Cond.fieldLink RX2 109 "SealedPages$Layout" "pageCount" "I", Cond.methodLink RX2 168 yX2_sealNode, Cond.instanceMethod yX2_sealNode, Cond.selects RX2 yX2_sealNode yX2_sealNode, Cond.code yX2_sealNode cX2_sealNode 3 none, Cond.fieldLink RX2 30 "SealedPages" "hasher" "LSealedPages$Hasher;", Cond.methodLink RX2 157 yX2_hashNode, Cond.instanceMethod yX2_hashNode, Cond.selects RX2 yX2_hashNode yX2_hashNode, Cond.code yX2_hashNode cX2_hashNode 4 none]
def wsX2_seal_r2 : List Cond := [Cond.methodLink RX2 131 yX0_begin, Cond.instanceMethod yX0_begin, Cond.selects RX0 yX0_begin yX0_begin, Cond.initialized RX0, Cond.code yX0_begin cX0_begin 1 none, Cond.fieldLink RX0 18 "SealedPages$Hasher" "FIRST_SUMS" "[I", Cond.fieldLink RX0 9 "SealedPages$Hasher" "sums" "[I", Cond.methodLink RX0 21 arraycopyName, Cond.native arraycopyName, Cond.static arraycopyName, Cond.initialized "java/lang/System", Cond.fieldLink RX0 27 "SealedPages$Hasher" "length" "I", Cond.methodLink RX2 144 yX0_addByte, Cond.instanceMethod yX0_addByte, Cond.selects RX0 yX0_addByte yX0_addByte, Cond.code yX0_addByte cX0_addByte 3 none, Cond.fieldLink RX0 15 "SealedPages$Hasher" "words" "[I", Cond.methodLink RX0 31 yX0_spreadWords, Cond.instanceMethod yX0_spreadWords, Cond.selects RX0 yX0_spreadWords yX0_spreadWords, Cond.code yX0_spreadWords cX0_spreadWords 6 none, Cond.methodLink RX0 34 yX0_mixBlock, Cond.instanceMethod yX0_mixBlock, Cond.selects RX0 yX0_mixBlock yX0_mixBlock]
def wsX2_seal_r3 : List Cond := [Cond.code yX0_mixBlock cX0_mixBlock 14 none, Cond.fieldLink RX0 47 "SealedPages$Hasher" "CONSTANTS" "[I", Cond.methodLink RX2 71 yX1_placeOfPage, Cond.instanceMethod yX1_placeOfPage, Cond.selects RX1 yX1_placeOfPage yX1_placeOfPage, Cond.initialized RX1, Cond.code yX1_placeOfPage cX1_placeOfPage 2 (some .int), Cond.methodLink RX2 134 yX0_addRow, Cond.instanceMethod yX0_addRow, Cond.selects RX0 yX0_addRow yX0_addRow, Cond.code yX0_addRow cX0_addRow 5 none, Cond.methodLink RX0 37 yX0_addByte, Cond.methodLink RX2 115 yX1_hasNode, Cond.instanceMethod yX1_hasNode, Cond.selects RX1 yX1_hasNode yX1_hasNode, Cond.code yX1_hasNode cX1_hasNode 3 (some .boolean), Cond.fieldLink RX1 22 "SealedPages$Layout" "levelCount" "I", Cond.fieldLink RX1 15 "SealedPages$Layout" "widths" "[I", Cond.static yX2_isBelow, Cond.code yX2_isBelow cX2_isBelow 2 (some .boolean), Cond.methodLink RX2 118 yX1_placeOfNode, Cond.instanceMethod yX1_placeOfNode, Cond.selects RX1 yX1_placeOfNode yX1_placeOfNode, Cond.code yX1_placeOfNode cX1_placeOfNode 3 (some .int)]
def wsX2_seal_r4 : List Cond := [Cond.fieldLink RX1 9 "SealedPages$Layout" "pageCount" "I", Cond.methodLink RX1 35 yX1_numberOfNode, Cond.instanceMethod yX1_numberOfNode, Cond.selects RX1 yX1_numberOfNode yX1_numberOfNode, Cond.code yX1_numberOfNode cX1_numberOfNode 3 (some .int), Cond.fieldLink RX1 19 "SealedPages$Layout" "nodesAhead" "[I", Cond.methodLink RX2 138 yX0_finish, Cond.instanceMethod yX0_finish, Cond.selects RX0 yX0_finish yX0_finish, Cond.code yX0_finish cX0_finish 5 none, Cond.constantLong RX0 41 (8), Cond.methodLink RX2 164 yX0_copyResult, Cond.instanceMethod yX0_copyResult, Cond.selects RX0 yX0_copyResult yX0_copyResult, Cond.code yX0_copyResult cX0_copyResult 4 none, Cond.methodLink RX0 43 yX0_resultByte, Cond.instanceMethod yX0_resultByte, Cond.selects RX0 yX0_resultByte yX0_resultByte, Cond.code yX0_resultByte cX0_resultByte 2 (some .int), Cond.methodLink RX2 171 yX2_sealRoot, Cond.instanceMethod yX2_sealRoot, Cond.selects RX2 yX2_sealRoot yX2_sealRoot, Cond.code yX2_sealRoot cX2_sealRoot 1 none, Cond.fieldLink RX2 42 "SealedPages" "rootBytes" "[I"]
def wsX2_seal_r5 : List Cond := [Cond.methodLink RX2 150 yX2_hashHeadAndLastNode, Cond.instanceMethod yX2_hashHeadAndLastNode, Cond.selects RX2 yX2_hashHeadAndLastNode yX2_hashHeadAndLastNode, Cond.code yX2_hashHeadAndLastNode cX2_hashHeadAndLastNode 1 none]
def wsX2_seal : List Cond := .code yX2_seal cX2_seal 1 (some .int) :: ((wsX2_seal_r1 ++ (wsX2_seal_r2 ++ (wsX2_seal_r3 ++ (wsX2_seal_r4 ++ wsX2_seal_r5)))) ++ wsX20 ++ wsX10 ++ wsX00)
def wsX2_size : List Cond := .code yX2_size cX2_size 1 (some .int) :: ([.fieldLink RX2 23 "SealedPages" "layout" "LSealedPages$Layout;", .fieldLink RX2 34 "SealedPages$Layout" "byteCount" "I"] ++ wsX20 ++ wsX10)
def wsX2_disk : List Cond := .code yX2_disk cX2_disk 2 (some .int) :: ([.fieldLink RX2 23 "SealedPages" "layout" "LSealedPages$Layout;", .fieldLink RX2 34 "SealedPages$Layout" "byteCount" "I", .fieldLink RX2 38 "SealedPages" "diskBytes" "[I", .methodLink RX2 63 yX2_isBelow, .static yX2_isBelow, .initialized RX2, .code yX2_isBelow cX2_isBelow 2 (some .boolean)] ++ wsX20 ++ wsX10)
def wsX2_alter : List Cond := .code yX2_alter cX2_alter 4 (some .int) :: ([.fieldLink RX2 23 "SealedPages" "layout" "LSealedPages$Layout;", .fieldLink RX2 34 "SealedPages$Layout" "byteCount" "I", .fieldLink RX2 38 "SealedPages" "diskBytes" "[I", .methodLink RX2 63 yX2_isBelow, .static yX2_isBelow, .initialized RX2, .code yX2_isBelow cX2_isBelow 2 (some .boolean)] ++ wsX20 ++ wsX10)
def wsX2_carry : List Cond := .code yX2_carry cX2_carry 5 (some .int) :: ([.fieldLink RX2 23 "SealedPages" "layout" "LSealedPages$Layout;", .fieldLink RX2 34 "SealedPages$Layout" "byteCount" "I", .fieldLink RX2 38 "SealedPages" "diskBytes" "[I", .methodLink RX2 74 arraycopyName, .native arraycopyName, .static arraycopyName, .initialized "java/lang/System"] ++ wsX20 ++ wsX10)
def wsX2_root : List Cond := .code yX2_root cX2_root 2 (some .int) :: ([.fieldLink RX2 42 "SealedPages" "rootBytes" "[I", .methodLink RX2 63 yX2_isBelow, .static yX2_isBelow, .initialized RX2, .code yX2_isBelow cX2_isBelow 2 (some .boolean)] ++ wsX20)
def wsX2_surveyTree_r1 : List Cond := [Cond.fieldLink RX2 23 "SealedPages" "layout" "LSealedPages$Layout;", Cond.fieldLink RX2 100 "SealedPages$Layout" "levelCount" "I", Cond.fieldLink RX2 161 "SealedPages$Layout" "widths" "[I", Cond.fieldLink RX2 57 "SealedPages" "faultsDownTo" "[I", Cond.methodLink RX2 96 yX2_faultAboveTree, Cond.instanceMethod yX2_faultAboveTree, Cond.selects RX2 yX2_faultAboveTree yX2_faultAboveTree, Cond.initialized RX2, Cond.code yX2_faultAboveTree cX2_faultAboveTree 2 (some .int), Cond.fieldLink RX2 38 "SealedPages" "diskBytes" "[I", Cond.fieldLink RX2 30 "SealedPages" "hasher" "LSealedPages$Hasher;", Cond.fieldLink RX2 42 "SealedPages" "rootBytes" "[I", Cond.methodLink RX2 147 yX2_headByteAsTold, Cond.instanceMethod yX2_headByteAsTold, Cond.selects RX2 yX2_headByteAsTold yX2_headByteAsTold, Cond.code yX2_headByteAsTold cX2_headByteAsTold 2 (some .int), Cond.fieldLink RX2 109 "SealedPages$Layout" "pageCount" "I", Cond.methodLink RX2 150 yX2_hashHeadAndLastNode, Cond.instanceMethod yX2_hashHeadAndLastNode, Cond.selects RX2 yX2_hashHeadAndLastNode yX2_hashHeadAndLastNode, Cond.code yX2_hashHeadAndLastNode cX2_hashHeadAndLastNode 1 none, Cond.methodLink RX2 131 yX0_begin, Cond.instanceMethod yX0_begin, Cond.selects RX0 yX0_begin yX0_begin]
def wsX2_surveyTree_r2 : List Cond := [Cond.initialized RX0, Cond.code yX0_begin cX0_begin 1 none, Cond.fieldLink RX0 18 "SealedPages$Hasher" "FIRST_SUMS" "[I", Cond.fieldLink RX0 9 "SealedPages$Hasher" "sums" "[I", Cond.methodLink RX0 21 arraycopyName, Cond.native arraycopyName, Cond.static arraycopyName, Cond.initialized "java/lang/System", Cond.fieldLink RX0 27 "SealedPages$Hasher" "length" "I", Cond.methodLink RX2 134 yX0_addRow, Cond.instanceMethod yX0_addRow, Cond.selects RX0 yX0_addRow yX0_addRow, Cond.code yX0_addRow cX0_addRow 5 none, Cond.methodLink RX0 37 yX0_addByte, Cond.instanceMethod yX0_addByte, Cond.selects RX0 yX0_addByte yX0_addByte, Cond.code yX0_addByte cX0_addByte 3 none, Cond.fieldLink RX0 15 "SealedPages$Hasher" "words" "[I", Cond.methodLink RX0 31 yX0_spreadWords, Cond.instanceMethod yX0_spreadWords, Cond.selects RX0 yX0_spreadWords yX0_spreadWords, Cond.code yX0_spreadWords cX0_spreadWords 6 none, Cond.methodLink RX0 34 yX0_mixBlock, Cond.instanceMethod yX0_mixBlock]
def wsX2_surveyTree_r3 : List Cond := [Cond.selects RX0 yX0_mixBlock yX0_mixBlock, Cond.code yX0_mixBlock cX0_mixBlock 14 none, Cond.fieldLink RX0 47 "SealedPages$Hasher" "CONSTANTS" "[I", Cond.methodLink RX2 118 yX1_placeOfNode, Cond.instanceMethod yX1_placeOfNode, Cond.selects RX1 yX1_placeOfNode yX1_placeOfNode, Cond.initialized RX1, Cond.code yX1_placeOfNode cX1_placeOfNode 3 (some .int), Cond.fieldLink RX1 9 "SealedPages$Layout" "pageCount" "I", Cond.methodLink RX1 35 yX1_numberOfNode, Cond.instanceMethod yX1_numberOfNode, Cond.selects RX1 yX1_numberOfNode yX1_numberOfNode, Cond.code yX1_numberOfNode cX1_numberOfNode 3 (some .int), Cond.fieldLink RX1 19 "SealedPages$Layout" "nodesAhead" "[I", Cond.methodLink RX2 138 yX0_finish, Cond.instanceMethod yX0_finish, Cond.selects RX0 yX0_finish yX0_finish, Cond.code yX0_finish cX0_finish 5 none, Cond.constantLong RX0 41 (8), Cond.methodLink RX2 153 yX0_resultIsAt, Cond.instanceMethod yX0_resultIsAt, Cond.selects RX0 yX0_resultIsAt yX0_resultIsAt, Cond.code yX0_resultIsAt cX0_resultIsAt 4 (some .boolean), Cond.methodLink RX0 43 yX0_resultByte]
def wsX2_surveyTree_r4 : List Cond := [Cond.instanceMethod yX0_resultByte, Cond.selects RX0 yX0_resultByte yX0_resultByte, Cond.code yX0_resultByte cX0_resultByte 2 (some .int), Cond.methodLink RX2 112 yX1_numberOfNode, Cond.methodLink RX2 103 yX2_faultOfNode, Cond.instanceMethod yX2_faultOfNode, Cond.selects RX2 yX2_faultOfNode yX2_faultOfNode, Cond.code yX2_faultOfNode cX2_faultOfNode 3 (some .int), Cond.methodLink RX2 157 yX2_hashNode, Cond.instanceMethod yX2_hashNode, Cond.selects RX2 yX2_hashNode yX2_hashNode, Cond.code yX2_hashNode cX2_hashNode 4 none, Cond.methodLink RX2 144 yX0_addByte, Cond.methodLink RX2 71 yX1_placeOfPage, Cond.instanceMethod yX1_placeOfPage, Cond.selects RX1 yX1_placeOfPage yX1_placeOfPage, Cond.code yX1_placeOfPage cX1_placeOfPage 2 (some .int), Cond.methodLink RX2 115 yX1_hasNode, Cond.instanceMethod yX1_hasNode, Cond.selects RX1 yX1_hasNode yX1_hasNode, Cond.code yX1_hasNode cX1_hasNode 3 (some .boolean), Cond.fieldLink RX1 22 "SealedPages$Layout" "levelCount" "I", Cond.fieldLink RX1 15 "SealedPages$Layout" "widths" "[I", Cond.static yX2_isBelow]
def wsX2_surveyTree_r5 : List Cond := [Cond.code yX2_isBelow cX2_isBelow 2 (some .boolean)]
def wsX2_surveyTree : List Cond := .code yX2_surveyTree cX2_surveyTree 6 none :: ((wsX2_surveyTree_r1 ++ (wsX2_surveyTree_r2 ++ (wsX2_surveyTree_r3 ++ (wsX2_surveyTree_r4 ++ wsX2_surveyTree_r5)))) ++ wsX20 ++ wsX10 ++ wsX00)
def wsX2_held_r1 : List Cond := [Cond.fieldLink RX2 23 "SealedPages" "layout" "LSealedPages$Layout;", Cond.fieldLink RX2 109 "SealedPages$Layout" "pageCount" "I", Cond.fieldLink RX2 57 "SealedPages" "faultsDownTo" "[I", Cond.methodLink RX2 106 yX2_surveyTree, Cond.instanceMethod yX2_surveyTree, Cond.selects RX2 yX2_surveyTree yX2_surveyTree, Cond.initialized RX2, Cond.code yX2_surveyTree cX2_surveyTree 6 none, Cond.fieldLink RX2 100 "SealedPages$Layout" "levelCount" "I", Cond.fieldLink RX2 161 "SealedPages$Layout" "widths" "[I", Cond.methodLink RX2 96 yX2_faultAboveTree, Cond.instanceMethod yX2_faultAboveTree, Cond.selects RX2 yX2_faultAboveTree yX2_faultAboveTree, Cond.code yX2_faultAboveTree cX2_faultAboveTree 2 (some .int), Cond.fieldLink RX2 38 "SealedPages" "diskBytes" "[I", Cond.fieldLink RX2 30 "SealedPages" "hasher" "LSealedPages$Hasher;", Cond.fieldLink RX2 42 "SealedPages" "rootBytes" "[I", Cond.methodLink RX2 147 yX2_headByteAsTold, Cond.instanceMethod yX2_headByteAsTold, Cond.selects RX2 yX2_headByteAsTold yX2_headByteAsTold, Cond.code yX2_headByteAsTold cX2_headByteAsTold 2 (some .int), Cond.methodLink RX2 150 yX2_hashHeadAndLastNode, Cond.instanceMethod yX2_hashHeadAndLastNode, Cond.selects RX2 yX2_hashHeadAndLastNode yX2_hashHeadAndLastNode]
def wsX2_held_r2 : List Cond := [Cond.code yX2_hashHeadAndLastNode cX2_hashHeadAndLastNode 1 none, Cond.methodLink RX2 131 yX0_begin, Cond.instanceMethod yX0_begin, Cond.selects RX0 yX0_begin yX0_begin, Cond.initialized RX0, Cond.code yX0_begin cX0_begin 1 none, Cond.fieldLink RX0 18 "SealedPages$Hasher" "FIRST_SUMS" "[I", Cond.fieldLink RX0 9 "SealedPages$Hasher" "sums" "[I", Cond.methodLink RX0 21 arraycopyName, Cond.native arraycopyName, Cond.static arraycopyName, Cond.initialized "java/lang/System", Cond.fieldLink RX0 27 "SealedPages$Hasher" "length" "I", Cond.methodLink RX2 134 yX0_addRow, Cond.instanceMethod yX0_addRow, Cond.selects RX0 yX0_addRow yX0_addRow, Cond.code yX0_addRow cX0_addRow 5 none, Cond.methodLink RX0 37 yX0_addByte, Cond.instanceMethod yX0_addByte, Cond.selects RX0 yX0_addByte yX0_addByte, Cond.code yX0_addByte cX0_addByte 3 none, Cond.fieldLink RX0 15 "SealedPages$Hasher" "words" "[I", Cond.methodLink RX0 31 yX0_spreadWords, Cond.instanceMethod yX0_spreadWords]
def wsX2_held_r3 : List Cond := [Cond.selects RX0 yX0_spreadWords yX0_spreadWords, Cond.code yX0_spreadWords cX0_spreadWords 6 none, Cond.methodLink RX0 34 yX0_mixBlock, Cond.instanceMethod yX0_mixBlock, Cond.selects RX0 yX0_mixBlock yX0_mixBlock, Cond.code yX0_mixBlock cX0_mixBlock 14 none, Cond.fieldLink RX0 47 "SealedPages$Hasher" "CONSTANTS" "[I", Cond.methodLink RX2 118 yX1_placeOfNode, Cond.instanceMethod yX1_placeOfNode, Cond.selects RX1 yX1_placeOfNode yX1_placeOfNode, Cond.initialized RX1, Cond.code yX1_placeOfNode cX1_placeOfNode 3 (some .int), Cond.fieldLink RX1 9 "SealedPages$Layout" "pageCount" "I", Cond.methodLink RX1 35 yX1_numberOfNode, Cond.instanceMethod yX1_numberOfNode, Cond.selects RX1 yX1_numberOfNode yX1_numberOfNode, Cond.code yX1_numberOfNode cX1_numberOfNode 3 (some .int), Cond.fieldLink RX1 19 "SealedPages$Layout" "nodesAhead" "[I", Cond.methodLink RX2 138 yX0_finish, Cond.instanceMethod yX0_finish, Cond.selects RX0 yX0_finish yX0_finish, Cond.code yX0_finish cX0_finish 5 none, Cond.constantLong RX0 41 (8), Cond.methodLink RX2 153 yX0_resultIsAt]
def wsX2_held_r4 : List Cond := [Cond.instanceMethod yX0_resultIsAt, Cond.selects RX0 yX0_resultIsAt yX0_resultIsAt, Cond.code yX0_resultIsAt cX0_resultIsAt 4 (some .boolean), Cond.methodLink RX0 43 yX0_resultByte, Cond.instanceMethod yX0_resultByte, Cond.selects RX0 yX0_resultByte yX0_resultByte, Cond.code yX0_resultByte cX0_resultByte 2 (some .int), Cond.methodLink RX2 112 yX1_numberOfNode, Cond.methodLink RX2 103 yX2_faultOfNode, Cond.instanceMethod yX2_faultOfNode, Cond.selects RX2 yX2_faultOfNode yX2_faultOfNode, Cond.code yX2_faultOfNode cX2_faultOfNode 3 (some .int), Cond.methodLink RX2 157 yX2_hashNode, Cond.instanceMethod yX2_hashNode, Cond.selects RX2 yX2_hashNode yX2_hashNode, Cond.code yX2_hashNode cX2_hashNode 4 none, Cond.methodLink RX2 144 yX0_addByte, Cond.methodLink RX2 71 yX1_placeOfPage, Cond.instanceMethod yX1_placeOfPage, Cond.selects RX1 yX1_placeOfPage yX1_placeOfPage, Cond.code yX1_placeOfPage cX1_placeOfPage 2 (some .int), Cond.methodLink RX2 115 yX1_hasNode, Cond.instanceMethod yX1_hasNode, Cond.selects RX1 yX1_hasNode yX1_hasNode]
def wsX2_held_r5 : List Cond := [Cond.code yX1_hasNode cX1_hasNode 3 (some .boolean), Cond.fieldLink RX1 22 "SealedPages$Layout" "levelCount" "I", Cond.fieldLink RX1 15 "SealedPages$Layout" "widths" "[I", Cond.static yX2_isBelow, Cond.code yX2_isBelow cX2_isBelow 2 (some .boolean)]
def wsX2_held : List Cond := .code yX2_held cX2_held 3 (some .int) :: ((wsX2_held_r1 ++ (wsX2_held_r2 ++ (wsX2_held_r3 ++ (wsX2_held_r4 ++ wsX2_held_r5)))) ++ wsX20 ++ wsX10 ++ wsX00)
def wsX2_first_r1 : List Cond := [Cond.fieldLink RX2 23 "SealedPages" "layout" "LSealedPages$Layout;", Cond.fieldLink RX2 109 "SealedPages$Layout" "pageCount" "I", Cond.fieldLink RX2 57 "SealedPages" "faultsDownTo" "[I", Cond.methodLink RX2 106 yX2_surveyTree, Cond.instanceMethod yX2_surveyTree, Cond.selects RX2 yX2_surveyTree yX2_surveyTree, Cond.initialized RX2, Cond.code yX2_surveyTree cX2_surveyTree 6 none, Cond.fieldLink RX2 100 "SealedPages$Layout" "levelCount" "I", Cond.fieldLink RX2 161 "SealedPages$Layout" "widths" "[I", Cond.methodLink RX2 96 yX2_faultAboveTree, Cond.instanceMethod yX2_faultAboveTree, Cond.selects RX2 yX2_faultAboveTree yX2_faultAboveTree, Cond.code yX2_faultAboveTree cX2_faultAboveTree 2 (some .int), Cond.fieldLink RX2 38 "SealedPages" "diskBytes" "[I", Cond.fieldLink RX2 30 "SealedPages" "hasher" "LSealedPages$Hasher;", Cond.fieldLink RX2 42 "SealedPages" "rootBytes" "[I", Cond.methodLink RX2 147 yX2_headByteAsTold, Cond.instanceMethod yX2_headByteAsTold, Cond.selects RX2 yX2_headByteAsTold yX2_headByteAsTold, Cond.code yX2_headByteAsTold cX2_headByteAsTold 2 (some .int), Cond.methodLink RX2 150 yX2_hashHeadAndLastNode, Cond.instanceMethod yX2_hashHeadAndLastNode, Cond.selects RX2 yX2_hashHeadAndLastNode yX2_hashHeadAndLastNode]
def wsX2_first_r2 : List Cond := [Cond.code yX2_hashHeadAndLastNode cX2_hashHeadAndLastNode 1 none, Cond.methodLink RX2 131 yX0_begin, Cond.instanceMethod yX0_begin, Cond.selects RX0 yX0_begin yX0_begin, Cond.initialized RX0, Cond.code yX0_begin cX0_begin 1 none, Cond.fieldLink RX0 18 "SealedPages$Hasher" "FIRST_SUMS" "[I", Cond.fieldLink RX0 9 "SealedPages$Hasher" "sums" "[I", Cond.methodLink RX0 21 arraycopyName, Cond.native arraycopyName, Cond.static arraycopyName, Cond.initialized "java/lang/System", Cond.fieldLink RX0 27 "SealedPages$Hasher" "length" "I", Cond.methodLink RX2 134 yX0_addRow, Cond.instanceMethod yX0_addRow, Cond.selects RX0 yX0_addRow yX0_addRow, Cond.code yX0_addRow cX0_addRow 5 none, Cond.methodLink RX0 37 yX0_addByte, Cond.instanceMethod yX0_addByte, Cond.selects RX0 yX0_addByte yX0_addByte, Cond.code yX0_addByte cX0_addByte 3 none, Cond.fieldLink RX0 15 "SealedPages$Hasher" "words" "[I", Cond.methodLink RX0 31 yX0_spreadWords, Cond.instanceMethod yX0_spreadWords]
def wsX2_first_r3 : List Cond := [Cond.selects RX0 yX0_spreadWords yX0_spreadWords, Cond.code yX0_spreadWords cX0_spreadWords 6 none, Cond.methodLink RX0 34 yX0_mixBlock, Cond.instanceMethod yX0_mixBlock, Cond.selects RX0 yX0_mixBlock yX0_mixBlock, Cond.code yX0_mixBlock cX0_mixBlock 14 none, Cond.fieldLink RX0 47 "SealedPages$Hasher" "CONSTANTS" "[I", Cond.methodLink RX2 118 yX1_placeOfNode, Cond.instanceMethod yX1_placeOfNode, Cond.selects RX1 yX1_placeOfNode yX1_placeOfNode, Cond.initialized RX1, Cond.code yX1_placeOfNode cX1_placeOfNode 3 (some .int), Cond.fieldLink RX1 9 "SealedPages$Layout" "pageCount" "I", Cond.methodLink RX1 35 yX1_numberOfNode, Cond.instanceMethod yX1_numberOfNode, Cond.selects RX1 yX1_numberOfNode yX1_numberOfNode, Cond.code yX1_numberOfNode cX1_numberOfNode 3 (some .int), Cond.fieldLink RX1 19 "SealedPages$Layout" "nodesAhead" "[I", Cond.methodLink RX2 138 yX0_finish, Cond.instanceMethod yX0_finish, Cond.selects RX0 yX0_finish yX0_finish, Cond.code yX0_finish cX0_finish 5 none, Cond.constantLong RX0 41 (8), Cond.methodLink RX2 153 yX0_resultIsAt]
def wsX2_first_r4 : List Cond := [Cond.instanceMethod yX0_resultIsAt, Cond.selects RX0 yX0_resultIsAt yX0_resultIsAt, Cond.code yX0_resultIsAt cX0_resultIsAt 4 (some .boolean), Cond.methodLink RX0 43 yX0_resultByte, Cond.instanceMethod yX0_resultByte, Cond.selects RX0 yX0_resultByte yX0_resultByte, Cond.code yX0_resultByte cX0_resultByte 2 (some .int), Cond.methodLink RX2 112 yX1_numberOfNode, Cond.methodLink RX2 103 yX2_faultOfNode, Cond.instanceMethod yX2_faultOfNode, Cond.selects RX2 yX2_faultOfNode yX2_faultOfNode, Cond.code yX2_faultOfNode cX2_faultOfNode 3 (some .int), Cond.methodLink RX2 157 yX2_hashNode, Cond.instanceMethod yX2_hashNode, Cond.selects RX2 yX2_hashNode yX2_hashNode, Cond.code yX2_hashNode cX2_hashNode 4 none, Cond.methodLink RX2 144 yX0_addByte, Cond.methodLink RX2 71 yX1_placeOfPage, Cond.instanceMethod yX1_placeOfPage, Cond.selects RX1 yX1_placeOfPage yX1_placeOfPage, Cond.code yX1_placeOfPage cX1_placeOfPage 2 (some .int), Cond.methodLink RX2 115 yX1_hasNode, Cond.instanceMethod yX1_hasNode, Cond.selects RX1 yX1_hasNode yX1_hasNode]
def wsX2_first_r5 : List Cond := [Cond.code yX1_hasNode cX1_hasNode 3 (some .boolean), Cond.fieldLink RX1 22 "SealedPages$Layout" "levelCount" "I", Cond.fieldLink RX1 15 "SealedPages$Layout" "widths" "[I", Cond.static yX2_isBelow, Cond.code yX2_isBelow cX2_isBelow 2 (some .boolean)]
def wsX2_first : List Cond := .code yX2_first cX2_first 2 (some .int) :: ((wsX2_first_r1 ++ (wsX2_first_r2 ++ (wsX2_first_r3 ++ (wsX2_first_r4 ++ wsX2_first_r5)))) ++ wsX20 ++ wsX10 ++ wsX00)
def wsX2_levels : List Cond := .code yX2_levels cX2_levels 1 (some .int) :: ([.fieldLink RX2 23 "SealedPages" "layout" "LSealedPages$Layout;", .fieldLink RX2 100 "SealedPages$Layout" "levelCount" "I"] ++ wsX20 ++ wsX10)
def wsX2_node : List Cond := .code yX2_node cX2_node 3 (some .int) :: ([.fieldLink RX2 23 "SealedPages" "layout" "LSealedPages$Layout;", .methodLink RX2 115 yX1_hasNode, .instanceMethod yX1_hasNode, .selects RX1 yX1_hasNode yX1_hasNode, .initialized RX1, .code yX1_hasNode cX1_hasNode 3 (some .boolean), .fieldLink RX1 22 "SealedPages$Layout" "levelCount" "I", .fieldLink RX1 15 "SealedPages$Layout" "widths" "[I", .static yX2_isBelow, .initialized RX2, .code yX2_isBelow cX2_isBelow 2 (some .boolean), .methodLink RX2 118 yX1_placeOfNode, .instanceMethod yX1_placeOfNode, .selects RX1 yX1_placeOfNode yX1_placeOfNode, .code yX1_placeOfNode cX1_placeOfNode 3 (some .int), .fieldLink RX1 9 "SealedPages$Layout" "pageCount" "I", .methodLink RX1 35 yX1_numberOfNode, .instanceMethod yX1_numberOfNode, .selects RX1 yX1_numberOfNode yX1_numberOfNode, .code yX1_numberOfNode cX1_numberOfNode 3 (some .int), .fieldLink RX1 19 "SealedPages$Layout" "nodesAhead" "[I"] ++ wsX20 ++ wsX10)
def wsX2_nodeBesideWay : List Cond := .code yX2_nodeBesideWay cX2_nodeBesideWay 2 (some .int) :: ([])
def wsX2_proof : List Cond := .code yX2_proof cX2_proof 4 (some .int) :: ([.fieldLink RX2 23 "SealedPages" "layout" "LSealedPages$Layout;", .fieldLink RX2 100 "SealedPages$Layout" "levelCount" "I", .methodLink RX2 92 yX1_hasPage, .instanceMethod yX1_hasPage, .selects RX1 yX1_hasPage yX1_hasPage, .initialized RX1, .code yX1_hasPage cX1_hasPage 2 (some .boolean), .fieldLink RX1 9 "SealedPages$Layout" "pageCount" "I", .static yX2_isBelow, .initialized RX2, .code yX2_isBelow cX2_isBelow 2 (some .boolean), .methodLink RX2 121 yX2_nodeBesideWay, .static yX2_nodeBesideWay, .code yX2_nodeBesideWay cX2_nodeBesideWay 2 (some .int), .methodLink RX2 115 yX1_hasNode, .instanceMethod yX1_hasNode, .selects RX1 yX1_hasNode yX1_hasNode, .code yX1_hasNode cX1_hasNode 3 (some .boolean), .fieldLink RX1 22 "SealedPages$Layout" "levelCount" "I", .fieldLink RX1 15 "SealedPages$Layout" "widths" "[I"] ++ wsX20 ++ wsX10)
def wsX2_beside_r1 : List Cond := [Cond.fieldLink RX2 23 "SealedPages" "layout" "LSealedPages$Layout;", Cond.fieldLink RX2 100 "SealedPages$Layout" "levelCount" "I", Cond.fieldLink RX2 38 "SealedPages" "diskBytes" "[I", Cond.methodLink RX2 92 yX1_hasPage, Cond.instanceMethod yX1_hasPage, Cond.selects RX1 yX1_hasPage yX1_hasPage, Cond.initialized RX1, Cond.code yX1_hasPage cX1_hasPage 2 (some .boolean), Cond.fieldLink RX1 9 "SealedPages$Layout" "pageCount" "I", Cond.static yX2_isBelow, Cond.initialized RX2, Cond.code yX2_isBelow cX2_isBelow 2 (some .boolean), Cond.methodLink RX2 63 yX2_isBelow, Cond.methodLink RX2 121 yX2_nodeBesideWay, Cond.static yX2_nodeBesideWay, Cond.code yX2_nodeBesideWay cX2_nodeBesideWay 2 (some .int), Cond.methodLink RX2 115 yX1_hasNode, Cond.instanceMethod yX1_hasNode, Cond.selects RX1 yX1_hasNode yX1_hasNode, Cond.code yX1_hasNode cX1_hasNode 3 (some .boolean), Cond.fieldLink RX1 22 "SealedPages$Layout" "levelCount" "I", Cond.fieldLink RX1 15 "SealedPages$Layout" "widths" "[I", Cond.methodLink RX2 118 yX1_placeOfNode, Cond.instanceMethod yX1_placeOfNode]
def wsX2_beside_r2 : List Cond := [Cond.selects RX1 yX1_placeOfNode yX1_placeOfNode, Cond.code yX1_placeOfNode cX1_placeOfNode 3 (some .int), Cond.methodLink RX1 35 yX1_numberOfNode, Cond.instanceMethod yX1_numberOfNode, Cond.selects RX1 yX1_numberOfNode yX1_numberOfNode, Cond.code yX1_numberOfNode cX1_numberOfNode 3 (some .int), Cond.fieldLink RX1 19 "SealedPages$Layout" "nodesAhead" "[I"]
def wsX2_beside : List Cond := .code yX2_beside cX2_beside 7 (some .int) :: ((wsX2_beside_r1 ++ wsX2_beside_r2) ++ wsX20 ++ wsX10)
def wsX2_keep : List Cond := .code yX2_keep cX2_keep 1 (some .int) :: ([.fieldLink RX2 38 "SealedPages" "diskBytes" "[I", .fieldLink RX2 48 "SealedPages" "keptDisk" "[I", .fieldLink RX2 23 "SealedPages" "layout" "LSealedPages$Layout;", .fieldLink RX2 34 "SealedPages$Layout" "byteCount" "I", .methodLink RX2 74 arraycopyName, .native arraycopyName, .static arraycopyName, .initialized "java/lang/System", .fieldLink RX2 42 "SealedPages" "rootBytes" "[I", .fieldLink RX2 51 "SealedPages" "keptRoot" "[I", .fieldLink RX2 124 "SealedPages" "somethingKept" "Z"] ++ wsX20 ++ wsX10)
def wsX2_restoreDisk : List Cond := .code yX2_restoreDisk cX2_restoreDisk 3 (some .int) :: ([.fieldLink RX2 23 "SealedPages" "layout" "LSealedPages$Layout;", .fieldLink RX2 34 "SealedPages$Layout" "byteCount" "I", .fieldLink RX2 38 "SealedPages" "diskBytes" "[I", .fieldLink RX2 48 "SealedPages" "keptDisk" "[I"] ++ wsX20 ++ wsX10)
def wsX2_back : List Cond := .code yX2_back cX2_back 1 (some .int) :: ([.fieldLink RX2 124 "SealedPages" "somethingKept" "Z", .methodLink RX2 128 yX2_restoreDisk, .instanceMethod yX2_restoreDisk, .selects RX2 yX2_restoreDisk yX2_restoreDisk, .initialized RX2, .code yX2_restoreDisk cX2_restoreDisk 3 (some .int), .fieldLink RX2 23 "SealedPages" "layout" "LSealedPages$Layout;", .fieldLink RX2 34 "SealedPages$Layout" "byteCount" "I", .fieldLink RX2 38 "SealedPages" "diskBytes" "[I", .fieldLink RX2 48 "SealedPages" "keptDisk" "[I"] ++ wsX20 ++ wsX10)
def wsX2_open : List Cond := .code yX2_open cX2_open 1 (some .int) :: ([.fieldLink RX2 124 "SealedPages" "somethingKept" "Z", .fieldLink RX2 51 "SealedPages" "keptRoot" "[I", .fieldLink RX2 42 "SealedPages" "rootBytes" "[I", .methodLink RX2 74 arraycopyName, .native arraycopyName, .static arraycopyName, .initialized "java/lang/System", .methodLink RX2 128 yX2_restoreDisk, .instanceMethod yX2_restoreDisk, .selects RX2 yX2_restoreDisk yX2_restoreDisk, .initialized RX2, .code yX2_restoreDisk cX2_restoreDisk 3 (some .int), .fieldLink RX2 23 "SealedPages" "layout" "LSealedPages$Layout;", .fieldLink RX2 34 "SealedPages$Layout" "byteCount" "I", .fieldLink RX2 38 "SealedPages" "diskBytes" "[I", .fieldLink RX2 48 "SealedPages" "keptDisk" "[I"] ++ wsX20 ++ wsX10)
def wsX2_hash_r1 : List Cond := [Cond.fieldLink RX2 30 "SealedPages" "hasher" "LSealedPages$Hasher;", Cond.fieldLink RX2 45 "SealedPages" "draftBytes" "[I", Cond.methodLink RX2 63 yX2_isBelow, Cond.static yX2_isBelow, Cond.initialized RX2, Cond.code yX2_isBelow cX2_isBelow 2 (some .boolean), Cond.methodLink RX2 131 yX0_begin, Cond.instanceMethod yX0_begin, Cond.selects RX0 yX0_begin yX0_begin, Cond.initialized RX0, Cond.code yX0_begin cX0_begin 1 none, Cond.fieldLink RX0 18 "SealedPages$Hasher" "FIRST_SUMS" "[I", Cond.fieldLink RX0 9 "SealedPages$Hasher" "sums" "[I", Cond.methodLink RX0 21 arraycopyName, Cond.native arraycopyName, Cond.static arraycopyName, Cond.initialized "java/lang/System", Cond.fieldLink RX0 27 "SealedPages$Hasher" "length" "I", Cond.methodLink RX2 134 yX0_addRow, Cond.instanceMethod yX0_addRow, Cond.selects RX0 yX0_addRow yX0_addRow, Cond.code yX0_addRow cX0_addRow 5 none, Cond.methodLink RX0 37 yX0_addByte, Cond.instanceMethod yX0_addByte]
def wsX2_hash_r2 : List Cond := [Cond.selects RX0 yX0_addByte yX0_addByte, Cond.code yX0_addByte cX0_addByte 3 none, Cond.fieldLink RX0 15 "SealedPages$Hasher" "words" "[I", Cond.methodLink RX0 31 yX0_spreadWords, Cond.instanceMethod yX0_spreadWords, Cond.selects RX0 yX0_spreadWords yX0_spreadWords, Cond.code yX0_spreadWords cX0_spreadWords 6 none, Cond.methodLink RX0 34 yX0_mixBlock, Cond.instanceMethod yX0_mixBlock, Cond.selects RX0 yX0_mixBlock yX0_mixBlock, Cond.code yX0_mixBlock cX0_mixBlock 14 none, Cond.fieldLink RX0 47 "SealedPages$Hasher" "CONSTANTS" "[I", Cond.methodLink RX2 138 yX0_finish, Cond.instanceMethod yX0_finish, Cond.selects RX0 yX0_finish yX0_finish, Cond.code yX0_finish cX0_finish 5 none, Cond.constantLong RX0 41 (8), Cond.methodLink RX2 141 yX0_resultByte, Cond.instanceMethod yX0_resultByte, Cond.selects RX0 yX0_resultByte yX0_resultByte, Cond.code yX0_resultByte cX0_resultByte 2 (some .int)]
def wsX2_hash : List Cond := .code yX2_hash cX2_hash 3 (some .int) :: ((wsX2_hash_r1 ++ wsX2_hash_r2) ++ wsX20 ++ wsX00)
def wsX2_told : List Cond := .code yX2_told cX2_told 2 (some .int) :: ([.fieldLink RX2 23 "SealedPages" "layout" "LSealedPages$Layout;", .fieldLink RX2 109 "SealedPages$Layout" "pageCount" "I", .fieldLink RX2 80 "SealedPages" "pagesGiven" "I", .fieldLink RX2 89 "SealedPages" "pagesWritten" "I", .fieldLink RX2 83 "SealedPages" "faultsTold" "I"] ++ wsX20 ++ wsX10)
def wsX3_nodesOf : List Cond := .code yX3_nodesOf cX3_nodesOf 4 (some .int) :: ([.fieldLink RX3 121 "SealedPagesModel" "pages" "I"] ++ wsX30)
def wsX3_levelsOf : List Cond := .code yX3_levelsOf cX3_levelsOf 2 (some .int) :: ([.methodLink RX3 155 yX3_nodesOf, .instanceMethod yX3_nodesOf, .selects RX3 yX3_nodesOf yX3_nodesOf, .initialized RX3, .code yX3_nodesOf cX3_nodesOf 4 (some .int), .fieldLink RX3 121 "SealedPagesModel" "pages" "I"] ++ wsX30)
def wsX3_placeOf : List Cond := .code yX3_placeOf cX3_placeOf 5 (some .int) :: ([.fieldLink RX3 121 "SealedPagesModel" "pages" "I", .methodLink RX3 155 yX3_nodesOf, .instanceMethod yX3_nodesOf, .selects RX3 yX3_nodesOf yX3_nodesOf, .initialized RX3, .code yX3_nodesOf cX3_nodesOf 4 (some .int)] ++ wsX30)
def wsX3_headOf : List Cond := .code yX3_headOf cX3_headOf 2 (some .int) :: ([.fieldLink RX3 121 "SealedPagesModel" "pages" "I"] ++ wsX30)
def wsX3_add : List Cond := .code yX3_add cX3_add 2 none :: ([.fieldLink RX3 103 "SealedPagesModel" "row" "[I", .fieldLink RX3 139 "SealedPagesModel" "length" "I"] ++ wsX30)
def wsX3_turned : List Cond := .code yX3_turned cX3_turned 2 (some .int) :: ([])
def wsX3_round : List Cond := .code yX3_round cX3_round 9 none :: ([.fieldLink RX3 115 "SealedPagesModel" "work" "[I", .fieldLink RX3 71 "SealedPagesModel" "k0" "[I", .fieldLink RX3 109 "SealedPagesModel" "words" "[I", .methodLink RX3 149 yX3_turned, .static yX3_turned, .initialized RX3, .code yX3_turned cX3_turned 2 (some .int)] ++ wsX30)
def wsX3_mix : List Cond := .code yX3_mix cX3_mix 7 none :: ([.fieldLink RX3 109 "SealedPagesModel" "words" "[I", .fieldLink RX3 103 "SealedPagesModel" "row" "[I", .fieldLink RX3 115 "SealedPagesModel" "work" "[I", .fieldLink RX3 112 "SealedPagesModel" "state" "[I", .methodLink RX3 149 yX3_turned, .static yX3_turned, .initialized RX3, .code yX3_turned cX3_turned 2 (some .int), .methodLink RX3 152 yX3_round, .instanceMethod yX3_round, .selects RX3 yX3_round yX3_round, .code yX3_round cX3_round 9 none, .fieldLink RX3 71 "SealedPagesModel" "k0" "[I"] ++ wsX30)
def wsX3_hashRow : List Cond := .code yX3_hashRow cX3_hashRow 3 none :: ([.fieldLink RX3 139 "SealedPagesModel" "length" "I", .fieldLink RX3 112 "SealedPagesModel" "state" "[I", .fieldLink RX3 85 "SealedPagesModel" "h0" "[I", .fieldLink RX3 106 "SealedPagesModel" "out" "[I", .methodLink RX3 142 yX3_add, .instanceMethod yX3_add, .selects RX3 yX3_add yX3_add, .initialized RX3, .code yX3_add cX3_add 2 none, .fieldLink RX3 103 "SealedPagesModel" "row" "[I", .methodLink RX3 146 yX3_mix, .instanceMethod yX3_mix, .selects RX3 yX3_mix yX3_mix, .code yX3_mix cX3_mix 7 none, .fieldLink RX3 109 "SealedPagesModel" "words" "[I", .fieldLink RX3 115 "SealedPagesModel" "work" "[I", .methodLink RX3 149 yX3_turned, .static yX3_turned, .code yX3_turned cX3_turned 2 (some .int), .methodLink RX3 152 yX3_round, .instanceMethod yX3_round, .selects RX3 yX3_round yX3_round, .code yX3_round cX3_round 9 none, .fieldLink RX3 71 "SealedPagesModel" "k0" "[I"] ++ wsX30)
def wsX3_hashNode_r1 : List Cond := [Cond.fieldLink RX3 139 "SealedPagesModel" "length" "I", Cond.fieldLink RX3 88 "SealedPagesModel" "disk" "[I", Cond.methodLink RX3 142 yX3_add, Cond.instanceMethod yX3_add, Cond.selects RX3 yX3_add yX3_add, Cond.initialized RX3, Cond.code yX3_add cX3_add 2 none, Cond.fieldLink RX3 103 "SealedPagesModel" "row" "[I", Cond.methodLink RX3 155 yX3_nodesOf, Cond.instanceMethod yX3_nodesOf, Cond.selects RX3 yX3_nodesOf yX3_nodesOf, Cond.code yX3_nodesOf cX3_nodesOf 4 (some .int), Cond.fieldLink RX3 121 "SealedPagesModel" "pages" "I", Cond.methodLink RX3 129 yX3_placeOf, Cond.instanceMethod yX3_placeOf, Cond.selects RX3 yX3_placeOf yX3_placeOf, Cond.code yX3_placeOf cX3_placeOf 5 (some .int), Cond.methodLink RX3 159 yX3_hashRow, Cond.instanceMethod yX3_hashRow, Cond.selects RX3 yX3_hashRow yX3_hashRow, Cond.code yX3_hashRow cX3_hashRow 3 none, Cond.fieldLink RX3 112 "SealedPagesModel" "state" "[I", Cond.fieldLink RX3 85 "SealedPagesModel" "h0" "[I", Cond.fieldLink RX3 106 "SealedPagesModel" "out" "[I"]
def wsX3_hashNode_r2 : List Cond := [Cond.methodLink RX3 146 yX3_mix, Cond.instanceMethod yX3_mix, Cond.selects RX3 yX3_mix yX3_mix, Cond.code yX3_mix cX3_mix 7 none, Cond.fieldLink RX3 109 "SealedPagesModel" "words" "[I", Cond.fieldLink RX3 115 "SealedPagesModel" "work" "[I", Cond.methodLink RX3 149 yX3_turned, Cond.static yX3_turned, Cond.code yX3_turned cX3_turned 2 (some .int), Cond.methodLink RX3 152 yX3_round, Cond.instanceMethod yX3_round, Cond.selects RX3 yX3_round yX3_round, Cond.code yX3_round cX3_round 9 none, Cond.fieldLink RX3 71 "SealedPagesModel" "k0" "[I"]
def wsX3_hashNode : List Cond := .code yX3_hashNode cX3_hashNode 6 none :: ((wsX3_hashNode_r1 ++ wsX3_hashNode_r2) ++ wsX30)
def wsX3_putNode_r1 : List Cond := [Cond.fieldLink RX3 88 "SealedPagesModel" "disk" "[I", Cond.fieldLink RX3 106 "SealedPagesModel" "out" "[I", Cond.methodLink RX3 162 yX3_hashNode, Cond.instanceMethod yX3_hashNode, Cond.selects RX3 yX3_hashNode yX3_hashNode, Cond.initialized RX3, Cond.code yX3_hashNode cX3_hashNode 6 none, Cond.fieldLink RX3 139 "SealedPagesModel" "length" "I", Cond.methodLink RX3 142 yX3_add, Cond.instanceMethod yX3_add, Cond.selects RX3 yX3_add yX3_add, Cond.code yX3_add cX3_add 2 none, Cond.fieldLink RX3 103 "SealedPagesModel" "row" "[I", Cond.methodLink RX3 155 yX3_nodesOf, Cond.instanceMethod yX3_nodesOf, Cond.selects RX3 yX3_nodesOf yX3_nodesOf, Cond.code yX3_nodesOf cX3_nodesOf 4 (some .int), Cond.fieldLink RX3 121 "SealedPagesModel" "pages" "I", Cond.methodLink RX3 129 yX3_placeOf, Cond.instanceMethod yX3_placeOf, Cond.selects RX3 yX3_placeOf yX3_placeOf, Cond.code yX3_placeOf cX3_placeOf 5 (some .int), Cond.methodLink RX3 159 yX3_hashRow, Cond.instanceMethod yX3_hashRow]
def wsX3_putNode_r2 : List Cond := [Cond.selects RX3 yX3_hashRow yX3_hashRow, Cond.code yX3_hashRow cX3_hashRow 3 none, Cond.fieldLink RX3 112 "SealedPagesModel" "state" "[I", Cond.fieldLink RX3 85 "SealedPagesModel" "h0" "[I", Cond.methodLink RX3 146 yX3_mix, Cond.instanceMethod yX3_mix, Cond.selects RX3 yX3_mix yX3_mix, Cond.code yX3_mix cX3_mix 7 none, Cond.fieldLink RX3 109 "SealedPagesModel" "words" "[I", Cond.fieldLink RX3 115 "SealedPagesModel" "work" "[I", Cond.methodLink RX3 149 yX3_turned, Cond.static yX3_turned, Cond.code yX3_turned cX3_turned 2 (some .int), Cond.methodLink RX3 152 yX3_round, Cond.instanceMethod yX3_round, Cond.selects RX3 yX3_round yX3_round, Cond.code yX3_round cX3_round 9 none, Cond.fieldLink RX3 71 "SealedPagesModel" "k0" "[I"]
def wsX3_putNode : List Cond := .code yX3_putNode cX3_putNode 5 none :: ((wsX3_putNode_r1 ++ wsX3_putNode_r2) ++ wsX30)
def wsX3_hashRoot_r1 : List Cond := [Cond.fieldLink RX3 139 "SealedPagesModel" "length" "I", Cond.fieldLink RX3 88 "SealedPagesModel" "disk" "[I", Cond.methodLink RX3 142 yX3_add, Cond.instanceMethod yX3_add, Cond.selects RX3 yX3_add yX3_add, Cond.initialized RX3, Cond.code yX3_add cX3_add 2 none, Cond.fieldLink RX3 103 "SealedPagesModel" "row" "[I", Cond.methodLink RX3 125 yX3_levelsOf, Cond.instanceMethod yX3_levelsOf, Cond.selects RX3 yX3_levelsOf yX3_levelsOf, Cond.code yX3_levelsOf cX3_levelsOf 2 (some .int), Cond.methodLink RX3 155 yX3_nodesOf, Cond.instanceMethod yX3_nodesOf, Cond.selects RX3 yX3_nodesOf yX3_nodesOf, Cond.code yX3_nodesOf cX3_nodesOf 4 (some .int), Cond.fieldLink RX3 121 "SealedPagesModel" "pages" "I", Cond.methodLink RX3 129 yX3_placeOf, Cond.instanceMethod yX3_placeOf, Cond.selects RX3 yX3_placeOf yX3_placeOf, Cond.code yX3_placeOf cX3_placeOf 5 (some .int), Cond.methodLink RX3 159 yX3_hashRow, Cond.instanceMethod yX3_hashRow, Cond.selects RX3 yX3_hashRow yX3_hashRow]
def wsX3_hashRoot_r2 : List Cond := [Cond.code yX3_hashRow cX3_hashRow 3 none, Cond.fieldLink RX3 112 "SealedPagesModel" "state" "[I", Cond.fieldLink RX3 85 "SealedPagesModel" "h0" "[I", Cond.fieldLink RX3 106 "SealedPagesModel" "out" "[I", Cond.methodLink RX3 146 yX3_mix, Cond.instanceMethod yX3_mix, Cond.selects RX3 yX3_mix yX3_mix, Cond.code yX3_mix cX3_mix 7 none, Cond.fieldLink RX3 109 "SealedPagesModel" "words" "[I", Cond.fieldLink RX3 115 "SealedPagesModel" "work" "[I", Cond.methodLink RX3 149 yX3_turned, Cond.static yX3_turned, Cond.code yX3_turned cX3_turned 2 (some .int), Cond.methodLink RX3 152 yX3_round, Cond.instanceMethod yX3_round, Cond.selects RX3 yX3_round yX3_round, Cond.code yX3_round cX3_round 9 none, Cond.fieldLink RX3 71 "SealedPagesModel" "k0" "[I"]
def wsX3_hashRoot : List Cond := .code yX3_hashRoot cX3_hashRoot 3 none :: ((wsX3_hashRoot_r1 ++ wsX3_hashRoot_r2) ++ wsX30)
def wsX3_putRoot_r1 : List Cond := [Cond.fieldLink RX3 91 "SealedPagesModel" "root" "[I", Cond.fieldLink RX3 106 "SealedPagesModel" "out" "[I", Cond.methodLink RX3 166 yX3_hashRoot, Cond.instanceMethod yX3_hashRoot, Cond.selects RX3 yX3_hashRoot yX3_hashRoot, Cond.initialized RX3, Cond.code yX3_hashRoot cX3_hashRoot 3 none, Cond.fieldLink RX3 139 "SealedPagesModel" "length" "I", Cond.fieldLink RX3 88 "SealedPagesModel" "disk" "[I", Cond.methodLink RX3 142 yX3_add, Cond.instanceMethod yX3_add, Cond.selects RX3 yX3_add yX3_add, Cond.code yX3_add cX3_add 2 none, Cond.fieldLink RX3 103 "SealedPagesModel" "row" "[I", Cond.methodLink RX3 125 yX3_levelsOf, Cond.instanceMethod yX3_levelsOf, Cond.selects RX3 yX3_levelsOf yX3_levelsOf, Cond.code yX3_levelsOf cX3_levelsOf 2 (some .int), Cond.methodLink RX3 155 yX3_nodesOf, Cond.instanceMethod yX3_nodesOf, Cond.selects RX3 yX3_nodesOf yX3_nodesOf, Cond.code yX3_nodesOf cX3_nodesOf 4 (some .int), Cond.fieldLink RX3 121 "SealedPagesModel" "pages" "I", Cond.methodLink RX3 129 yX3_placeOf]
def wsX3_putRoot_r2 : List Cond := [Cond.instanceMethod yX3_placeOf, Cond.selects RX3 yX3_placeOf yX3_placeOf, Cond.code yX3_placeOf cX3_placeOf 5 (some .int), Cond.methodLink RX3 159 yX3_hashRow, Cond.instanceMethod yX3_hashRow, Cond.selects RX3 yX3_hashRow yX3_hashRow, Cond.code yX3_hashRow cX3_hashRow 3 none, Cond.fieldLink RX3 112 "SealedPagesModel" "state" "[I", Cond.fieldLink RX3 85 "SealedPagesModel" "h0" "[I", Cond.methodLink RX3 146 yX3_mix, Cond.instanceMethod yX3_mix, Cond.selects RX3 yX3_mix yX3_mix, Cond.code yX3_mix cX3_mix 7 none, Cond.fieldLink RX3 109 "SealedPagesModel" "words" "[I", Cond.fieldLink RX3 115 "SealedPagesModel" "work" "[I", Cond.methodLink RX3 149 yX3_turned, Cond.static yX3_turned, Cond.code yX3_turned cX3_turned 2 (some .int), Cond.methodLink RX3 152 yX3_round, Cond.instanceMethod yX3_round, Cond.selects RX3 yX3_round yX3_round, Cond.code yX3_round cX3_round 9 none, Cond.fieldLink RX3 71 "SealedPagesModel" "k0" "[I"]
def wsX3_putRoot : List Cond := .code yX3_putRoot cX3_putRoot 2 none :: ((wsX3_putRoot_r1 ++ wsX3_putRoot_r2) ++ wsX30)
def wsX3_seal_r1 : List Cond := [Cond.fieldLink RX3 88 "SealedPagesModel" "disk" "[I", Cond.methodLink RX3 169 yX3_headOf, Cond.instanceMethod yX3_headOf, Cond.selects RX3 yX3_headOf yX3_headOf, Cond.initialized RX3, Cond.code yX3_headOf cX3_headOf 2 (some .int), Cond.fieldLink RX3 121 "SealedPagesModel" "pages" "I", Cond.methodLink RX3 125 yX3_levelsOf, Cond.instanceMethod yX3_levelsOf, Cond.selects RX3 yX3_levelsOf yX3_levelsOf, Cond.code yX3_levelsOf cX3_levelsOf 2 (some .int), Cond.methodLink RX3 155 yX3_nodesOf, Cond.instanceMethod yX3_nodesOf, Cond.selects RX3 yX3_nodesOf yX3_nodesOf, Cond.code yX3_nodesOf cX3_nodesOf 4 (some .int), Cond.methodLink RX3 192 yX3_putNode, Cond.instanceMethod yX3_putNode, Cond.selects RX3 yX3_putNode yX3_putNode, Cond.code yX3_putNode cX3_putNode 5 none, Cond.fieldLink RX3 106 "SealedPagesModel" "out" "[I", Cond.methodLink RX3 162 yX3_hashNode, Cond.instanceMethod yX3_hashNode, Cond.selects RX3 yX3_hashNode yX3_hashNode, Cond.code yX3_hashNode cX3_hashNode 6 none]
def wsX3_seal_r2 : List Cond := [Cond.fieldLink RX3 139 "SealedPagesModel" "length" "I", Cond.methodLink RX3 142 yX3_add, Cond.instanceMethod yX3_add, Cond.selects RX3 yX3_add yX3_add, Cond.code yX3_add cX3_add 2 none, Cond.fieldLink RX3 103 "SealedPagesModel" "row" "[I", Cond.methodLink RX3 129 yX3_placeOf, Cond.instanceMethod yX3_placeOf, Cond.selects RX3 yX3_placeOf yX3_placeOf, Cond.code yX3_placeOf cX3_placeOf 5 (some .int), Cond.methodLink RX3 159 yX3_hashRow, Cond.instanceMethod yX3_hashRow, Cond.selects RX3 yX3_hashRow yX3_hashRow, Cond.code yX3_hashRow cX3_hashRow 3 none, Cond.fieldLink RX3 112 "SealedPagesModel" "state" "[I", Cond.fieldLink RX3 85 "SealedPagesModel" "h0" "[I", Cond.methodLink RX3 146 yX3_mix, Cond.instanceMethod yX3_mix, Cond.selects RX3 yX3_mix yX3_mix, Cond.code yX3_mix cX3_mix 7 none, Cond.fieldLink RX3 109 "SealedPagesModel" "words" "[I", Cond.fieldLink RX3 115 "SealedPagesModel" "work" "[I", Cond.methodLink RX3 149 yX3_turned, Cond.static yX3_turned]
def wsX3_seal_r3 : List Cond := [Cond.code yX3_turned cX3_turned 2 (some .int), Cond.methodLink RX3 152 yX3_round, Cond.instanceMethod yX3_round, Cond.selects RX3 yX3_round yX3_round, Cond.code yX3_round cX3_round 9 none, Cond.fieldLink RX3 71 "SealedPagesModel" "k0" "[I", Cond.methodLink RX3 195 yX3_putRoot, Cond.instanceMethod yX3_putRoot, Cond.selects RX3 yX3_putRoot yX3_putRoot, Cond.code yX3_putRoot cX3_putRoot 2 none, Cond.fieldLink RX3 91 "SealedPagesModel" "root" "[I", Cond.methodLink RX3 166 yX3_hashRoot, Cond.instanceMethod yX3_hashRoot, Cond.selects RX3 yX3_hashRoot yX3_hashRoot, Cond.code yX3_hashRoot cX3_hashRoot 3 none]
def wsX3_seal : List Cond := .code yX3_seal cX3_seal 6 (some .int) :: ((wsX3_seal_r1 ++ (wsX3_seal_r2 ++ wsX3_seal_r3)) ++ wsX30)
def wsX3_init_r1 : List Cond := [Cond.methodLink RX3 1 objectInit, Cond.instanceMethod objectInit, Cond.code objectInit ⟨#[0xb1]⟩ 1 none, Cond.arrayClass .int, Cond.constant RX3 7 (1116352408), Cond.constant RX3 8 (1899447441), Cond.constant RX3 9 (-1245643825), Cond.constant RX3 10 (-373957723), Cond.constant RX3 11 (961987163), Cond.constant RX3 12 (1508970993), Cond.constant RX3 13 (-1841331548), Cond.constant RX3 14 (-1424204075), Cond.constant RX3 15 (-670586216), Cond.constant RX3 16 (310598401), Cond.constant RX3 17 (607225278), Cond.constant RX3 18 (1426881987), Cond.constant RX3 19 (1925078388), Cond.constant RX3 20 (-2132889090), Cond.constant RX3 21 (-1680079193), Cond.constant RX3 22 (-1046744716), Cond.constant RX3 23 (-459576895), Cond.constant RX3 24 (-272742522), Cond.constant RX3 25 (264347078), Cond.constant RX3 26 (604807628)]
def wsX3_init_r2 : List Cond := [Cond.constant RX3 27 (770255983), Cond.constant RX3 28 (1249150122), Cond.constant RX3 29 (1555081692), Cond.constant RX3 30 (1996064986), Cond.constant RX3 31 (-1740746414), Cond.constant RX3 32 (-1473132947), Cond.constant RX3 33 (-1341970488), Cond.constant RX3 34 (-1084653625), Cond.constant RX3 35 (-958395405), Cond.constant RX3 36 (-710438585), Cond.constant RX3 37 (113926993), Cond.constant RX3 38 (338241895), Cond.constant RX3 39 (666307205), Cond.constant RX3 40 (773529912), Cond.constant RX3 41 (1294757372), Cond.constant RX3 42 (1396182291), Cond.constant RX3 43 (1695183700), Cond.constant RX3 44 (1986661051), Cond.constant RX3 45 (-2117940946), Cond.constant RX3 46 (-1838011259), Cond.constant RX3 47 (-1564481375), Cond.constant RX3 48 (-1474664885), Cond.constant RX3 49 (-1035236496), Cond.constant RX3 50 (-949202525)]
def wsX3_init_r3 : List Cond := [Cond.constant RX3 51 (-778901479), Cond.constant RX3 52 (-694614492), Cond.constant RX3 53 (-200395387), Cond.constant RX3 54 (275423344), Cond.constant RX3 55 (430227734), Cond.constant RX3 56 (506948616), Cond.constant RX3 57 (659060556), Cond.constant RX3 58 (883997877), Cond.constant RX3 59 (958139571), Cond.constant RX3 60 (1322822218), Cond.constant RX3 61 (1537002063), Cond.constant RX3 62 (1747873779), Cond.constant RX3 63 (1955562222), Cond.constant RX3 64 (2024104815), Cond.constant RX3 65 (-2067236844), Cond.constant RX3 66 (-1933114872), Cond.constant RX3 67 (-1866530822), Cond.constant RX3 68 (-1538233109), Cond.constant RX3 69 (-1090935817), Cond.constant RX3 70 (-965641998), Cond.fieldLink RX3 71 "SealedPagesModel" "k0" "[I", Cond.constant RX3 77 (1779033703), Cond.constant RX3 78 (-1150833019), Cond.constant RX3 79 (1013904242)]
def wsX3_init_r4 : List Cond := [Cond.constant RX3 80 (-1521486534), Cond.constant RX3 81 (1359893119), Cond.constant RX3 82 (-1694144372), Cond.constant RX3 83 (528734635), Cond.constant RX3 84 (1541459225), Cond.fieldLink RX3 85 "SealedPagesModel" "h0" "[I", Cond.fieldLink RX3 88 "SealedPagesModel" "disk" "[I", Cond.fieldLink RX3 91 "SealedPagesModel" "root" "[I", Cond.fieldLink RX3 94 "SealedPagesModel" "draft" "[I", Cond.fieldLink RX3 97 "SealedPagesModel" "keptDisk" "[I", Cond.fieldLink RX3 100 "SealedPagesModel" "keptRoot" "[I", Cond.fieldLink RX3 103 "SealedPagesModel" "row" "[I", Cond.fieldLink RX3 106 "SealedPagesModel" "out" "[I", Cond.fieldLink RX3 109 "SealedPagesModel" "words" "[I", Cond.fieldLink RX3 112 "SealedPagesModel" "state" "[I", Cond.fieldLink RX3 115 "SealedPagesModel" "work" "[I", Cond.fieldLink RX3 118 "SealedPagesModel" "carried" "[I", Cond.fieldLink RX3 121 "SealedPagesModel" "pages" "I", Cond.fieldLink RX3 133 "SealedPagesModel" "size" "I", Cond.methodLink RX3 125 yX3_levelsOf, Cond.instanceMethod yX3_levelsOf, Cond.selects RX3 yX3_levelsOf yX3_levelsOf, Cond.initialized RX3, Cond.code yX3_levelsOf cX3_levelsOf 2 (some .int)]
def wsX3_init_r5 : List Cond := [Cond.methodLink RX3 155 yX3_nodesOf, Cond.instanceMethod yX3_nodesOf, Cond.selects RX3 yX3_nodesOf yX3_nodesOf, Cond.code yX3_nodesOf cX3_nodesOf 4 (some .int), Cond.methodLink RX3 129 yX3_placeOf, Cond.instanceMethod yX3_placeOf, Cond.selects RX3 yX3_placeOf yX3_placeOf, Cond.code yX3_placeOf cX3_placeOf 5 (some .int), Cond.methodLink RX3 136 yX3_seal, Cond.instanceMethod yX3_seal, Cond.selects RX3 yX3_seal yX3_seal, Cond.code yX3_seal cX3_seal 6 (some .int), Cond.methodLink RX3 169 yX3_headOf, Cond.instanceMethod yX3_headOf, Cond.selects RX3 yX3_headOf yX3_headOf, Cond.code yX3_headOf cX3_headOf 2 (some .int), Cond.methodLink RX3 192 yX3_putNode, Cond.instanceMethod yX3_putNode, Cond.selects RX3 yX3_putNode yX3_putNode, Cond.code yX3_putNode cX3_putNode 5 none, Cond.methodLink RX3 162 yX3_hashNode, Cond.instanceMethod yX3_hashNode, Cond.selects RX3 yX3_hashNode yX3_hashNode, Cond.code yX3_hashNode cX3_hashNode 6 none]
def wsX3_init_r6 : List Cond := [Cond.fieldLink RX3 139 "SealedPagesModel" "length" "I", Cond.methodLink RX3 142 yX3_add, Cond.instanceMethod yX3_add, Cond.selects RX3 yX3_add yX3_add, Cond.code yX3_add cX3_add 2 none, Cond.methodLink RX3 159 yX3_hashRow, Cond.instanceMethod yX3_hashRow, Cond.selects RX3 yX3_hashRow yX3_hashRow, Cond.code yX3_hashRow cX3_hashRow 3 none, Cond.methodLink RX3 146 yX3_mix, Cond.instanceMethod yX3_mix, Cond.selects RX3 yX3_mix yX3_mix, Cond.code yX3_mix cX3_mix 7 none, Cond.methodLink RX3 149 yX3_turned, Cond.static yX3_turned, Cond.code yX3_turned cX3_turned 2 (some .int), Cond.methodLink RX3 152 yX3_round, Cond.instanceMethod yX3_round, Cond.selects RX3 yX3_round yX3_round, Cond.code yX3_round cX3_round 9 none, Cond.methodLink RX3 195 yX3_putRoot, Cond.instanceMethod yX3_putRoot, Cond.selects RX3 yX3_putRoot yX3_putRoot, Cond.code yX3_putRoot cX3_putRoot 2 none]
def wsX3_init_r7 : List Cond := [Cond.methodLink RX3 166 yX3_hashRoot, Cond.instanceMethod yX3_hashRoot, Cond.selects RX3 yX3_hashRoot yX3_hashRoot, Cond.code yX3_hashRoot cX3_hashRoot 3 none]
def wsX3_init : List Cond := .code yX3_init cX3_init 2 none :: ((wsX3_init_r1 ++ (wsX3_init_r2 ++ (wsX3_init_r3 ++ (wsX3_init_r4 ++ (wsX3_init_r5 ++ (wsX3_init_r6 ++ wsX3_init_r7)))))) ++ wsX30)
def wsX3_isPage : List Cond := .code yX3_isPage cX3_isPage 2 (some .boolean) :: ([.fieldLink RX3 121 "SealedPagesModel" "pages" "I"] ++ wsX30)
def wsX3_isNode_r1 : List Cond := [Cond.fieldLink RX3 88 "SealedPagesModel" "disk" "[I", Cond.fieldLink RX3 106 "SealedPagesModel" "out" "[I", Cond.methodLink RX3 162 yX3_hashNode, Cond.instanceMethod yX3_hashNode, Cond.selects RX3 yX3_hashNode yX3_hashNode, Cond.initialized RX3, Cond.code yX3_hashNode cX3_hashNode 6 none, Cond.fieldLink RX3 139 "SealedPagesModel" "length" "I", Cond.methodLink RX3 142 yX3_add, Cond.instanceMethod yX3_add, Cond.selects RX3 yX3_add yX3_add, Cond.code yX3_add cX3_add 2 none, Cond.fieldLink RX3 103 "SealedPagesModel" "row" "[I", Cond.methodLink RX3 155 yX3_nodesOf, Cond.instanceMethod yX3_nodesOf, Cond.selects RX3 yX3_nodesOf yX3_nodesOf, Cond.code yX3_nodesOf cX3_nodesOf 4 (some .int), Cond.fieldLink RX3 121 "SealedPagesModel" "pages" "I", Cond.methodLink RX3 129 yX3_placeOf, Cond.instanceMethod yX3_placeOf, Cond.selects RX3 yX3_placeOf yX3_placeOf, Cond.code yX3_placeOf cX3_placeOf 5 (some .int), Cond.methodLink RX3 159 yX3_hashRow, Cond.instanceMethod yX3_hashRow]
def wsX3_isNode_r2 : List Cond := [Cond.selects RX3 yX3_hashRow yX3_hashRow, Cond.code yX3_hashRow cX3_hashRow 3 none, Cond.fieldLink RX3 112 "SealedPagesModel" "state" "[I", Cond.fieldLink RX3 85 "SealedPagesModel" "h0" "[I", Cond.methodLink RX3 146 yX3_mix, Cond.instanceMethod yX3_mix, Cond.selects RX3 yX3_mix yX3_mix, Cond.code yX3_mix cX3_mix 7 none, Cond.fieldLink RX3 109 "SealedPagesModel" "words" "[I", Cond.fieldLink RX3 115 "SealedPagesModel" "work" "[I", Cond.methodLink RX3 149 yX3_turned, Cond.static yX3_turned, Cond.code yX3_turned cX3_turned 2 (some .int), Cond.methodLink RX3 152 yX3_round, Cond.instanceMethod yX3_round, Cond.selects RX3 yX3_round yX3_round, Cond.code yX3_round cX3_round 9 none, Cond.fieldLink RX3 71 "SealedPagesModel" "k0" "[I"]
def wsX3_isNode : List Cond := .code yX3_isNode cX3_isNode 6 (some .boolean) :: ((wsX3_isNode_r1 ++ wsX3_isNode_r2) ++ wsX30)
def wsX3_nodeOn : List Cond := .code yX3_nodeOn cX3_nodeOn 5 (some .int) :: ([])
def wsX3_faultOf_r1 : List Cond := [Cond.fieldLink RX3 88 "SealedPagesModel" "disk" "[I", Cond.fieldLink RX3 91 "SealedPagesModel" "root" "[I", Cond.fieldLink RX3 106 "SealedPagesModel" "out" "[I", Cond.methodLink RX3 169 yX3_headOf, Cond.instanceMethod yX3_headOf, Cond.selects RX3 yX3_headOf yX3_headOf, Cond.initialized RX3, Cond.code yX3_headOf cX3_headOf 2 (some .int), Cond.fieldLink RX3 121 "SealedPagesModel" "pages" "I", Cond.methodLink RX3 166 yX3_hashRoot, Cond.instanceMethod yX3_hashRoot, Cond.selects RX3 yX3_hashRoot yX3_hashRoot, Cond.code yX3_hashRoot cX3_hashRoot 3 none, Cond.fieldLink RX3 139 "SealedPagesModel" "length" "I", Cond.methodLink RX3 142 yX3_add, Cond.instanceMethod yX3_add, Cond.selects RX3 yX3_add yX3_add, Cond.code yX3_add cX3_add 2 none, Cond.fieldLink RX3 103 "SealedPagesModel" "row" "[I", Cond.methodLink RX3 125 yX3_levelsOf, Cond.instanceMethod yX3_levelsOf, Cond.selects RX3 yX3_levelsOf yX3_levelsOf, Cond.code yX3_levelsOf cX3_levelsOf 2 (some .int), Cond.methodLink RX3 155 yX3_nodesOf]
def wsX3_faultOf_r2 : List Cond := [Cond.instanceMethod yX3_nodesOf, Cond.selects RX3 yX3_nodesOf yX3_nodesOf, Cond.code yX3_nodesOf cX3_nodesOf 4 (some .int), Cond.methodLink RX3 129 yX3_placeOf, Cond.instanceMethod yX3_placeOf, Cond.selects RX3 yX3_placeOf yX3_placeOf, Cond.code yX3_placeOf cX3_placeOf 5 (some .int), Cond.methodLink RX3 159 yX3_hashRow, Cond.instanceMethod yX3_hashRow, Cond.selects RX3 yX3_hashRow yX3_hashRow, Cond.code yX3_hashRow cX3_hashRow 3 none, Cond.fieldLink RX3 112 "SealedPagesModel" "state" "[I", Cond.fieldLink RX3 85 "SealedPagesModel" "h0" "[I", Cond.methodLink RX3 146 yX3_mix, Cond.instanceMethod yX3_mix, Cond.selects RX3 yX3_mix yX3_mix, Cond.code yX3_mix cX3_mix 7 none, Cond.fieldLink RX3 109 "SealedPagesModel" "words" "[I", Cond.fieldLink RX3 115 "SealedPagesModel" "work" "[I", Cond.methodLink RX3 149 yX3_turned, Cond.static yX3_turned, Cond.code yX3_turned cX3_turned 2 (some .int), Cond.methodLink RX3 152 yX3_round, Cond.instanceMethod yX3_round]
def wsX3_faultOf_r3 : List Cond := [Cond.selects RX3 yX3_round yX3_round, Cond.code yX3_round cX3_round 9 none, Cond.fieldLink RX3 71 "SealedPagesModel" "k0" "[I", Cond.methodLink RX3 172 yX3_nodeOn, Cond.instanceMethod yX3_nodeOn, Cond.selects RX3 yX3_nodeOn yX3_nodeOn, Cond.code yX3_nodeOn cX3_nodeOn 5 (some .int), Cond.methodLink RX3 175 yX3_isNode, Cond.instanceMethod yX3_isNode, Cond.selects RX3 yX3_isNode yX3_isNode, Cond.code yX3_isNode cX3_isNode 6 (some .boolean), Cond.methodLink RX3 162 yX3_hashNode, Cond.instanceMethod yX3_hashNode, Cond.selects RX3 yX3_hashNode yX3_hashNode, Cond.code yX3_hashNode cX3_hashNode 6 none]
def wsX3_faultOf : List Cond := .code yX3_faultOf cX3_faultOf 3 (some .int) :: ((wsX3_faultOf_r1 ++ (wsX3_faultOf_r2 ++ wsX3_faultOf_r3)) ++ wsX30)
def wsX3_put : List Cond := .code yX3_put cX3_put 4 (some .int) :: ([.fieldLink RX3 94 "SealedPagesModel" "draft" "[I"] ++ wsX30)
def wsX3_fill : List Cond := .code yX3_fill cX3_fill 5 (some .int) :: ([.fieldLink RX3 94 "SealedPagesModel" "draft" "[I"] ++ wsX30)
def wsX3_draft : List Cond := .code yX3_draft cX3_draft 2 (some .int) :: ([.fieldLink RX3 94 "SealedPagesModel" "draft" "[I"] ++ wsX30)
def wsX3_read_r1 : List Cond := [Cond.fieldLink RX3 186 "SealedPagesModel" "faults" "I", Cond.fieldLink RX3 94 "SealedPagesModel" "draft" "[I", Cond.fieldLink RX3 88 "SealedPagesModel" "disk" "[I", Cond.fieldLink RX3 189 "SealedPagesModel" "reads" "I", Cond.methodLink RX3 179 yX3_isPage, Cond.instanceMethod yX3_isPage, Cond.selects RX3 yX3_isPage yX3_isPage, Cond.initialized RX3, Cond.code yX3_isPage cX3_isPage 2 (some .boolean), Cond.fieldLink RX3 121 "SealedPagesModel" "pages" "I", Cond.methodLink RX3 183 yX3_faultOf, Cond.instanceMethod yX3_faultOf, Cond.selects RX3 yX3_faultOf yX3_faultOf, Cond.code yX3_faultOf cX3_faultOf 3 (some .int), Cond.fieldLink RX3 91 "SealedPagesModel" "root" "[I", Cond.fieldLink RX3 106 "SealedPagesModel" "out" "[I", Cond.methodLink RX3 169 yX3_headOf, Cond.instanceMethod yX3_headOf, Cond.selects RX3 yX3_headOf yX3_headOf, Cond.code yX3_headOf cX3_headOf 2 (some .int), Cond.methodLink RX3 166 yX3_hashRoot, Cond.instanceMethod yX3_hashRoot, Cond.selects RX3 yX3_hashRoot yX3_hashRoot, Cond.code yX3_hashRoot cX3_hashRoot 3 none]
def wsX3_read_r2 : List Cond := [Cond.fieldLink RX3 139 "SealedPagesModel" "length" "I", Cond.methodLink RX3 142 yX3_add, Cond.instanceMethod yX3_add, Cond.selects RX3 yX3_add yX3_add, Cond.code yX3_add cX3_add 2 none, Cond.fieldLink RX3 103 "SealedPagesModel" "row" "[I", Cond.methodLink RX3 125 yX3_levelsOf, Cond.instanceMethod yX3_levelsOf, Cond.selects RX3 yX3_levelsOf yX3_levelsOf, Cond.code yX3_levelsOf cX3_levelsOf 2 (some .int), Cond.methodLink RX3 155 yX3_nodesOf, Cond.instanceMethod yX3_nodesOf, Cond.selects RX3 yX3_nodesOf yX3_nodesOf, Cond.code yX3_nodesOf cX3_nodesOf 4 (some .int), Cond.methodLink RX3 129 yX3_placeOf, Cond.instanceMethod yX3_placeOf, Cond.selects RX3 yX3_placeOf yX3_placeOf, Cond.code yX3_placeOf cX3_placeOf 5 (some .int), Cond.methodLink RX3 159 yX3_hashRow, Cond.instanceMethod yX3_hashRow, Cond.selects RX3 yX3_hashRow yX3_hashRow, Cond.code yX3_hashRow cX3_hashRow 3 none, Cond.fieldLink RX3 112 "SealedPagesModel" "state" "[I", Cond.fieldLink RX3 85 "SealedPagesModel" "h0" "[I"]
def wsX3_read_r3 : List Cond := [Cond.methodLink RX3 146 yX3_mix, Cond.instanceMethod yX3_mix, Cond.selects RX3 yX3_mix yX3_mix, Cond.code yX3_mix cX3_mix 7 none, Cond.fieldLink RX3 109 "SealedPagesModel" "words" "[I", Cond.fieldLink RX3 115 "SealedPagesModel" "work" "[I", Cond.methodLink RX3 149 yX3_turned, Cond.static yX3_turned, Cond.code yX3_turned cX3_turned 2 (some .int), Cond.methodLink RX3 152 yX3_round, Cond.instanceMethod yX3_round, Cond.selects RX3 yX3_round yX3_round, Cond.code yX3_round cX3_round 9 none, Cond.fieldLink RX3 71 "SealedPagesModel" "k0" "[I", Cond.methodLink RX3 172 yX3_nodeOn, Cond.instanceMethod yX3_nodeOn, Cond.selects RX3 yX3_nodeOn yX3_nodeOn, Cond.code yX3_nodeOn cX3_nodeOn 5 (some .int), Cond.methodLink RX3 175 yX3_isNode, Cond.instanceMethod yX3_isNode, Cond.selects RX3 yX3_isNode yX3_isNode, Cond.code yX3_isNode cX3_isNode 6 (some .boolean), Cond.methodLink RX3 162 yX3_hashNode, Cond.instanceMethod yX3_hashNode]
def wsX3_read_r4 : List Cond := [Cond.selects RX3 yX3_hashNode yX3_hashNode, Cond.code yX3_hashNode cX3_hashNode 6 none]
def wsX3_read : List Cond := .code yX3_read cX3_read 4 (some .int) :: ((wsX3_read_r1 ++ (wsX3_read_r2 ++ (wsX3_read_r3 ++ wsX3_read_r4))) ++ wsX30)
def wsX3_write_r1 : List Cond := [Cond.fieldLink RX3 186 "SealedPagesModel" "faults" "I", Cond.fieldLink RX3 88 "SealedPagesModel" "disk" "[I", Cond.fieldLink RX3 94 "SealedPagesModel" "draft" "[I", Cond.fieldLink RX3 198 "SealedPagesModel" "writes" "I", Cond.methodLink RX3 179 yX3_isPage, Cond.instanceMethod yX3_isPage, Cond.selects RX3 yX3_isPage yX3_isPage, Cond.initialized RX3, Cond.code yX3_isPage cX3_isPage 2 (some .boolean), Cond.fieldLink RX3 121 "SealedPagesModel" "pages" "I", Cond.methodLink RX3 183 yX3_faultOf, Cond.instanceMethod yX3_faultOf, Cond.selects RX3 yX3_faultOf yX3_faultOf, Cond.code yX3_faultOf cX3_faultOf 3 (some .int), Cond.fieldLink RX3 91 "SealedPagesModel" "root" "[I", Cond.fieldLink RX3 106 "SealedPagesModel" "out" "[I", Cond.methodLink RX3 169 yX3_headOf, Cond.instanceMethod yX3_headOf, Cond.selects RX3 yX3_headOf yX3_headOf, Cond.code yX3_headOf cX3_headOf 2 (some .int), Cond.methodLink RX3 166 yX3_hashRoot, Cond.instanceMethod yX3_hashRoot, Cond.selects RX3 yX3_hashRoot yX3_hashRoot, Cond.code yX3_hashRoot cX3_hashRoot 3 none]
def wsX3_write_r2 : List Cond := [Cond.fieldLink RX3 139 "SealedPagesModel" "length" "I", Cond.methodLink RX3 142 yX3_add, Cond.instanceMethod yX3_add, Cond.selects RX3 yX3_add yX3_add, Cond.code yX3_add cX3_add 2 none, Cond.fieldLink RX3 103 "SealedPagesModel" "row" "[I", Cond.methodLink RX3 125 yX3_levelsOf, Cond.instanceMethod yX3_levelsOf, Cond.selects RX3 yX3_levelsOf yX3_levelsOf, Cond.code yX3_levelsOf cX3_levelsOf 2 (some .int), Cond.methodLink RX3 155 yX3_nodesOf, Cond.instanceMethod yX3_nodesOf, Cond.selects RX3 yX3_nodesOf yX3_nodesOf, Cond.code yX3_nodesOf cX3_nodesOf 4 (some .int), Cond.methodLink RX3 129 yX3_placeOf, Cond.instanceMethod yX3_placeOf, Cond.selects RX3 yX3_placeOf yX3_placeOf, Cond.code yX3_placeOf cX3_placeOf 5 (some .int), Cond.methodLink RX3 159 yX3_hashRow, Cond.instanceMethod yX3_hashRow, Cond.selects RX3 yX3_hashRow yX3_hashRow, Cond.code yX3_hashRow cX3_hashRow 3 none, Cond.fieldLink RX3 112 "SealedPagesModel" "state" "[I", Cond.fieldLink RX3 85 "SealedPagesModel" "h0" "[I"]
def wsX3_write_r3 : List Cond := [Cond.methodLink RX3 146 yX3_mix, Cond.instanceMethod yX3_mix, Cond.selects RX3 yX3_mix yX3_mix, Cond.code yX3_mix cX3_mix 7 none, Cond.fieldLink RX3 109 "SealedPagesModel" "words" "[I", Cond.fieldLink RX3 115 "SealedPagesModel" "work" "[I", Cond.methodLink RX3 149 yX3_turned, Cond.static yX3_turned, Cond.code yX3_turned cX3_turned 2 (some .int), Cond.methodLink RX3 152 yX3_round, Cond.instanceMethod yX3_round, Cond.selects RX3 yX3_round yX3_round, Cond.code yX3_round cX3_round 9 none, Cond.fieldLink RX3 71 "SealedPagesModel" "k0" "[I", Cond.methodLink RX3 172 yX3_nodeOn, Cond.instanceMethod yX3_nodeOn, Cond.selects RX3 yX3_nodeOn yX3_nodeOn, Cond.code yX3_nodeOn cX3_nodeOn 5 (some .int), Cond.methodLink RX3 175 yX3_isNode, Cond.instanceMethod yX3_isNode, Cond.selects RX3 yX3_isNode yX3_isNode, Cond.code yX3_isNode cX3_isNode 6 (some .boolean), Cond.methodLink RX3 162 yX3_hashNode, Cond.instanceMethod yX3_hashNode]
def wsX3_write_r4 : List Cond := [Cond.selects RX3 yX3_hashNode yX3_hashNode, Cond.code yX3_hashNode cX3_hashNode 6 none, Cond.methodLink RX3 192 yX3_putNode, Cond.instanceMethod yX3_putNode, Cond.selects RX3 yX3_putNode yX3_putNode, Cond.code yX3_putNode cX3_putNode 5 none, Cond.methodLink RX3 195 yX3_putRoot, Cond.instanceMethod yX3_putRoot, Cond.selects RX3 yX3_putRoot yX3_putRoot, Cond.code yX3_putRoot cX3_putRoot 2 none]
def wsX3_write : List Cond := .code yX3_write cX3_write 5 (some .int) :: ((wsX3_write_r1 ++ (wsX3_write_r2 ++ (wsX3_write_r3 ++ wsX3_write_r4))) ++ wsX30)
def wsX3_size : List Cond := .code yX3_size cX3_size 1 (some .int) :: ([.fieldLink RX3 133 "SealedPagesModel" "size" "I"] ++ wsX30)
def wsX3_isByte : List Cond := .code yX3_isByte cX3_isByte 2 (some .boolean) :: ([.fieldLink RX3 133 "SealedPagesModel" "size" "I"] ++ wsX30)
def wsX3_disk : List Cond := .code yX3_disk cX3_disk 2 (some .int) :: ([.fieldLink RX3 88 "SealedPagesModel" "disk" "[I", .methodLink RX3 201 yX3_isByte, .instanceMethod yX3_isByte, .selects RX3 yX3_isByte yX3_isByte, .initialized RX3, .code yX3_isByte cX3_isByte 2 (some .boolean), .fieldLink RX3 133 "SealedPagesModel" "size" "I"] ++ wsX30)
def wsX3_alter : List Cond := .code yX3_alter cX3_alter 4 (some .int) :: ([.fieldLink RX3 88 "SealedPagesModel" "disk" "[I", .methodLink RX3 201 yX3_isByte, .instanceMethod yX3_isByte, .selects RX3 yX3_isByte yX3_isByte, .initialized RX3, .code yX3_isByte cX3_isByte 2 (some .boolean), .fieldLink RX3 133 "SealedPagesModel" "size" "I"] ++ wsX30)
def wsX3_carry : List Cond := .code yX3_carry cX3_carry 5 (some .int) :: ([.fieldLink RX3 133 "SealedPagesModel" "size" "I", .fieldLink RX3 118 "SealedPagesModel" "carried" "[I", .fieldLink RX3 88 "SealedPagesModel" "disk" "[I"] ++ wsX30)
def wsX3_root : List Cond := .code yX3_root cX3_root 2 (some .int) :: ([.fieldLink RX3 91 "SealedPagesModel" "root" "[I"] ++ wsX30)
def wsX3_fault_r1 : List Cond := [Cond.methodLink RX3 179 yX3_isPage, Cond.instanceMethod yX3_isPage, Cond.selects RX3 yX3_isPage yX3_isPage, Cond.initialized RX3, Cond.code yX3_isPage cX3_isPage 2 (some .boolean), Cond.fieldLink RX3 121 "SealedPagesModel" "pages" "I", Cond.methodLink RX3 183 yX3_faultOf, Cond.instanceMethod yX3_faultOf, Cond.selects RX3 yX3_faultOf yX3_faultOf, Cond.code yX3_faultOf cX3_faultOf 3 (some .int), Cond.fieldLink RX3 88 "SealedPagesModel" "disk" "[I", Cond.fieldLink RX3 91 "SealedPagesModel" "root" "[I", Cond.fieldLink RX3 106 "SealedPagesModel" "out" "[I", Cond.methodLink RX3 169 yX3_headOf, Cond.instanceMethod yX3_headOf, Cond.selects RX3 yX3_headOf yX3_headOf, Cond.code yX3_headOf cX3_headOf 2 (some .int), Cond.methodLink RX3 166 yX3_hashRoot, Cond.instanceMethod yX3_hashRoot, Cond.selects RX3 yX3_hashRoot yX3_hashRoot, Cond.code yX3_hashRoot cX3_hashRoot 3 none, Cond.fieldLink RX3 139 "SealedPagesModel" "length" "I", Cond.methodLink RX3 142 yX3_add, Cond.instanceMethod yX3_add]
def wsX3_fault_r2 : List Cond := [Cond.selects RX3 yX3_add yX3_add, Cond.code yX3_add cX3_add 2 none, Cond.fieldLink RX3 103 "SealedPagesModel" "row" "[I", Cond.methodLink RX3 125 yX3_levelsOf, Cond.instanceMethod yX3_levelsOf, Cond.selects RX3 yX3_levelsOf yX3_levelsOf, Cond.code yX3_levelsOf cX3_levelsOf 2 (some .int), Cond.methodLink RX3 155 yX3_nodesOf, Cond.instanceMethod yX3_nodesOf, Cond.selects RX3 yX3_nodesOf yX3_nodesOf, Cond.code yX3_nodesOf cX3_nodesOf 4 (some .int), Cond.methodLink RX3 129 yX3_placeOf, Cond.instanceMethod yX3_placeOf, Cond.selects RX3 yX3_placeOf yX3_placeOf, Cond.code yX3_placeOf cX3_placeOf 5 (some .int), Cond.methodLink RX3 159 yX3_hashRow, Cond.instanceMethod yX3_hashRow, Cond.selects RX3 yX3_hashRow yX3_hashRow, Cond.code yX3_hashRow cX3_hashRow 3 none, Cond.fieldLink RX3 112 "SealedPagesModel" "state" "[I", Cond.fieldLink RX3 85 "SealedPagesModel" "h0" "[I", Cond.methodLink RX3 146 yX3_mix, Cond.instanceMethod yX3_mix, Cond.selects RX3 yX3_mix yX3_mix]
def wsX3_fault_r3 : List Cond := [Cond.code yX3_mix cX3_mix 7 none, Cond.fieldLink RX3 109 "SealedPagesModel" "words" "[I", Cond.fieldLink RX3 115 "SealedPagesModel" "work" "[I", Cond.methodLink RX3 149 yX3_turned, Cond.static yX3_turned, Cond.code yX3_turned cX3_turned 2 (some .int), Cond.methodLink RX3 152 yX3_round, Cond.instanceMethod yX3_round, Cond.selects RX3 yX3_round yX3_round, Cond.code yX3_round cX3_round 9 none, Cond.fieldLink RX3 71 "SealedPagesModel" "k0" "[I", Cond.methodLink RX3 172 yX3_nodeOn, Cond.instanceMethod yX3_nodeOn, Cond.selects RX3 yX3_nodeOn yX3_nodeOn, Cond.code yX3_nodeOn cX3_nodeOn 5 (some .int), Cond.methodLink RX3 175 yX3_isNode, Cond.instanceMethod yX3_isNode, Cond.selects RX3 yX3_isNode yX3_isNode, Cond.code yX3_isNode cX3_isNode 6 (some .boolean), Cond.methodLink RX3 162 yX3_hashNode, Cond.instanceMethod yX3_hashNode, Cond.selects RX3 yX3_hashNode yX3_hashNode, Cond.code yX3_hashNode cX3_hashNode 6 none]
def wsX3_fault : List Cond := .code yX3_fault cX3_fault 2 (some .int) :: ((wsX3_fault_r1 ++ (wsX3_fault_r2 ++ wsX3_fault_r3)) ++ wsX30)
def wsX3_held_r1 : List Cond := [Cond.fieldLink RX3 121 "SealedPagesModel" "pages" "I", Cond.methodLink RX3 183 yX3_faultOf, Cond.instanceMethod yX3_faultOf, Cond.selects RX3 yX3_faultOf yX3_faultOf, Cond.initialized RX3, Cond.code yX3_faultOf cX3_faultOf 3 (some .int), Cond.fieldLink RX3 88 "SealedPagesModel" "disk" "[I", Cond.fieldLink RX3 91 "SealedPagesModel" "root" "[I", Cond.fieldLink RX3 106 "SealedPagesModel" "out" "[I", Cond.methodLink RX3 169 yX3_headOf, Cond.instanceMethod yX3_headOf, Cond.selects RX3 yX3_headOf yX3_headOf, Cond.code yX3_headOf cX3_headOf 2 (some .int), Cond.methodLink RX3 166 yX3_hashRoot, Cond.instanceMethod yX3_hashRoot, Cond.selects RX3 yX3_hashRoot yX3_hashRoot, Cond.code yX3_hashRoot cX3_hashRoot 3 none, Cond.fieldLink RX3 139 "SealedPagesModel" "length" "I", Cond.methodLink RX3 142 yX3_add, Cond.instanceMethod yX3_add, Cond.selects RX3 yX3_add yX3_add, Cond.code yX3_add cX3_add 2 none, Cond.fieldLink RX3 103 "SealedPagesModel" "row" "[I", Cond.methodLink RX3 125 yX3_levelsOf]
def wsX3_held_r2 : List Cond := [Cond.instanceMethod yX3_levelsOf, Cond.selects RX3 yX3_levelsOf yX3_levelsOf, Cond.code yX3_levelsOf cX3_levelsOf 2 (some .int), Cond.methodLink RX3 155 yX3_nodesOf, Cond.instanceMethod yX3_nodesOf, Cond.selects RX3 yX3_nodesOf yX3_nodesOf, Cond.code yX3_nodesOf cX3_nodesOf 4 (some .int), Cond.methodLink RX3 129 yX3_placeOf, Cond.instanceMethod yX3_placeOf, Cond.selects RX3 yX3_placeOf yX3_placeOf, Cond.code yX3_placeOf cX3_placeOf 5 (some .int), Cond.methodLink RX3 159 yX3_hashRow, Cond.instanceMethod yX3_hashRow, Cond.selects RX3 yX3_hashRow yX3_hashRow, Cond.code yX3_hashRow cX3_hashRow 3 none, Cond.fieldLink RX3 112 "SealedPagesModel" "state" "[I", Cond.fieldLink RX3 85 "SealedPagesModel" "h0" "[I", Cond.methodLink RX3 146 yX3_mix, Cond.instanceMethod yX3_mix, Cond.selects RX3 yX3_mix yX3_mix, Cond.code yX3_mix cX3_mix 7 none, Cond.fieldLink RX3 109 "SealedPagesModel" "words" "[I", Cond.fieldLink RX3 115 "SealedPagesModel" "work" "[I", Cond.methodLink RX3 149 yX3_turned]
def wsX3_held_r3 : List Cond := [Cond.static yX3_turned, Cond.code yX3_turned cX3_turned 2 (some .int), Cond.methodLink RX3 152 yX3_round, Cond.instanceMethod yX3_round, Cond.selects RX3 yX3_round yX3_round, Cond.code yX3_round cX3_round 9 none, Cond.fieldLink RX3 71 "SealedPagesModel" "k0" "[I", Cond.methodLink RX3 172 yX3_nodeOn, Cond.instanceMethod yX3_nodeOn, Cond.selects RX3 yX3_nodeOn yX3_nodeOn, Cond.code yX3_nodeOn cX3_nodeOn 5 (some .int), Cond.methodLink RX3 175 yX3_isNode, Cond.instanceMethod yX3_isNode, Cond.selects RX3 yX3_isNode yX3_isNode, Cond.code yX3_isNode cX3_isNode 6 (some .boolean), Cond.methodLink RX3 162 yX3_hashNode, Cond.instanceMethod yX3_hashNode, Cond.selects RX3 yX3_hashNode yX3_hashNode, Cond.code yX3_hashNode cX3_hashNode 6 none]
def wsX3_held : List Cond := .code yX3_held cX3_held 3 (some .int) :: ((wsX3_held_r1 ++ (wsX3_held_r2 ++ wsX3_held_r3)) ++ wsX30)
def wsX3_first_r1 : List Cond := [Cond.fieldLink RX3 121 "SealedPagesModel" "pages" "I", Cond.methodLink RX3 183 yX3_faultOf, Cond.instanceMethod yX3_faultOf, Cond.selects RX3 yX3_faultOf yX3_faultOf, Cond.initialized RX3, Cond.code yX3_faultOf cX3_faultOf 3 (some .int), Cond.fieldLink RX3 88 "SealedPagesModel" "disk" "[I", Cond.fieldLink RX3 91 "SealedPagesModel" "root" "[I", Cond.fieldLink RX3 106 "SealedPagesModel" "out" "[I", Cond.methodLink RX3 169 yX3_headOf, Cond.instanceMethod yX3_headOf, Cond.selects RX3 yX3_headOf yX3_headOf, Cond.code yX3_headOf cX3_headOf 2 (some .int), Cond.methodLink RX3 166 yX3_hashRoot, Cond.instanceMethod yX3_hashRoot, Cond.selects RX3 yX3_hashRoot yX3_hashRoot, Cond.code yX3_hashRoot cX3_hashRoot 3 none, Cond.fieldLink RX3 139 "SealedPagesModel" "length" "I", Cond.methodLink RX3 142 yX3_add, Cond.instanceMethod yX3_add, Cond.selects RX3 yX3_add yX3_add, Cond.code yX3_add cX3_add 2 none, Cond.fieldLink RX3 103 "SealedPagesModel" "row" "[I", Cond.methodLink RX3 125 yX3_levelsOf]
def wsX3_first_r2 : List Cond := [Cond.instanceMethod yX3_levelsOf, Cond.selects RX3 yX3_levelsOf yX3_levelsOf, Cond.code yX3_levelsOf cX3_levelsOf 2 (some .int), Cond.methodLink RX3 155 yX3_nodesOf, Cond.instanceMethod yX3_nodesOf, Cond.selects RX3 yX3_nodesOf yX3_nodesOf, Cond.code yX3_nodesOf cX3_nodesOf 4 (some .int), Cond.methodLink RX3 129 yX3_placeOf, Cond.instanceMethod yX3_placeOf, Cond.selects RX3 yX3_placeOf yX3_placeOf, Cond.code yX3_placeOf cX3_placeOf 5 (some .int), Cond.methodLink RX3 159 yX3_hashRow, Cond.instanceMethod yX3_hashRow, Cond.selects RX3 yX3_hashRow yX3_hashRow, Cond.code yX3_hashRow cX3_hashRow 3 none, Cond.fieldLink RX3 112 "SealedPagesModel" "state" "[I", Cond.fieldLink RX3 85 "SealedPagesModel" "h0" "[I", Cond.methodLink RX3 146 yX3_mix, Cond.instanceMethod yX3_mix, Cond.selects RX3 yX3_mix yX3_mix, Cond.code yX3_mix cX3_mix 7 none, Cond.fieldLink RX3 109 "SealedPagesModel" "words" "[I", Cond.fieldLink RX3 115 "SealedPagesModel" "work" "[I", Cond.methodLink RX3 149 yX3_turned]
def wsX3_first_r3 : List Cond := [Cond.static yX3_turned, Cond.code yX3_turned cX3_turned 2 (some .int), Cond.methodLink RX3 152 yX3_round, Cond.instanceMethod yX3_round, Cond.selects RX3 yX3_round yX3_round, Cond.code yX3_round cX3_round 9 none, Cond.fieldLink RX3 71 "SealedPagesModel" "k0" "[I", Cond.methodLink RX3 172 yX3_nodeOn, Cond.instanceMethod yX3_nodeOn, Cond.selects RX3 yX3_nodeOn yX3_nodeOn, Cond.code yX3_nodeOn cX3_nodeOn 5 (some .int), Cond.methodLink RX3 175 yX3_isNode, Cond.instanceMethod yX3_isNode, Cond.selects RX3 yX3_isNode yX3_isNode, Cond.code yX3_isNode cX3_isNode 6 (some .boolean), Cond.methodLink RX3 162 yX3_hashNode, Cond.instanceMethod yX3_hashNode, Cond.selects RX3 yX3_hashNode yX3_hashNode, Cond.code yX3_hashNode cX3_hashNode 6 none]
def wsX3_first : List Cond := .code yX3_first cX3_first 2 (some .int) :: ((wsX3_first_r1 ++ (wsX3_first_r2 ++ wsX3_first_r3)) ++ wsX30)
def wsX3_levels : List Cond := .code yX3_levels cX3_levels 1 (some .int) :: ([.methodLink RX3 125 yX3_levelsOf, .instanceMethod yX3_levelsOf, .selects RX3 yX3_levelsOf yX3_levelsOf, .initialized RX3, .code yX3_levelsOf cX3_levelsOf 2 (some .int), .methodLink RX3 155 yX3_nodesOf, .instanceMethod yX3_nodesOf, .selects RX3 yX3_nodesOf yX3_nodesOf, .code yX3_nodesOf cX3_nodesOf 4 (some .int), .fieldLink RX3 121 "SealedPagesModel" "pages" "I"] ++ wsX30)
def wsX3_node : List Cond := .code yX3_node cX3_node 3 (some .int) :: ([.methodLink RX3 125 yX3_levelsOf, .instanceMethod yX3_levelsOf, .selects RX3 yX3_levelsOf yX3_levelsOf, .initialized RX3, .code yX3_levelsOf cX3_levelsOf 2 (some .int), .methodLink RX3 155 yX3_nodesOf, .instanceMethod yX3_nodesOf, .selects RX3 yX3_nodesOf yX3_nodesOf, .code yX3_nodesOf cX3_nodesOf 4 (some .int), .fieldLink RX3 121 "SealedPagesModel" "pages" "I", .methodLink RX3 129 yX3_placeOf, .instanceMethod yX3_placeOf, .selects RX3 yX3_placeOf yX3_placeOf, .code yX3_placeOf cX3_placeOf 5 (some .int)] ++ wsX30)
def wsX3_besideOf : List Cond := .code yX3_besideOf cX3_besideOf 5 (some .int) :: ([.methodLink RX3 172 yX3_nodeOn, .instanceMethod yX3_nodeOn, .selects RX3 yX3_nodeOn yX3_nodeOn, .initialized RX3, .code yX3_nodeOn cX3_nodeOn 5 (some .int), .methodLink RX3 155 yX3_nodesOf, .instanceMethod yX3_nodesOf, .selects RX3 yX3_nodesOf yX3_nodesOf, .code yX3_nodesOf cX3_nodesOf 4 (some .int), .fieldLink RX3 121 "SealedPagesModel" "pages" "I"] ++ wsX30)
def wsX3_proof : List Cond := .code yX3_proof cX3_proof 5 (some .int) :: ([.methodLink RX3 179 yX3_isPage, .instanceMethod yX3_isPage, .selects RX3 yX3_isPage yX3_isPage, .initialized RX3, .code yX3_isPage cX3_isPage 2 (some .boolean), .fieldLink RX3 121 "SealedPagesModel" "pages" "I", .methodLink RX3 125 yX3_levelsOf, .instanceMethod yX3_levelsOf, .selects RX3 yX3_levelsOf yX3_levelsOf, .code yX3_levelsOf cX3_levelsOf 2 (some .int), .methodLink RX3 155 yX3_nodesOf, .instanceMethod yX3_nodesOf, .selects RX3 yX3_nodesOf yX3_nodesOf, .code yX3_nodesOf cX3_nodesOf 4 (some .int), .methodLink RX3 204 yX3_besideOf, .instanceMethod yX3_besideOf, .selects RX3 yX3_besideOf yX3_besideOf, .code yX3_besideOf cX3_besideOf 5 (some .int), .methodLink RX3 172 yX3_nodeOn, .instanceMethod yX3_nodeOn, .selects RX3 yX3_nodeOn yX3_nodeOn, .code yX3_nodeOn cX3_nodeOn 5 (some .int)] ++ wsX30)
def wsX3_beside_r1 : List Cond := [Cond.fieldLink RX3 88 "SealedPagesModel" "disk" "[I", Cond.methodLink RX3 179 yX3_isPage, Cond.instanceMethod yX3_isPage, Cond.selects RX3 yX3_isPage yX3_isPage, Cond.initialized RX3, Cond.code yX3_isPage cX3_isPage 2 (some .boolean), Cond.fieldLink RX3 121 "SealedPagesModel" "pages" "I", Cond.methodLink RX3 125 yX3_levelsOf, Cond.instanceMethod yX3_levelsOf, Cond.selects RX3 yX3_levelsOf yX3_levelsOf, Cond.code yX3_levelsOf cX3_levelsOf 2 (some .int), Cond.methodLink RX3 155 yX3_nodesOf, Cond.instanceMethod yX3_nodesOf, Cond.selects RX3 yX3_nodesOf yX3_nodesOf, Cond.code yX3_nodesOf cX3_nodesOf 4 (some .int), Cond.methodLink RX3 204 yX3_besideOf, Cond.instanceMethod yX3_besideOf, Cond.selects RX3 yX3_besideOf yX3_besideOf, Cond.code yX3_besideOf cX3_besideOf 5 (some .int), Cond.methodLink RX3 172 yX3_nodeOn, Cond.instanceMethod yX3_nodeOn, Cond.selects RX3 yX3_nodeOn yX3_nodeOn, Cond.code yX3_nodeOn cX3_nodeOn 5 (some .int), Cond.methodLink RX3 129 yX3_placeOf]
def wsX3_beside_r2 : List Cond := [Cond.instanceMethod yX3_placeOf, Cond.selects RX3 yX3_placeOf yX3_placeOf, Cond.code yX3_placeOf cX3_placeOf 5 (some .int)]
def wsX3_beside : List Cond := .code yX3_beside cX3_beside 8 (some .int) :: ((wsX3_beside_r1 ++ wsX3_beside_r2) ++ wsX30)
def wsX3_keep : List Cond := .code yX3_keep cX3_keep 2 (some .int) :: ([.fieldLink RX3 133 "SealedPagesModel" "size" "I", .fieldLink RX3 97 "SealedPagesModel" "keptDisk" "[I", .fieldLink RX3 88 "SealedPagesModel" "disk" "[I", .fieldLink RX3 100 "SealedPagesModel" "keptRoot" "[I", .fieldLink RX3 91 "SealedPagesModel" "root" "[I", .fieldLink RX3 207 "SealedPagesModel" "isKept" "Z"] ++ wsX30)
def wsX3_back : List Cond := .code yX3_back cX3_back 3 (some .int) :: ([.fieldLink RX3 207 "SealedPagesModel" "isKept" "Z", .fieldLink RX3 133 "SealedPagesModel" "size" "I", .fieldLink RX3 88 "SealedPagesModel" "disk" "[I", .fieldLink RX3 97 "SealedPagesModel" "keptDisk" "[I"] ++ wsX30)
def wsX3_open : List Cond := .code yX3_open cX3_open 3 (some .int) :: ([.fieldLink RX3 91 "SealedPagesModel" "root" "[I", .fieldLink RX3 100 "SealedPagesModel" "keptRoot" "[I", .methodLink RX3 211 yX3_back, .instanceMethod yX3_back, .selects RX3 yX3_back yX3_back, .initialized RX3, .code yX3_back cX3_back 3 (some .int), .fieldLink RX3 207 "SealedPagesModel" "isKept" "Z", .fieldLink RX3 133 "SealedPagesModel" "size" "I", .fieldLink RX3 88 "SealedPagesModel" "disk" "[I", .fieldLink RX3 97 "SealedPagesModel" "keptDisk" "[I"] ++ wsX30)
def wsX3_hash_r1 : List Cond := [Cond.fieldLink RX3 139 "SealedPagesModel" "length" "I", Cond.fieldLink RX3 94 "SealedPagesModel" "draft" "[I", Cond.fieldLink RX3 106 "SealedPagesModel" "out" "[I", Cond.methodLink RX3 142 yX3_add, Cond.instanceMethod yX3_add, Cond.selects RX3 yX3_add yX3_add, Cond.initialized RX3, Cond.code yX3_add cX3_add 2 none, Cond.fieldLink RX3 103 "SealedPagesModel" "row" "[I", Cond.methodLink RX3 159 yX3_hashRow, Cond.instanceMethod yX3_hashRow, Cond.selects RX3 yX3_hashRow yX3_hashRow, Cond.code yX3_hashRow cX3_hashRow 3 none, Cond.fieldLink RX3 112 "SealedPagesModel" "state" "[I", Cond.fieldLink RX3 85 "SealedPagesModel" "h0" "[I", Cond.methodLink RX3 146 yX3_mix, Cond.instanceMethod yX3_mix, Cond.selects RX3 yX3_mix yX3_mix, Cond.code yX3_mix cX3_mix 7 none, Cond.fieldLink RX3 109 "SealedPagesModel" "words" "[I", Cond.fieldLink RX3 115 "SealedPagesModel" "work" "[I", Cond.methodLink RX3 149 yX3_turned, Cond.static yX3_turned, Cond.code yX3_turned cX3_turned 2 (some .int)]
def wsX3_hash_r2 : List Cond := [Cond.methodLink RX3 152 yX3_round, Cond.instanceMethod yX3_round, Cond.selects RX3 yX3_round yX3_round, Cond.code yX3_round cX3_round 9 none, Cond.fieldLink RX3 71 "SealedPagesModel" "k0" "[I"]
def wsX3_hash : List Cond := .code yX3_hash cX3_hash 4 (some .int) :: ((wsX3_hash_r1 ++ wsX3_hash_r2) ++ wsX30)
def wsX3_told : List Cond := .code yX3_told cX3_told 2 (some .int) :: ([.fieldLink RX3 121 "SealedPagesModel" "pages" "I", .fieldLink RX3 189 "SealedPagesModel" "reads" "I", .fieldLink RX3 198 "SealedPagesModel" "writes" "I", .fieldLink RX3 186 "SealedPagesModel" "faults" "I"] ++ wsX30)
def wsJ9_max_7cf53 : List Cond := .code yJ9_max_7cf53 cJ9_max_7cf53 2 (some .int) :: ([])
def wsJ9_min_7cf53 : List Cond := .code yJ9_min_7cf53 cJ9_min_7cf53 2 (some .int) :: ([])
def wsL_cell : List Cond := .code yL_cell cL_cell 2 (some .int) :: ([])
def wsL_law_r1 : List Cond := [Cond.classLink RL 7 RX2, Cond.instantiable RX2 12, Cond.initialized RX2, Cond.classLink RL 18 RX3, Cond.instantiable RX3 20, Cond.initialized RX3, Cond.constantLong RL 26 (4294967295), Cond.methodLink RL 9 yL_cell, Cond.static yL_cell, Cond.initialized RL, Cond.code yL_cell cL_cell 2 (some .int), Cond.methodLink RL 15 yX2_init, Cond.instanceMethod yX2_init, Cond.code yX2_init cX2_init 2 none, Cond.methodLink RX2 1 objectInit, Cond.instanceMethod objectInit, Cond.code objectInit ⟨#[0xb1]⟩ 1 none, Cond.classLink RX2 7 RX1, Cond.instantiable RX1 6, Cond.initialized RX1, Cond.methodLink RX2 11 Lib.Math.min.name, Cond.static Lib.Math.min.name, Cond.initialized "java/lang/Math", Cond.code Lib.Math.min.name Lib.Math.min.code 2 (some .int)]
def wsL_law_r2 : List Cond := [Cond.methodLink RX2 17 Lib.Math.max.name, Cond.static Lib.Math.max.name, Cond.code Lib.Math.max.name Lib.Math.max.code 2 (some .int), Cond.fieldLink RX2 23 "SealedPages" "layout" "LSealedPages$Layout;", Cond.classLink RX2 27 RX0, Cond.instantiable RX0 3, Cond.initialized RX0, Cond.fieldLink RX2 30 "SealedPages" "hasher" "LSealedPages$Hasher;", Cond.fieldLink RX2 34 "SealedPages$Layout" "byteCount" "I", Cond.arrayClass .int, Cond.fieldLink RX2 38 "SealedPages" "diskBytes" "[I", Cond.fieldLink RX2 42 "SealedPages" "rootBytes" "[I", Cond.fieldLink RX2 45 "SealedPages" "draftBytes" "[I", Cond.fieldLink RX2 48 "SealedPages" "keptDisk" "[I", Cond.fieldLink RX2 51 "SealedPages" "keptRoot" "[I", Cond.fieldLink RX2 54 "SealedPages$Layout" "nodeCount" "I", Cond.fieldLink RX2 57 "SealedPages" "faultsDownTo" "[I", Cond.methodLink RX2 20 yX1_init, Cond.instanceMethod yX1_init, Cond.code yX1_init cX1_init 6 none, Cond.methodLink RX1 3 objectInit, Cond.fieldLink RX1 9 "SealedPages$Layout" "pageCount" "I", Cond.fieldLink RX1 15 "SealedPages$Layout" "widths" "[I", Cond.fieldLink RX1 19 "SealedPages$Layout" "nodesAhead" "[I"]
def wsL_law_r3 : List Cond := [Cond.fieldLink RX1 22 "SealedPages$Layout" "levelCount" "I", Cond.fieldLink RX1 25 "SealedPages$Layout" "nodeCount" "I", Cond.fieldLink RX1 28 "SealedPages$Layout" "byteCount" "I", Cond.instanceMethod yX0_init, Cond.code yX0_init cX0_init 1 none, Cond.methodLink RX0 3 objectInit, Cond.fieldLink RX0 9 "SealedPages$Hasher" "sums" "[I", Cond.fieldLink RX0 15 "SealedPages$Hasher" "words" "[I", Cond.methodLink RX2 60 yX2_sealAll, Cond.instanceMethod yX2_sealAll, Cond.selects RX2 yX2_sealAll yX2_sealAll, Cond.code yX2_sealAll cX2_sealAll 3 none, Cond.fieldLink RX2 100 "SealedPages$Layout" "levelCount" "I", Cond.fieldLink RX2 161 "SealedPages$Layout" "widths" "[I", Cond.methodLink RX2 147 yX2_headByteAsTold, Cond.instanceMethod yX2_headByteAsTold, Cond.selects RX2 yX2_headByteAsTold yX2_headByteAsTold, Cond.code yX2_headByteAsTold cX2_headByteAsTold 2 (some .int), Cond.fieldLink RX2 109 "SealedPages$Layout" "pageCount" "I", Cond.methodLink RX2 168 yX2_sealNode, Cond.instanceMethod yX2_sealNode, Cond.selects RX2 yX2_sealNode yX2_sealNode, Cond.code yX2_sealNode cX2_sealNode 3 none, Cond.methodLink RX2 157 yX2_hashNode]
def wsL_law_r4 : List Cond := [Cond.instanceMethod yX2_hashNode, Cond.selects RX2 yX2_hashNode yX2_hashNode, Cond.code yX2_hashNode cX2_hashNode 4 none, Cond.methodLink RX2 131 yX0_begin, Cond.instanceMethod yX0_begin, Cond.selects RX0 yX0_begin yX0_begin, Cond.code yX0_begin cX0_begin 1 none, Cond.fieldLink RX0 18 "SealedPages$Hasher" "FIRST_SUMS" "[I", Cond.methodLink RX0 21 arraycopyName, Cond.native arraycopyName, Cond.static arraycopyName, Cond.initialized "java/lang/System", Cond.fieldLink RX0 27 "SealedPages$Hasher" "length" "I", Cond.methodLink RX2 144 yX0_addByte, Cond.instanceMethod yX0_addByte, Cond.selects RX0 yX0_addByte yX0_addByte, Cond.code yX0_addByte cX0_addByte 3 none, Cond.methodLink RX0 31 yX0_spreadWords, Cond.instanceMethod yX0_spreadWords, Cond.selects RX0 yX0_spreadWords yX0_spreadWords, Cond.code yX0_spreadWords cX0_spreadWords 6 none, Cond.methodLink RX0 34 yX0_mixBlock, Cond.instanceMethod yX0_mixBlock, Cond.selects RX0 yX0_mixBlock yX0_mixBlock]
def wsL_law_r5 : List Cond := [Cond.code yX0_mixBlock cX0_mixBlock 14 none, Cond.fieldLink RX0 47 "SealedPages$Hasher" "CONSTANTS" "[I", Cond.methodLink RX2 71 yX1_placeOfPage, Cond.instanceMethod yX1_placeOfPage, Cond.selects RX1 yX1_placeOfPage yX1_placeOfPage, Cond.code yX1_placeOfPage cX1_placeOfPage 2 (some .int), Cond.methodLink RX2 134 yX0_addRow, Cond.instanceMethod yX0_addRow, Cond.selects RX0 yX0_addRow yX0_addRow, Cond.code yX0_addRow cX0_addRow 5 none, Cond.methodLink RX0 37 yX0_addByte, Cond.methodLink RX2 115 yX1_hasNode, Cond.instanceMethod yX1_hasNode, Cond.selects RX1 yX1_hasNode yX1_hasNode, Cond.code yX1_hasNode cX1_hasNode 3 (some .boolean), Cond.static yX2_isBelow, Cond.code yX2_isBelow cX2_isBelow 2 (some .boolean), Cond.methodLink RX2 118 yX1_placeOfNode, Cond.instanceMethod yX1_placeOfNode, Cond.selects RX1 yX1_placeOfNode yX1_placeOfNode, Cond.code yX1_placeOfNode cX1_placeOfNode 3 (some .int), Cond.methodLink RX1 35 yX1_numberOfNode, Cond.instanceMethod yX1_numberOfNode, Cond.selects RX1 yX1_numberOfNode yX1_numberOfNode]
def wsL_law_r6 : List Cond := [Cond.code yX1_numberOfNode cX1_numberOfNode 3 (some .int), Cond.methodLink RX2 138 yX0_finish, Cond.instanceMethod yX0_finish, Cond.selects RX0 yX0_finish yX0_finish, Cond.code yX0_finish cX0_finish 5 none, Cond.constantLong RX0 41 (8), Cond.methodLink RX2 164 yX0_copyResult, Cond.instanceMethod yX0_copyResult, Cond.selects RX0 yX0_copyResult yX0_copyResult, Cond.code yX0_copyResult cX0_copyResult 4 none, Cond.methodLink RX0 43 yX0_resultByte, Cond.instanceMethod yX0_resultByte, Cond.selects RX0 yX0_resultByte yX0_resultByte, Cond.code yX0_resultByte cX0_resultByte 2 (some .int), Cond.methodLink RX2 171 yX2_sealRoot, Cond.instanceMethod yX2_sealRoot, Cond.selects RX2 yX2_sealRoot yX2_sealRoot, Cond.code yX2_sealRoot cX2_sealRoot 1 none, Cond.methodLink RX2 150 yX2_hashHeadAndLastNode, Cond.instanceMethod yX2_hashHeadAndLastNode, Cond.selects RX2 yX2_hashHeadAndLastNode yX2_hashHeadAndLastNode, Cond.code yX2_hashHeadAndLastNode cX2_hashHeadAndLastNode 1 none, Cond.methodLink RL 20 yX3_init, Cond.instanceMethod yX3_init]
def wsL_law_r7 : List Cond := [Cond.code yX3_init cX3_init 2 none, Cond.methodLink RX3 1 objectInit, Cond.constant RX3 7 (1116352408), Cond.constant RX3 8 (1899447441), Cond.constant RX3 9 (-1245643825), Cond.constant RX3 10 (-373957723), Cond.constant RX3 11 (961987163), Cond.constant RX3 12 (1508970993), Cond.constant RX3 13 (-1841331548), Cond.constant RX3 14 (-1424204075), Cond.constant RX3 15 (-670586216), Cond.constant RX3 16 (310598401), Cond.constant RX3 17 (607225278), Cond.constant RX3 18 (1426881987), Cond.constant RX3 19 (1925078388), Cond.constant RX3 20 (-2132889090), Cond.constant RX3 21 (-1680079193), Cond.constant RX3 22 (-1046744716), Cond.constant RX3 23 (-459576895), Cond.constant RX3 24 (-272742522), Cond.constant RX3 25 (264347078), Cond.constant RX3 26 (604807628), Cond.constant RX3 27 (770255983), Cond.constant RX3 28 (1249150122)]
def wsL_law_r8 : List Cond := [Cond.constant RX3 29 (1555081692), Cond.constant RX3 30 (1996064986), Cond.constant RX3 31 (-1740746414), Cond.constant RX3 32 (-1473132947), Cond.constant RX3 33 (-1341970488), Cond.constant RX3 34 (-1084653625), Cond.constant RX3 35 (-958395405), Cond.constant RX3 36 (-710438585), Cond.constant RX3 37 (113926993), Cond.constant RX3 38 (338241895), Cond.constant RX3 39 (666307205), Cond.constant RX3 40 (773529912), Cond.constant RX3 41 (1294757372), Cond.constant RX3 42 (1396182291), Cond.constant RX3 43 (1695183700), Cond.constant RX3 44 (1986661051), Cond.constant RX3 45 (-2117940946), Cond.constant RX3 46 (-1838011259), Cond.constant RX3 47 (-1564481375), Cond.constant RX3 48 (-1474664885), Cond.constant RX3 49 (-1035236496), Cond.constant RX3 50 (-949202525), Cond.constant RX3 51 (-778901479), Cond.constant RX3 52 (-694614492)]
def wsL_law_r9 : List Cond := [Cond.constant RX3 53 (-200395387), Cond.constant RX3 54 (275423344), Cond.constant RX3 55 (430227734), Cond.constant RX3 56 (506948616), Cond.constant RX3 57 (659060556), Cond.constant RX3 58 (883997877), Cond.constant RX3 59 (958139571), Cond.constant RX3 60 (1322822218), Cond.constant RX3 61 (1537002063), Cond.constant RX3 62 (1747873779), Cond.constant RX3 63 (1955562222), Cond.constant RX3 64 (2024104815), Cond.constant RX3 65 (-2067236844), Cond.constant RX3 66 (-1933114872), Cond.constant RX3 67 (-1866530822), Cond.constant RX3 68 (-1538233109), Cond.constant RX3 69 (-1090935817), Cond.constant RX3 70 (-965641998), Cond.fieldLink RX3 71 "SealedPagesModel" "k0" "[I", Cond.constant RX3 77 (1779033703), Cond.constant RX3 78 (-1150833019), Cond.constant RX3 79 (1013904242), Cond.constant RX3 80 (-1521486534), Cond.constant RX3 81 (1359893119)]
def wsL_law_r10 : List Cond := [Cond.constant RX3 82 (-1694144372), Cond.constant RX3 83 (528734635), Cond.constant RX3 84 (1541459225), Cond.fieldLink RX3 85 "SealedPagesModel" "h0" "[I", Cond.fieldLink RX3 88 "SealedPagesModel" "disk" "[I", Cond.fieldLink RX3 91 "SealedPagesModel" "root" "[I", Cond.fieldLink RX3 94 "SealedPagesModel" "draft" "[I", Cond.fieldLink RX3 97 "SealedPagesModel" "keptDisk" "[I", Cond.fieldLink RX3 100 "SealedPagesModel" "keptRoot" "[I", Cond.fieldLink RX3 103 "SealedPagesModel" "row" "[I", Cond.fieldLink RX3 106 "SealedPagesModel" "out" "[I", Cond.fieldLink RX3 109 "SealedPagesModel" "words" "[I", Cond.fieldLink RX3 112 "SealedPagesModel" "state" "[I", Cond.fieldLink RX3 115 "SealedPagesModel" "work" "[I", Cond.fieldLink RX3 118 "SealedPagesModel" "carried" "[I", Cond.fieldLink RX3 121 "SealedPagesModel" "pages" "I", Cond.fieldLink RX3 133 "SealedPagesModel" "size" "I", Cond.methodLink RX3 125 yX3_levelsOf, Cond.instanceMethod yX3_levelsOf, Cond.selects RX3 yX3_levelsOf yX3_levelsOf, Cond.code yX3_levelsOf cX3_levelsOf 2 (some .int), Cond.methodLink RX3 155 yX3_nodesOf, Cond.instanceMethod yX3_nodesOf, Cond.selects RX3 yX3_nodesOf yX3_nodesOf]
def wsL_law_r11 : List Cond := [Cond.code yX3_nodesOf cX3_nodesOf 4 (some .int), Cond.methodLink RX3 129 yX3_placeOf, Cond.instanceMethod yX3_placeOf, Cond.selects RX3 yX3_placeOf yX3_placeOf, Cond.code yX3_placeOf cX3_placeOf 5 (some .int), Cond.methodLink RX3 136 yX3_seal, Cond.instanceMethod yX3_seal, Cond.selects RX3 yX3_seal yX3_seal, Cond.code yX3_seal cX3_seal 6 (some .int), Cond.methodLink RX3 169 yX3_headOf, Cond.instanceMethod yX3_headOf, Cond.selects RX3 yX3_headOf yX3_headOf, Cond.code yX3_headOf cX3_headOf 2 (some .int), Cond.methodLink RX3 192 yX3_putNode, Cond.instanceMethod yX3_putNode, Cond.selects RX3 yX3_putNode yX3_putNode, Cond.code yX3_putNode cX3_putNode 5 none, Cond.methodLink RX3 162 yX3_hashNode, Cond.instanceMethod yX3_hashNode, Cond.selects RX3 yX3_hashNode yX3_hashNode, Cond.code yX3_hashNode cX3_hashNode 6 none, Cond.fieldLink RX3 139 "SealedPagesModel" "length" "I", Cond.methodLink RX3 142 yX3_add, Cond.instanceMethod yX3_add]
def wsL_law_r12 : List Cond := [Cond.selects RX3 yX3_add yX3_add, Cond.code yX3_add cX3_add 2 none, Cond.methodLink RX3 159 yX3_hashRow, Cond.instanceMethod yX3_hashRow, Cond.selects RX3 yX3_hashRow yX3_hashRow, Cond.code yX3_hashRow cX3_hashRow 3 none, Cond.methodLink RX3 146 yX3_mix, Cond.instanceMethod yX3_mix, Cond.selects RX3 yX3_mix yX3_mix, Cond.code yX3_mix cX3_mix 7 none, Cond.methodLink RX3 149 yX3_turned, Cond.static yX3_turned, Cond.code yX3_turned cX3_turned 2 (some .int), Cond.methodLink RX3 152 yX3_round, Cond.instanceMethod yX3_round, Cond.selects RX3 yX3_round yX3_round, Cond.code yX3_round cX3_round 9 none, Cond.methodLink RX3 195 yX3_putRoot, Cond.instanceMethod yX3_putRoot, Cond.selects RX3 yX3_putRoot yX3_putRoot, Cond.code yX3_putRoot cX3_putRoot 2 none, Cond.methodLink RX3 166 yX3_hashRoot, Cond.instanceMethod yX3_hashRoot, Cond.selects RX3 yX3_hashRoot yX3_hashRoot]
def wsL_law_r13 : List Cond := [Cond.code yX3_hashRoot cX3_hashRoot 3 none, Cond.methodLink RL 21 yX2_put, Cond.instanceMethod yX2_put, Cond.selects RX2 yX2_put yX2_put, Cond.code yX2_put cX2_put 4 (some .int), Cond.methodLink RX2 63 yX2_isBelow, Cond.methodLink RL 25 yX3_put, Cond.instanceMethod yX3_put, Cond.selects RX3 yX3_put yX3_put, Cond.code yX3_put cX3_put 4 (some .int), Cond.methodLink RL 28 yX2_fill, Cond.instanceMethod yX2_fill, Cond.selects RX2 yX2_fill yX2_fill, Cond.code yX2_fill cX2_fill 6 (some .int), Cond.methodLink RL 32 yX3_fill, Cond.instanceMethod yX3_fill, Cond.selects RX3 yX3_fill yX3_fill, Cond.code yX3_fill cX3_fill 5 (some .int), Cond.methodLink RL 33 yX2_draft, Cond.instanceMethod yX2_draft, Cond.selects RX2 yX2_draft yX2_draft, Cond.code yX2_draft cX2_draft 2 (some .int), Cond.methodLink RL 37 yX3_draft, Cond.instanceMethod yX3_draft]
def wsL_law_r14 : List Cond := [Cond.selects RX3 yX3_draft yX3_draft, Cond.code yX3_draft cX3_draft 2 (some .int), Cond.methodLink RL 38 yX2_read, Cond.instanceMethod yX2_read, Cond.selects RX2 yX2_read yX2_read, Cond.code yX2_read cX2_read 3 (some .int), Cond.methodLink RX2 74 arraycopyName, Cond.fieldLink RX2 80 "SealedPages" "pagesGiven" "I", Cond.fieldLink RX2 83 "SealedPages" "faultsTold" "I", Cond.methodLink RX2 67 yX2_fault, Cond.instanceMethod yX2_fault, Cond.selects RX2 yX2_fault yX2_fault, Cond.code yX2_fault cX2_fault 4 (some .int), Cond.methodLink RX2 92 yX1_hasPage, Cond.instanceMethod yX1_hasPage, Cond.selects RX1 yX1_hasPage yX1_hasPage, Cond.code yX1_hasPage cX1_hasPage 2 (some .boolean), Cond.methodLink RX2 96 yX2_faultAboveTree, Cond.instanceMethod yX2_faultAboveTree, Cond.selects RX2 yX2_faultAboveTree yX2_faultAboveTree, Cond.code yX2_faultAboveTree cX2_faultAboveTree 2 (some .int), Cond.methodLink RX2 153 yX0_resultIsAt, Cond.instanceMethod yX0_resultIsAt, Cond.selects RX0 yX0_resultIsAt yX0_resultIsAt]
def wsL_law_r15 : List Cond := [Cond.code yX0_resultIsAt cX0_resultIsAt 4 (some .boolean), Cond.methodLink RX2 103 yX2_faultOfNode, Cond.instanceMethod yX2_faultOfNode, Cond.selects RX2 yX2_faultOfNode yX2_faultOfNode, Cond.code yX2_faultOfNode cX2_faultOfNode 3 (some .int), Cond.methodLink RL 41 yX3_read, Cond.instanceMethod yX3_read, Cond.selects RX3 yX3_read yX3_read, Cond.code yX3_read cX3_read 4 (some .int), Cond.fieldLink RX3 186 "SealedPagesModel" "faults" "I", Cond.fieldLink RX3 189 "SealedPagesModel" "reads" "I", Cond.methodLink RX3 179 yX3_isPage, Cond.instanceMethod yX3_isPage, Cond.selects RX3 yX3_isPage yX3_isPage, Cond.code yX3_isPage cX3_isPage 2 (some .boolean), Cond.methodLink RX3 183 yX3_faultOf, Cond.instanceMethod yX3_faultOf, Cond.selects RX3 yX3_faultOf yX3_faultOf, Cond.code yX3_faultOf cX3_faultOf 3 (some .int), Cond.methodLink RX3 172 yX3_nodeOn, Cond.instanceMethod yX3_nodeOn, Cond.selects RX3 yX3_nodeOn yX3_nodeOn, Cond.code yX3_nodeOn cX3_nodeOn 5 (some .int), Cond.methodLink RX3 175 yX3_isNode]
def wsL_law_r16 : List Cond := [Cond.instanceMethod yX3_isNode, Cond.selects RX3 yX3_isNode yX3_isNode, Cond.code yX3_isNode cX3_isNode 6 (some .boolean), Cond.methodLink RL 42 yX2_write, Cond.instanceMethod yX2_write, Cond.selects RX2 yX2_write yX2_write, Cond.code yX2_write cX2_write 3 (some .int), Cond.fieldLink RX2 89 "SealedPages" "pagesWritten" "I", Cond.methodLink RX2 86 yX2_sealWay, Cond.instanceMethod yX2_sealWay, Cond.selects RX2 yX2_sealWay yX2_sealWay, Cond.code yX2_sealWay cX2_sealWay 3 none, Cond.methodLink RL 45 yX3_write, Cond.instanceMethod yX3_write, Cond.selects RX3 yX3_write yX3_write, Cond.code yX3_write cX3_write 5 (some .int), Cond.fieldLink RX3 198 "SealedPagesModel" "writes" "I", Cond.methodLink RL 46 yX2_seal, Cond.instanceMethod yX2_seal, Cond.selects RX2 yX2_seal yX2_seal, Cond.code yX2_seal cX2_seal 1 (some .int), Cond.methodLink RL 50 yX3_seal, Cond.methodLink RL 51 yX2_size, Cond.instanceMethod yX2_size]
def wsL_law_r17 : List Cond := [Cond.selects RX2 yX2_size yX2_size, Cond.code yX2_size cX2_size 1 (some .int), Cond.methodLink RL 54 yX3_size, Cond.instanceMethod yX3_size, Cond.selects RX3 yX3_size yX3_size, Cond.code yX3_size cX3_size 1 (some .int), Cond.methodLink RL 55 yX2_disk, Cond.instanceMethod yX2_disk, Cond.selects RX2 yX2_disk yX2_disk, Cond.code yX2_disk cX2_disk 2 (some .int), Cond.methodLink RL 58 yX3_disk, Cond.instanceMethod yX3_disk, Cond.selects RX3 yX3_disk yX3_disk, Cond.code yX3_disk cX3_disk 2 (some .int), Cond.methodLink RX3 201 yX3_isByte, Cond.instanceMethod yX3_isByte, Cond.selects RX3 yX3_isByte yX3_isByte, Cond.code yX3_isByte cX3_isByte 2 (some .boolean), Cond.methodLink RL 59 yX2_alter, Cond.instanceMethod yX2_alter, Cond.selects RX2 yX2_alter yX2_alter, Cond.code yX2_alter cX2_alter 4 (some .int), Cond.methodLink RL 62 yX3_alter, Cond.instanceMethod yX3_alter]
def wsL_law_r18 : List Cond := [Cond.selects RX3 yX3_alter yX3_alter, Cond.code yX3_alter cX3_alter 4 (some .int), Cond.methodLink RL 63 yX2_carry, Cond.instanceMethod yX2_carry, Cond.selects RX2 yX2_carry yX2_carry, Cond.code yX2_carry cX2_carry 5 (some .int), Cond.methodLink RL 67 yX3_carry, Cond.instanceMethod yX3_carry, Cond.selects RX3 yX3_carry yX3_carry, Cond.code yX3_carry cX3_carry 5 (some .int), Cond.methodLink RL 68 yX2_root, Cond.instanceMethod yX2_root, Cond.selects RX2 yX2_root yX2_root, Cond.code yX2_root cX2_root 2 (some .int), Cond.methodLink RL 71 yX3_root, Cond.instanceMethod yX3_root, Cond.selects RX3 yX3_root yX3_root, Cond.code yX3_root cX3_root 2 (some .int), Cond.methodLink RL 72 yX2_fault, Cond.methodLink RL 75 yX3_fault, Cond.instanceMethod yX3_fault, Cond.selects RX3 yX3_fault yX3_fault, Cond.code yX3_fault cX3_fault 2 (some .int), Cond.methodLink RL 76 yX2_held]
def wsL_law_r19 : List Cond := [Cond.instanceMethod yX2_held, Cond.selects RX2 yX2_held yX2_held, Cond.code yX2_held cX2_held 3 (some .int), Cond.methodLink RX2 106 yX2_surveyTree, Cond.instanceMethod yX2_surveyTree, Cond.selects RX2 yX2_surveyTree yX2_surveyTree, Cond.code yX2_surveyTree cX2_surveyTree 6 none, Cond.methodLink RX2 112 yX1_numberOfNode, Cond.methodLink RL 79 yX3_held, Cond.instanceMethod yX3_held, Cond.selects RX3 yX3_held yX3_held, Cond.code yX3_held cX3_held 3 (some .int), Cond.methodLink RL 80 yX2_first, Cond.instanceMethod yX2_first, Cond.selects RX2 yX2_first yX2_first, Cond.code yX2_first cX2_first 2 (some .int), Cond.methodLink RL 83 yX3_first, Cond.instanceMethod yX3_first, Cond.selects RX3 yX3_first yX3_first, Cond.code yX3_first cX3_first 2 (some .int), Cond.methodLink RL 84 yX2_levels, Cond.instanceMethod yX2_levels, Cond.selects RX2 yX2_levels yX2_levels, Cond.code yX2_levels cX2_levels 1 (some .int)]
def wsL_law_r20 : List Cond := [Cond.methodLink RL 87 yX3_levels, Cond.instanceMethod yX3_levels, Cond.selects RX3 yX3_levels yX3_levels, Cond.code yX3_levels cX3_levels 1 (some .int), Cond.methodLink RL 88 yX2_node, Cond.instanceMethod yX2_node, Cond.selects RX2 yX2_node yX2_node, Cond.code yX2_node cX2_node 3 (some .int), Cond.methodLink RL 91 yX3_node, Cond.instanceMethod yX3_node, Cond.selects RX3 yX3_node yX3_node, Cond.code yX3_node cX3_node 3 (some .int), Cond.methodLink RL 92 yX2_proof, Cond.instanceMethod yX2_proof, Cond.selects RX2 yX2_proof yX2_proof, Cond.code yX2_proof cX2_proof 4 (some .int), Cond.methodLink RX2 121 yX2_nodeBesideWay, Cond.static yX2_nodeBesideWay, Cond.code yX2_nodeBesideWay cX2_nodeBesideWay 2 (some .int), Cond.methodLink RL 95 yX3_proof, Cond.instanceMethod yX3_proof, Cond.selects RX3 yX3_proof yX3_proof, Cond.code yX3_proof cX3_proof 5 (some .int), Cond.methodLink RX3 204 yX3_besideOf]
def wsL_law_r21 : List Cond := [Cond.instanceMethod yX3_besideOf, Cond.selects RX3 yX3_besideOf yX3_besideOf, Cond.code yX3_besideOf cX3_besideOf 5 (some .int), Cond.methodLink RL 96 yX2_beside, Cond.instanceMethod yX2_beside, Cond.selects RX2 yX2_beside yX2_beside, Cond.code yX2_beside cX2_beside 7 (some .int), Cond.methodLink RL 99 yX3_beside, Cond.instanceMethod yX3_beside, Cond.selects RX3 yX3_beside yX3_beside, Cond.code yX3_beside cX3_beside 8 (some .int), Cond.methodLink RL 100 yX2_keep, Cond.instanceMethod yX2_keep, Cond.selects RX2 yX2_keep yX2_keep, Cond.code yX2_keep cX2_keep 1 (some .int), Cond.fieldLink RX2 124 "SealedPages" "somethingKept" "Z", Cond.methodLink RL 103 yX3_keep, Cond.instanceMethod yX3_keep, Cond.selects RX3 yX3_keep yX3_keep, Cond.code yX3_keep cX3_keep 2 (some .int), Cond.fieldLink RX3 207 "SealedPagesModel" "isKept" "Z", Cond.methodLink RL 104 yX2_back, Cond.instanceMethod yX2_back, Cond.selects RX2 yX2_back yX2_back]
def wsL_law_r22 : List Cond := [Cond.code yX2_back cX2_back 1 (some .int), Cond.methodLink RX2 128 yX2_restoreDisk, Cond.instanceMethod yX2_restoreDisk, Cond.selects RX2 yX2_restoreDisk yX2_restoreDisk, Cond.code yX2_restoreDisk cX2_restoreDisk 3 (some .int), Cond.methodLink RL 107 yX3_back, Cond.instanceMethod yX3_back, Cond.selects RX3 yX3_back yX3_back, Cond.code yX3_back cX3_back 3 (some .int), Cond.methodLink RL 108 yX2_open, Cond.instanceMethod yX2_open, Cond.selects RX2 yX2_open yX2_open, Cond.code yX2_open cX2_open 1 (some .int), Cond.methodLink RL 111 yX3_open, Cond.instanceMethod yX3_open, Cond.selects RX3 yX3_open yX3_open, Cond.code yX3_open cX3_open 3 (some .int), Cond.methodLink RX3 211 yX3_back, Cond.methodLink RL 112 yX2_hash, Cond.instanceMethod yX2_hash, Cond.selects RX2 yX2_hash yX2_hash, Cond.code yX2_hash cX2_hash 3 (some .int), Cond.methodLink RX2 141 yX0_resultByte, Cond.methodLink RL 115 yX3_hash]
def wsL_law_r23 : List Cond := [Cond.instanceMethod yX3_hash, Cond.selects RX3 yX3_hash yX3_hash, Cond.code yX3_hash cX3_hash 4 (some .int), Cond.methodLink RL 116 yX2_told, Cond.instanceMethod yX2_told, Cond.selects RX2 yX2_told yX2_told, Cond.code yX2_told cX2_told 2 (some .int), Cond.methodLink RL 119 yX3_told, Cond.instanceMethod yX3_told, Cond.selects RX3 yX3_told yX3_told, Cond.code yX3_told cX3_told 2 (some .int)]
def wsL_law : List Cond := (wsL_law_r1 ++ (wsL_law_r2 ++ (wsL_law_r3 ++ (wsL_law_r4 ++ (wsL_law_r5 ++ (wsL_law_r6 ++ (wsL_law_r7 ++ (wsL_law_r8 ++ (wsL_law_r9 ++ (wsL_law_r10 ++ (wsL_law_r11 ++ (wsL_law_r12 ++ (wsL_law_r13 ++ (wsL_law_r14 ++ (wsL_law_r15 ++ (wsL_law_r16 ++ (wsL_law_r17 ++ (wsL_law_r18 ++ (wsL_law_r19 ++ (wsL_law_r20 ++ (wsL_law_r21 ++ (wsL_law_r22 ++ wsL_law_r23)))))))))))))))))))))) ++ wsX20 ++ wsX30 ++ wsX10 ++ wsX00 ++ ([] : List Cond)
theorem in_by {big : List Cond} (ws : List Cond) (ps : List Nat) (hp : ws = ps.filterMap (fun i => big[i]?)) : ∀ w ∈ ws, w ∈ big := by
  intro w hw
  rw [hp] at hw
  obtain ⟨i, -, hi⟩ := List.mem_filterMap.mp hw
  exact List.mem_of_getElem? hi
theorem in_app {big a b : List Cond} (ha : ∀ w ∈ a, w ∈ big) (hb : ∀ w ∈ b, w ∈ big) : ∀ w ∈ a ++ b, w ∈ big := fun w h => (List.mem_append.mp h).elim (ha w) (hb w)
set_option maxRecDepth 20000 in
theorem wsL_law_r1_in : ∀ w ∈ wsL_law_r1, w ∈ lw_tbl := in_by _ [38, 39, 32, 351, 352, 37, 659, 348, 349, 31, 350, 40, 41, 42, 43, 44, 45, 46, 47, 33, 48, 49, 34, 50] (by decide +kernel)
set_option maxRecDepth 20000 in
theorem wsL_law_r2_in : ∀ w ∈ wsL_law_r2, w ∈ lw_tbl := in_by _ [51, 52, 53, 183, 83, 84, 35, 184, 64, 82, 185, 186, 187, 188, 189, 62, 190, 54, 55, 56, 57, 58, 66, 68] (by decide +kernel)
set_option maxRecDepth 20000 in
theorem wsL_law_r3_in : ∀ w ∈ wsL_law_r3, w ∈ lw_tbl := in_by _ [60, 63, 65, 86, 87, 88, 89, 90, 99, 101, 0, 102, 61, 67, 103, 105, 1, 106, 59, 107, 109, 2, 110, 111] (by decide +kernel)
set_option maxRecDepth 20000 in
theorem wsL_law_r4_in : ∀ w ∈ wsL_law_r4, w ∈ lw_tbl := in_by _ [113, 3, 114, 115, 116, 117, 118, 119, 121, 123, 122, 36, 91, 124, 125, 126, 127, 128, 130, 4, 131, 132, 134, 5] (by decide +kernel)
set_option maxRecDepth 20000 in
theorem wsL_law_r5_in : ∀ w ∈ wsL_law_r5, w ∈ lw_tbl := in_by _ [135, 136, 138, 139, 140, 141, 142, 143, 144, 145, 146, 147, 148, 149, 150, 152, 153, 154, 155, 156, 157, 158, 159, 160] (by decide +kernel)
set_option maxRecDepth 20000 in
theorem wsL_law_r6_in : ∀ w ∈ wsL_law_r6, w ∈ lw_tbl := in_by _ [161, 162, 163, 164, 165, 166, 167, 168, 169, 170, 171, 172, 173, 174, 175, 177, 6, 178, 179, 181, 7, 182, 353, 354] (by decide +kernel)
set_option maxRecDepth 20000 in
theorem wsL_law_r7_in : ∀ w ∈ wsL_law_r7, w ∈ lw_tbl := in_by _ [355, 356, 357, 358, 359, 360, 361, 362, 363, 364, 365, 366, 367, 368, 369, 370, 371, 372, 373, 374, 375, 376, 377, 378] (by decide +kernel)
set_option maxRecDepth 20000 in
theorem wsL_law_r8_in : ∀ w ∈ wsL_law_r8, w ∈ lw_tbl := in_by _ [379, 380, 381, 382, 383, 384, 385, 386, 387, 388, 389, 390, 391, 392, 393, 394, 395, 396, 397, 398, 399, 400, 401, 402] (by decide +kernel)
set_option maxRecDepth 20000 in
theorem wsL_law_r9_in : ∀ w ∈ wsL_law_r9, w ∈ lw_tbl := in_by _ [403, 404, 405, 406, 407, 408, 409, 410, 411, 412, 413, 414, 415, 416, 417, 418, 419, 420, 484, 421, 422, 423, 424, 425] (by decide +kernel)
set_option maxRecDepth 20000 in
theorem wsL_law_r10_in : ∀ w ∈ wsL_law_r10, w ∈ lw_tbl := in_by _ [426, 427, 428, 485, 488, 489, 490, 491, 492, 497, 499, 500, 501, 502, 503, 486, 487, 429, 431, 13, 432, 433, 435, 14] (by decide +kernel)
set_option maxRecDepth 20000 in
theorem wsL_law_r11_in : ∀ w ∈ wsL_law_r11, w ∈ lw_tbl := in_by _ [436, 437, 439, 15, 440, 441, 442, 443, 444, 445, 447, 16, 448, 449, 451, 17, 452, 453, 455, 18, 456, 498, 457, 459] (by decide +kernel)
set_option maxRecDepth 20000 in
theorem wsL_law_r12_in : ∀ w ∈ wsL_law_r12, w ∈ lw_tbl := in_by _ [19, 460, 461, 463, 20, 464, 465, 467, 21, 468, 469, 470, 471, 472, 474, 22, 475, 476, 478, 23, 479, 480, 482, 24] (by decide +kernel)
set_option maxRecDepth 20000 in
theorem wsL_law_r13_in : ∀ w ∈ wsL_law_r13, w ∈ lw_tbl := in_by _ [483, 220, 221, 222, 223, 224, 545, 546, 547, 548, 225, 226, 227, 228, 549, 550, 551, 552, 229, 230, 231, 232, 553, 554] (by decide +kernel)
set_option maxRecDepth 20000 in
theorem wsL_law_r14_in : ∀ w ∈ wsL_law_r14, w ∈ lw_tbl := in_by _ [555, 556, 233, 234, 235, 236, 257, 192, 194, 237, 238, 239, 240, 241, 242, 243, 244, 245, 247, 8, 248, 249, 250, 251] (by decide +kernel)
set_option maxRecDepth 20000 in
theorem wsL_law_r15_in : ∀ w ∈ wsL_law_r15, w ∈ lw_tbl := in_by _ [252, 253, 255, 9, 256, 557, 558, 559, 560, 496, 494, 561, 563, 25, 564, 565, 567, 26, 568, 569, 571, 27, 572, 573] (by decide +kernel)
set_option maxRecDepth 20000 in
theorem wsL_law_r16_in : ∀ w ∈ wsL_law_r16, w ∈ lw_tbl := in_by _ [575, 28, 576, 258, 259, 260, 261, 193, 262, 264, 10, 265, 577, 578, 579, 580, 495, 266, 267, 268, 269, 581, 270, 271] (by decide +kernel)
set_option maxRecDepth 20000 in
theorem wsL_law_r17_in : ∀ w ∈ wsL_law_r17, w ∈ lw_tbl := in_by _ [272, 273, 582, 583, 584, 585, 274, 275, 276, 277, 586, 587, 588, 589, 590, 592, 29, 593, 278, 279, 280, 281, 594, 595] (by decide +kernel)
set_option maxRecDepth 20000 in
theorem wsL_law_r18_in : ∀ w ∈ wsL_law_r18, w ∈ lw_tbl := in_by _ [596, 597, 282, 283, 284, 285, 598, 599, 600, 601, 286, 287, 288, 289, 602, 603, 604, 605, 290, 606, 607, 608, 609, 291] (by decide +kernel)
set_option maxRecDepth 20000 in
theorem wsL_law_r19_in : ∀ w ∈ wsL_law_r19, w ∈ lw_tbl := in_by _ [292, 293, 294, 295, 297, 11, 298, 299, 610, 611, 612, 613, 300, 301, 302, 303, 614, 615, 616, 617, 304, 305, 306, 307] (by decide +kernel)
set_option maxRecDepth 20000 in
theorem wsL_law_r20_in : ∀ w ∈ wsL_law_r20, w ∈ lw_tbl := in_by _ [618, 619, 620, 621, 308, 309, 310, 311, 622, 623, 624, 625, 312, 313, 314, 315, 316, 317, 318, 626, 627, 628, 629, 630] (by decide +kernel)
set_option maxRecDepth 20000 in
theorem wsL_law_r21_in : ∀ w ∈ wsL_law_r21, w ∈ lw_tbl := in_by _ [632, 30, 633, 319, 320, 321, 322, 634, 635, 636, 637, 323, 324, 325, 326, 191, 638, 639, 640, 641, 493, 327, 328, 329] (by decide +kernel)
set_option maxRecDepth 20000 in
theorem wsL_law_r22_in : ∀ w ∈ wsL_law_r22, w ∈ lw_tbl := in_by _ [330, 331, 333, 12, 334, 642, 643, 644, 645, 335, 336, 337, 338, 646, 647, 648, 649, 650, 339, 340, 341, 342, 343, 651] (by decide +kernel)
set_option maxRecDepth 20000 in
theorem wsL_law_r23_in : ∀ w ∈ wsL_law_r23, w ∈ lw_tbl := in_by _ [652, 653, 654, 344, 345, 346, 347, 655, 656, 657, 658] (by decide +kernel)
set_option maxRecDepth 20000 in
theorem wsX20_inq : ∀ w ∈ wsX20, w ∈ lw_tbl := by decide +kernel
set_option maxRecDepth 20000 in
theorem wsX30_inq : ∀ w ∈ wsX30, w ∈ lw_tbl := by decide +kernel
set_option maxRecDepth 20000 in
theorem wsX10_inq : ∀ w ∈ wsX10, w ∈ lw_tbl := by decide +kernel
set_option maxRecDepth 20000 in
theorem wsX00_inq : ∀ w ∈ wsX00, w ∈ lw_tbl := by decide +kernel
theorem wsL_law_in : ∀ w ∈ wsL_law, w ∈ lw_tbl := (in_app (in_app (in_app (in_app (in_app (in_app wsL_law_r1_in (in_app wsL_law_r2_in (in_app wsL_law_r3_in (in_app wsL_law_r4_in (in_app wsL_law_r5_in (in_app wsL_law_r6_in (in_app wsL_law_r7_in (in_app wsL_law_r8_in (in_app wsL_law_r9_in (in_app wsL_law_r10_in (in_app wsL_law_r11_in (in_app wsL_law_r12_in (in_app wsL_law_r13_in (in_app wsL_law_r14_in (in_app wsL_law_r15_in (in_app wsL_law_r16_in (in_app wsL_law_r17_in (in_app wsL_law_r18_in (in_app wsL_law_r19_in (in_app wsL_law_r20_in (in_app wsL_law_r21_in (in_app wsL_law_r22_in wsL_law_r23_in)))))))))))))))))))))) wsX20_inq) wsX30_inq) wsX10_inq) wsX00_inq) (fun _ h => absurd h List.not_mem_nil))
theorem inlX0 : ∀ w ∈ wsX00, w ∈ wsL_law := fun _ h => List.mem_append_left _ (List.mem_append_right _ h)
theorem inX0 : ∀ w ∈ wsX00, w ∈ lw_tbl := fun w h => wsL_law_in w (inlX0 w h)
theorem inlX1 : ∀ w ∈ wsX10, w ∈ wsL_law := fun _ h => List.mem_append_left _ (List.mem_append_left _ (List.mem_append_right _ h))
theorem inX1 : ∀ w ∈ wsX10, w ∈ lw_tbl := fun w h => wsL_law_in w (inlX1 w h)
theorem inlX2 : ∀ w ∈ wsX20, w ∈ wsL_law := fun _ h => List.mem_append_left _ (List.mem_append_left _ (List.mem_append_left _ (List.mem_append_left _ (List.mem_append_right _ h))))
theorem inX2 : ∀ w ∈ wsX20, w ∈ lw_tbl := fun w h => wsL_law_in w (inlX2 w h)
theorem inlX3 : ∀ w ∈ wsX30, w ∈ wsL_law := fun _ h => List.mem_append_left _ (List.mem_append_left _ (List.mem_append_left _ (List.mem_append_right _ h)))
theorem inX3 : ∀ w ∈ wsX30, w ∈ lw_tbl := fun w h => wsL_law_in w (inlX3 w h)
theorem inJ9 : ∀ w ∈ wsJ90, w ∈ lw_tbl := by decide +kernel
theorem inJ10 : ∀ w ∈ wsJ100, w ∈ lw_tbl := by decide +kernel
abbrev vwCl : List vw_C := [(RX0, TX0, 3), (RX1, TX1, 6), (RX2, TX2, 12), (RX3, TX3, 20)]
end
section
theorem dX0_init_0 : decode cX0_init 0 = .ok (.aload_n 0, 1) := by decide +kernel
theorem dX0_init_1 : decode cX0_init 1 = .ok (.invokespecial 3, 3) := by decide +kernel
theorem dX0_init_4 : decode cX0_init 4 = .ok (.aload_n 0, 1) := by decide +kernel
theorem dX0_init_5 : decode cX0_init 5 = .ok (.bipush 8, 2) := by decide +kernel
theorem dX0_init_7 : decode cX0_init 7 = .ok (.newarray .int, 2) := by decide +kernel
theorem dX0_init_9 : decode cX0_init 9 = .ok (.putfield 9, 3) := by decide +kernel
theorem dX0_init_12 : decode cX0_init 12 = .ok (.aload_n 0, 1) := by decide +kernel
theorem dX0_init_13 : decode cX0_init 13 = .ok (.bipush 64, 2) := by decide +kernel
theorem dX0_init_15 : decode cX0_init 15 = .ok (.newarray .int, 2) := by decide +kernel
theorem dX0_init_17 : decode cX0_init 17 = .ok (.putfield 15, 3) := by decide +kernel
theorem dX0_init_20 : decode cX0_init 20 = .ok (.return_, 1) := by decide +kernel
theorem dX0_begin_0 : decode cX0_begin 0 = .ok (.getstatic 18, 3) := by decide +kernel
theorem dX0_begin_3 : decode cX0_begin 3 = .ok (.iconst 0, 1) := by decide +kernel
theorem dX0_begin_4 : decode cX0_begin 4 = .ok (.aload_n 0, 1) := by decide +kernel
theorem dX0_begin_5 : decode cX0_begin 5 = .ok (.getfield 9, 3) := by decide +kernel
theorem dX0_begin_8 : decode cX0_begin 8 = .ok (.iconst 0, 1) := by decide +kernel
theorem dX0_begin_9 : decode cX0_begin 9 = .ok (.bipush 8, 2) := by decide +kernel
theorem dX0_begin_11 : decode cX0_begin 11 = .ok (.invokestatic 21, 3) := by decide +kernel
theorem dX0_begin_14 : decode cX0_begin 14 = .ok (.aload_n 0, 1) := by decide +kernel
theorem dX0_begin_15 : decode cX0_begin 15 = .ok (.iconst 0, 1) := by decide +kernel
theorem dX0_begin_16 : decode cX0_begin 16 = .ok (.putfield 27, 3) := by decide +kernel
theorem dX0_begin_19 : decode cX0_begin 19 = .ok (.return_, 1) := by decide +kernel
set_option maxRecDepth 20000 in
theorem ggX0_addByte_X0_spreadWords : GoodIn wsX0_addByte wsX0_spreadWords := goodIn_r _ [7, 2, 14, 15, 16] (by decide +kernel) (by decide +kernel)
set_option maxRecDepth 20000 in
theorem gX0_addByte_X0_spreadWords : GoodIn wsX0_addByte (wsV RX0 31 RX0 yX0_spreadWords wsX0_spreadWords) := goodIn_app (goodIn_of _ (by decide +kernel)) ggX0_addByte_X0_spreadWords
set_option maxRecDepth 20000 in
theorem ggX0_addByte_X0_mixBlock : GoodIn wsX0_addByte wsX0_mixBlock := goodIn_r _ [11, 12, 13, 2, 14, 15, 16] (by decide +kernel) (by decide +kernel)
set_option maxRecDepth 20000 in
theorem gX0_addByte_X0_mixBlock : GoodIn wsX0_addByte (wsV RX0 34 RX0 yX0_mixBlock wsX0_mixBlock) := goodIn_app (goodIn_of _ (by decide +kernel)) ggX0_addByte_X0_mixBlock
theorem dX0_addByte_0 : decode cX0_addByte 0 = .ok (.aload_n 0, 1) := by decide +kernel
theorem dX0_addByte_1 : decode cX0_addByte 1 = .ok (.getfield 27, 3) := by decide +kernel
theorem dX0_addByte_4 : decode cX0_addByte 4 = .ok (.bipush 63, 2) := by decide +kernel
theorem dX0_addByte_6 : decode cX0_addByte 6 = .ok (.iand, 1) := by decide +kernel
theorem dX0_addByte_7 : decode cX0_addByte 7 = .ok (.iconst 2, 1) := by decide +kernel
theorem dX0_addByte_8 : decode cX0_addByte 8 = .ok (.ishr, 1) := by decide +kernel
theorem dX0_addByte_9 : decode cX0_addByte 9 = .ok (.istore_n 2, 1) := by decide +kernel
theorem dX0_addByte_10 : decode cX0_addByte 10 = .ok (.aload_n 0, 1) := by decide +kernel
theorem dX0_addByte_11 : decode cX0_addByte 11 = .ok (.getfield 15, 3) := by decide +kernel
theorem dX0_addByte_14 : decode cX0_addByte 14 = .ok (.iload_n 2, 1) := by decide +kernel
theorem dX0_addByte_15 : decode cX0_addByte 15 = .ok (.aload_n 0, 1) := by decide +kernel
theorem dX0_addByte_16 : decode cX0_addByte 16 = .ok (.getfield 15, 3) := by decide +kernel
theorem dX0_addByte_19 : decode cX0_addByte 19 = .ok (.iload_n 2, 1) := by decide +kernel
theorem dX0_addByte_20 : decode cX0_addByte 20 = .ok (.iaload, 1) := by decide +kernel
theorem dX0_addByte_21 : decode cX0_addByte 21 = .ok (.bipush 8, 2) := by decide +kernel
theorem dX0_addByte_23 : decode cX0_addByte 23 = .ok (.ishl, 1) := by decide +kernel
theorem dX0_addByte_24 : decode cX0_addByte 24 = .ok (.iload_n 1, 1) := by decide +kernel
theorem dX0_addByte_25 : decode cX0_addByte 25 = .ok (.sipush 255, 3) := by decide +kernel
theorem dX0_addByte_28 : decode cX0_addByte 28 = .ok (.iand, 1) := by decide +kernel
theorem dX0_addByte_29 : decode cX0_addByte 29 = .ok (.ior, 1) := by decide +kernel
theorem dX0_addByte_30 : decode cX0_addByte 30 = .ok (.iastore, 1) := by decide +kernel
theorem dX0_addByte_31 : decode cX0_addByte 31 = .ok (.aload_n 0, 1) := by decide +kernel
theorem dX0_addByte_32 : decode cX0_addByte 32 = .ok (.dup, 1) := by decide +kernel
theorem dX0_addByte_33 : decode cX0_addByte 33 = .ok (.getfield 27, 3) := by decide +kernel
theorem dX0_addByte_36 : decode cX0_addByte 36 = .ok (.iconst 1, 1) := by decide +kernel
theorem dX0_addByte_37 : decode cX0_addByte 37 = .ok (.iadd, 1) := by decide +kernel
theorem dX0_addByte_38 : decode cX0_addByte 38 = .ok (.putfield 27, 3) := by decide +kernel
theorem dX0_addByte_41 : decode cX0_addByte 41 = .ok (.aload_n 0, 1) := by decide +kernel
theorem dX0_addByte_42 : decode cX0_addByte 42 = .ok (.getfield 27, 3) := by decide +kernel
theorem dX0_addByte_45 : decode cX0_addByte 45 = .ok (.bipush 63, 2) := by decide +kernel
theorem dX0_addByte_47 : decode cX0_addByte 47 = .ok (.iand, 1) := by decide +kernel
theorem dX0_addByte_48 : decode cX0_addByte 48 = .ok (.ifCond .ne 11, 3) := by decide +kernel
theorem dX0_addByte_51 : decode cX0_addByte 51 = .ok (.aload_n 0, 1) := by decide +kernel
theorem dX0_addByte_52 : decode cX0_addByte 52 = .ok (.invokevirtual 31, 3) := by decide +kernel
theorem dX0_addByte_55 : decode cX0_addByte 55 = .ok (.aload_n 0, 1) := by decide +kernel
theorem dX0_addByte_56 : decode cX0_addByte 56 = .ok (.invokevirtual 34, 3) := by decide +kernel
theorem dX0_addByte_59 : decode cX0_addByte 59 = .ok (.return_, 1) := by decide +kernel
set_option maxRecDepth 20000 in
theorem ggX0_addRow_X0_addByte : GoodIn wsX0_addRow wsX0_addByte := goodIn_r _ [5, 6, 7, 8, 9, 10, 4, 11, 12, 13, 14, 15, 16, 17, 18, 19, 20] (by decide +kernel) (by decide +kernel)
set_option maxRecDepth 20000 in
theorem gX0_addRow_X0_addByte : GoodIn wsX0_addRow (wsV RX0 37 RX0 yX0_addByte wsX0_addByte) := goodIn_app (goodIn_of _ (by decide +kernel)) ggX0_addRow_X0_addByte
theorem dX0_addRow_0 : decode cX0_addRow 0 = .ok (.iconst 0, 1) := by decide +kernel
theorem dX0_addRow_1 : decode cX0_addRow 1 = .ok (.istore 4, 2) := by decide +kernel
theorem dX0_addRow_3 : decode cX0_addRow 3 = .ok (.iload 4, 2) := by decide +kernel
theorem dX0_addRow_5 : decode cX0_addRow 5 = .ok (.iload_n 3, 1) := by decide +kernel
theorem dX0_addRow_6 : decode cX0_addRow 6 = .ok (.if_icmp .ge 19, 3) := by decide +kernel
theorem dX0_addRow_9 : decode cX0_addRow 9 = .ok (.aload_n 0, 1) := by decide +kernel
theorem dX0_addRow_10 : decode cX0_addRow 10 = .ok (.aload_n 1, 1) := by decide +kernel
theorem dX0_addRow_11 : decode cX0_addRow 11 = .ok (.iload_n 2, 1) := by decide +kernel
theorem dX0_addRow_12 : decode cX0_addRow 12 = .ok (.iload 4, 2) := by decide +kernel
theorem dX0_addRow_14 : decode cX0_addRow 14 = .ok (.iadd, 1) := by decide +kernel
theorem dX0_addRow_15 : decode cX0_addRow 15 = .ok (.iaload, 1) := by decide +kernel
theorem dX0_addRow_16 : decode cX0_addRow 16 = .ok (.invokevirtual 37, 3) := by decide +kernel
theorem dX0_addRow_19 : decode cX0_addRow 19 = .ok (.iinc 4 1, 3) := by decide +kernel
theorem dX0_addRow_22 : decode cX0_addRow 22 = .ok (.goto (-19), 3) := by decide +kernel
theorem dX0_addRow_25 : decode cX0_addRow 25 = .ok (.return_, 1) := by decide +kernel
set_option maxRecDepth 20000 in
theorem ggX0_finish_X0_addByte : GoodIn wsX0_finish wsX0_addByte := goodIn_r _ [7, 2, 8, 9, 10, 11, 6, 12, 13, 14, 15, 16, 17, 18, 19, 20, 21] (by decide +kernel) (by decide +kernel)
set_option maxRecDepth 20000 in
theorem gX0_finish_X0_addByte : GoodIn wsX0_finish (wsV RX0 37 RX0 yX0_addByte wsX0_addByte) := goodIn_app (goodIn_of _ (by decide +kernel)) ggX0_finish_X0_addByte
theorem dX0_finish_0 : decode cX0_finish 0 = .ok (.ldc2_w 41, 3) := by decide +kernel
theorem dX0_finish_3 : decode cX0_finish 3 = .ok (.aload_n 0, 1) := by decide +kernel
theorem dX0_finish_4 : decode cX0_finish 4 = .ok (.getfield 27, 3) := by decide +kernel
theorem dX0_finish_7 : decode cX0_finish 7 = .ok (.i2l, 1) := by decide +kernel
theorem dX0_finish_8 : decode cX0_finish 8 = .ok (.lmul, 1) := by decide +kernel
theorem dX0_finish_9 : decode cX0_finish 9 = .ok (.lstore_n 1, 1) := by decide +kernel
theorem dX0_finish_10 : decode cX0_finish 10 = .ok (.aload_n 0, 1) := by decide +kernel
theorem dX0_finish_11 : decode cX0_finish 11 = .ok (.sipush 128, 3) := by decide +kernel
theorem dX0_finish_14 : decode cX0_finish 14 = .ok (.invokevirtual 37, 3) := by decide +kernel
theorem dX0_finish_17 : decode cX0_finish 17 = .ok (.bipush 56, 2) := by decide +kernel
theorem dX0_finish_19 : decode cX0_finish 19 = .ok (.aload_n 0, 1) := by decide +kernel
theorem dX0_finish_20 : decode cX0_finish 20 = .ok (.getfield 27, 3) := by decide +kernel
theorem dX0_finish_23 : decode cX0_finish 23 = .ok (.isub, 1) := by decide +kernel
theorem dX0_finish_24 : decode cX0_finish 24 = .ok (.bipush 63, 2) := by decide +kernel
theorem dX0_finish_26 : decode cX0_finish 26 = .ok (.iand, 1) := by decide +kernel
theorem dX0_finish_27 : decode cX0_finish 27 = .ok (.istore_n 3, 1) := by decide +kernel
theorem dX0_finish_28 : decode cX0_finish 28 = .ok (.iconst 0, 1) := by decide +kernel
theorem dX0_finish_29 : decode cX0_finish 29 = .ok (.istore 4, 2) := by decide +kernel
theorem dX0_finish_31 : decode cX0_finish 31 = .ok (.iload 4, 2) := by decide +kernel
theorem dX0_finish_33 : decode cX0_finish 33 = .ok (.iload_n 3, 1) := by decide +kernel
theorem dX0_finish_34 : decode cX0_finish 34 = .ok (.if_icmp .ge 14, 3) := by decide +kernel
theorem dX0_finish_37 : decode cX0_finish 37 = .ok (.aload_n 0, 1) := by decide +kernel
theorem dX0_finish_38 : decode cX0_finish 38 = .ok (.iconst 0, 1) := by decide +kernel
theorem dX0_finish_39 : decode cX0_finish 39 = .ok (.invokevirtual 37, 3) := by decide +kernel
theorem dX0_finish_42 : decode cX0_finish 42 = .ok (.iinc 4 1, 3) := by decide +kernel
theorem dX0_finish_45 : decode cX0_finish 45 = .ok (.goto (-14), 3) := by decide +kernel
theorem dX0_finish_48 : decode cX0_finish 48 = .ok (.iconst 0, 1) := by decide +kernel
theorem dX0_finish_49 : decode cX0_finish 49 = .ok (.istore 4, 2) := by decide +kernel
theorem dX0_finish_51 : decode cX0_finish 51 = .ok (.iload 4, 2) := by decide +kernel
theorem dX0_finish_53 : decode cX0_finish 53 = .ok (.bipush 8, 2) := by decide +kernel
theorem dX0_finish_55 : decode cX0_finish 55 = .ok (.if_icmp .ge 24, 3) := by decide +kernel
theorem dX0_finish_58 : decode cX0_finish 58 = .ok (.aload_n 0, 1) := by decide +kernel
theorem dX0_finish_59 : decode cX0_finish 59 = .ok (.lload_n 1, 1) := by decide +kernel
theorem dX0_finish_60 : decode cX0_finish 60 = .ok (.bipush 56, 2) := by decide +kernel
theorem dX0_finish_62 : decode cX0_finish 62 = .ok (.bipush 8, 2) := by decide +kernel
theorem dX0_finish_64 : decode cX0_finish 64 = .ok (.iload 4, 2) := by decide +kernel
theorem dX0_finish_66 : decode cX0_finish 66 = .ok (.imul, 1) := by decide +kernel
theorem dX0_finish_67 : decode cX0_finish 67 = .ok (.isub, 1) := by decide +kernel
theorem dX0_finish_68 : decode cX0_finish 68 = .ok (.lushr, 1) := by decide +kernel
theorem dX0_finish_69 : decode cX0_finish 69 = .ok (.l2i, 1) := by decide +kernel
theorem dX0_finish_70 : decode cX0_finish 70 = .ok (.invokevirtual 37, 3) := by decide +kernel
theorem dX0_finish_73 : decode cX0_finish 73 = .ok (.iinc 4 1, 3) := by decide +kernel
theorem dX0_finish_76 : decode cX0_finish 76 = .ok (.goto (-25), 3) := by decide +kernel
theorem dX0_finish_79 : decode cX0_finish 79 = .ok (.return_, 1) := by decide +kernel
theorem dX0_resultByte_0 : decode cX0_resultByte 0 = .ok (.aload_n 0, 1) := by decide +kernel
theorem dX0_resultByte_1 : decode cX0_resultByte 1 = .ok (.getfield 9, 3) := by decide +kernel
theorem dX0_resultByte_4 : decode cX0_resultByte 4 = .ok (.iload_n 1, 1) := by decide +kernel
theorem dX0_resultByte_5 : decode cX0_resultByte 5 = .ok (.iconst 2, 1) := by decide +kernel
theorem dX0_resultByte_6 : decode cX0_resultByte 6 = .ok (.ishr, 1) := by decide +kernel
theorem dX0_resultByte_7 : decode cX0_resultByte 7 = .ok (.bipush 7, 2) := by decide +kernel
theorem dX0_resultByte_9 : decode cX0_resultByte 9 = .ok (.iand, 1) := by decide +kernel
theorem dX0_resultByte_10 : decode cX0_resultByte 10 = .ok (.iaload, 1) := by decide +kernel
theorem dX0_resultByte_11 : decode cX0_resultByte 11 = .ok (.bipush 24, 2) := by decide +kernel
theorem dX0_resultByte_13 : decode cX0_resultByte 13 = .ok (.bipush 8, 2) := by decide +kernel
theorem dX0_resultByte_15 : decode cX0_resultByte 15 = .ok (.iload_n 1, 1) := by decide +kernel
theorem dX0_resultByte_16 : decode cX0_resultByte 16 = .ok (.iconst 3, 1) := by decide +kernel
theorem dX0_resultByte_17 : decode cX0_resultByte 17 = .ok (.iand, 1) := by decide +kernel
theorem dX0_resultByte_18 : decode cX0_resultByte 18 = .ok (.imul, 1) := by decide +kernel
theorem dX0_resultByte_19 : decode cX0_resultByte 19 = .ok (.isub, 1) := by decide +kernel
theorem dX0_resultByte_20 : decode cX0_resultByte 20 = .ok (.iushr, 1) := by decide +kernel
theorem dX0_resultByte_21 : decode cX0_resultByte 21 = .ok (.sipush 255, 3) := by decide +kernel
theorem dX0_resultByte_24 : decode cX0_resultByte 24 = .ok (.iand, 1) := by decide +kernel
theorem dX0_resultByte_25 : decode cX0_resultByte 25 = .ok (.ireturn, 1) := by decide +kernel
set_option maxRecDepth 20000 in
theorem ggX0_resultIsAt_X0_resultByte : GoodIn wsX0_resultIsAt wsX0_resultByte := goodIn_r _ [5, 6, 7, 8, 9] (by decide +kernel) (by decide +kernel)
set_option maxRecDepth 20000 in
theorem gX0_resultIsAt_X0_resultByte : GoodIn wsX0_resultIsAt (wsV RX0 43 RX0 yX0_resultByte wsX0_resultByte) := goodIn_app (goodIn_of _ (by decide +kernel)) ggX0_resultIsAt_X0_resultByte
theorem dX0_resultIsAt_0 : decode cX0_resultIsAt 0 = .ok (.iconst 0, 1) := by decide +kernel
theorem dX0_resultIsAt_1 : decode cX0_resultIsAt 1 = .ok (.istore_n 3, 1) := by decide +kernel
theorem dX0_resultIsAt_2 : decode cX0_resultIsAt 2 = .ok (.iload_n 3, 1) := by decide +kernel
theorem dX0_resultIsAt_3 : decode cX0_resultIsAt 3 = .ok (.bipush 32, 2) := by decide +kernel
theorem dX0_resultIsAt_5 : decode cX0_resultIsAt 5 = .ok (.if_icmp .ge 24, 3) := by decide +kernel
theorem dX0_resultIsAt_8 : decode cX0_resultIsAt 8 = .ok (.aload_n 1, 1) := by decide +kernel
theorem dX0_resultIsAt_9 : decode cX0_resultIsAt 9 = .ok (.iload_n 2, 1) := by decide +kernel
theorem dX0_resultIsAt_10 : decode cX0_resultIsAt 10 = .ok (.iload_n 3, 1) := by decide +kernel
theorem dX0_resultIsAt_11 : decode cX0_resultIsAt 11 = .ok (.iadd, 1) := by decide +kernel
theorem dX0_resultIsAt_12 : decode cX0_resultIsAt 12 = .ok (.iaload, 1) := by decide +kernel
theorem dX0_resultIsAt_13 : decode cX0_resultIsAt 13 = .ok (.aload_n 0, 1) := by decide +kernel
theorem dX0_resultIsAt_14 : decode cX0_resultIsAt 14 = .ok (.iload_n 3, 1) := by decide +kernel
theorem dX0_resultIsAt_15 : decode cX0_resultIsAt 15 = .ok (.invokevirtual 43, 3) := by decide +kernel
theorem dX0_resultIsAt_18 : decode cX0_resultIsAt 18 = .ok (.if_icmp .eq 5, 3) := by decide +kernel
theorem dX0_resultIsAt_21 : decode cX0_resultIsAt 21 = .ok (.iconst 0, 1) := by decide +kernel
theorem dX0_resultIsAt_22 : decode cX0_resultIsAt 22 = .ok (.ireturn, 1) := by decide +kernel
theorem dX0_resultIsAt_23 : decode cX0_resultIsAt 23 = .ok (.iinc 3 1, 3) := by decide +kernel
theorem dX0_resultIsAt_26 : decode cX0_resultIsAt 26 = .ok (.goto (-24), 3) := by decide +kernel
theorem dX0_resultIsAt_29 : decode cX0_resultIsAt 29 = .ok (.iconst 1, 1) := by decide +kernel
theorem dX0_resultIsAt_30 : decode cX0_resultIsAt 30 = .ok (.ireturn, 1) := by decide +kernel
set_option maxRecDepth 20000 in
theorem ggX0_copyResult_X0_resultByte : GoodIn wsX0_copyResult wsX0_resultByte := goodIn_r _ [5, 6, 7, 8, 9] (by decide +kernel) (by decide +kernel)
set_option maxRecDepth 20000 in
theorem gX0_copyResult_X0_resultByte : GoodIn wsX0_copyResult (wsV RX0 43 RX0 yX0_resultByte wsX0_resultByte) := goodIn_app (goodIn_of _ (by decide +kernel)) ggX0_copyResult_X0_resultByte
theorem dX0_copyResult_0 : decode cX0_copyResult 0 = .ok (.iconst 0, 1) := by decide +kernel
theorem dX0_copyResult_1 : decode cX0_copyResult 1 = .ok (.istore_n 3, 1) := by decide +kernel
theorem dX0_copyResult_2 : decode cX0_copyResult 2 = .ok (.iload_n 3, 1) := by decide +kernel
theorem dX0_copyResult_3 : decode cX0_copyResult 3 = .ok (.bipush 32, 2) := by decide +kernel
theorem dX0_copyResult_5 : decode cX0_copyResult 5 = .ok (.if_icmp .ge 19, 3) := by decide +kernel
theorem dX0_copyResult_8 : decode cX0_copyResult 8 = .ok (.aload_n 1, 1) := by decide +kernel
theorem dX0_copyResult_9 : decode cX0_copyResult 9 = .ok (.iload_n 2, 1) := by decide +kernel
theorem dX0_copyResult_10 : decode cX0_copyResult 10 = .ok (.iload_n 3, 1) := by decide +kernel
theorem dX0_copyResult_11 : decode cX0_copyResult 11 = .ok (.iadd, 1) := by decide +kernel
theorem dX0_copyResult_12 : decode cX0_copyResult 12 = .ok (.aload_n 0, 1) := by decide +kernel
theorem dX0_copyResult_13 : decode cX0_copyResult 13 = .ok (.iload_n 3, 1) := by decide +kernel
theorem dX0_copyResult_14 : decode cX0_copyResult 14 = .ok (.invokevirtual 43, 3) := by decide +kernel
theorem dX0_copyResult_17 : decode cX0_copyResult 17 = .ok (.iastore, 1) := by decide +kernel
theorem dX0_copyResult_18 : decode cX0_copyResult 18 = .ok (.iinc 3 1, 3) := by decide +kernel
theorem dX0_copyResult_21 : decode cX0_copyResult 21 = .ok (.goto (-19), 3) := by decide +kernel
theorem dX0_copyResult_24 : decode cX0_copyResult 24 = .ok (.return_, 1) := by decide +kernel
theorem dX0_spreadWords_0 : decode cX0_spreadWords 0 = .ok (.bipush 16, 2) := by decide +kernel
theorem dX0_spreadWords_2 : decode cX0_spreadWords 2 = .ok (.istore_n 1, 1) := by decide +kernel
theorem dX0_spreadWords_3 : decode cX0_spreadWords 3 = .ok (.iload_n 1, 1) := by decide +kernel
theorem dX0_spreadWords_4 : decode cX0_spreadWords 4 = .ok (.bipush 64, 2) := by decide +kernel
theorem dX0_spreadWords_6 : decode cX0_spreadWords 6 = .ok (.if_icmp .ge 110, 3) := by decide +kernel
theorem dX0_spreadWords_9 : decode cX0_spreadWords 9 = .ok (.aload_n 0, 1) := by decide +kernel
theorem dX0_spreadWords_10 : decode cX0_spreadWords 10 = .ok (.getfield 15, 3) := by decide +kernel
theorem dX0_spreadWords_13 : decode cX0_spreadWords 13 = .ok (.iload_n 1, 1) := by decide +kernel
theorem dX0_spreadWords_14 : decode cX0_spreadWords 14 = .ok (.bipush 15, 2) := by decide +kernel
theorem dX0_spreadWords_16 : decode cX0_spreadWords 16 = .ok (.isub, 1) := by decide +kernel
theorem dX0_spreadWords_17 : decode cX0_spreadWords 17 = .ok (.iaload, 1) := by decide +kernel
theorem dX0_spreadWords_18 : decode cX0_spreadWords 18 = .ok (.istore_n 2, 1) := by decide +kernel
theorem dX0_spreadWords_19 : decode cX0_spreadWords 19 = .ok (.aload_n 0, 1) := by decide +kernel
theorem dX0_spreadWords_20 : decode cX0_spreadWords 20 = .ok (.getfield 15, 3) := by decide +kernel
theorem dX0_spreadWords_23 : decode cX0_spreadWords 23 = .ok (.iload_n 1, 1) := by decide +kernel
theorem dX0_spreadWords_24 : decode cX0_spreadWords 24 = .ok (.iconst 2, 1) := by decide +kernel
theorem dX0_spreadWords_25 : decode cX0_spreadWords 25 = .ok (.isub, 1) := by decide +kernel
theorem dX0_spreadWords_26 : decode cX0_spreadWords 26 = .ok (.iaload, 1) := by decide +kernel
theorem dX0_spreadWords_27 : decode cX0_spreadWords 27 = .ok (.istore_n 3, 1) := by decide +kernel
theorem dX0_spreadWords_28 : decode cX0_spreadWords 28 = .ok (.iload_n 2, 1) := by decide +kernel
theorem dX0_spreadWords_29 : decode cX0_spreadWords 29 = .ok (.bipush 7, 2) := by decide +kernel
theorem dX0_spreadWords_31 : decode cX0_spreadWords 31 = .ok (.iushr, 1) := by decide +kernel
theorem dX0_spreadWords_32 : decode cX0_spreadWords 32 = .ok (.iload_n 2, 1) := by decide +kernel
theorem dX0_spreadWords_33 : decode cX0_spreadWords 33 = .ok (.bipush 25, 2) := by decide +kernel
theorem dX0_spreadWords_35 : decode cX0_spreadWords 35 = .ok (.ishl, 1) := by decide +kernel
theorem dX0_spreadWords_36 : decode cX0_spreadWords 36 = .ok (.ior, 1) := by decide +kernel
theorem dX0_spreadWords_37 : decode cX0_spreadWords 37 = .ok (.iload_n 2, 1) := by decide +kernel
theorem dX0_spreadWords_38 : decode cX0_spreadWords 38 = .ok (.bipush 18, 2) := by decide +kernel
theorem dX0_spreadWords_40 : decode cX0_spreadWords 40 = .ok (.iushr, 1) := by decide +kernel
theorem dX0_spreadWords_41 : decode cX0_spreadWords 41 = .ok (.iload_n 2, 1) := by decide +kernel
theorem dX0_spreadWords_42 : decode cX0_spreadWords 42 = .ok (.bipush 14, 2) := by decide +kernel
theorem dX0_spreadWords_44 : decode cX0_spreadWords 44 = .ok (.ishl, 1) := by decide +kernel
theorem dX0_spreadWords_45 : decode cX0_spreadWords 45 = .ok (.ior, 1) := by decide +kernel
theorem dX0_spreadWords_46 : decode cX0_spreadWords 46 = .ok (.ixor, 1) := by decide +kernel
theorem dX0_spreadWords_47 : decode cX0_spreadWords 47 = .ok (.iload_n 2, 1) := by decide +kernel
theorem dX0_spreadWords_48 : decode cX0_spreadWords 48 = .ok (.iconst 3, 1) := by decide +kernel
theorem dX0_spreadWords_49 : decode cX0_spreadWords 49 = .ok (.iushr, 1) := by decide +kernel
theorem dX0_spreadWords_50 : decode cX0_spreadWords 50 = .ok (.ixor, 1) := by decide +kernel
theorem dX0_spreadWords_51 : decode cX0_spreadWords 51 = .ok (.istore 4, 2) := by decide +kernel
theorem dX0_spreadWords_53 : decode cX0_spreadWords 53 = .ok (.iload_n 3, 1) := by decide +kernel
theorem dX0_spreadWords_54 : decode cX0_spreadWords 54 = .ok (.bipush 17, 2) := by decide +kernel
theorem dX0_spreadWords_56 : decode cX0_spreadWords 56 = .ok (.iushr, 1) := by decide +kernel
theorem dX0_spreadWords_57 : decode cX0_spreadWords 57 = .ok (.iload_n 3, 1) := by decide +kernel
theorem dX0_spreadWords_58 : decode cX0_spreadWords 58 = .ok (.bipush 15, 2) := by decide +kernel
theorem dX0_spreadWords_60 : decode cX0_spreadWords 60 = .ok (.ishl, 1) := by decide +kernel
theorem dX0_spreadWords_61 : decode cX0_spreadWords 61 = .ok (.ior, 1) := by decide +kernel
theorem dX0_spreadWords_62 : decode cX0_spreadWords 62 = .ok (.iload_n 3, 1) := by decide +kernel
theorem dX0_spreadWords_63 : decode cX0_spreadWords 63 = .ok (.bipush 19, 2) := by decide +kernel
theorem dX0_spreadWords_65 : decode cX0_spreadWords 65 = .ok (.iushr, 1) := by decide +kernel
theorem dX0_spreadWords_66 : decode cX0_spreadWords 66 = .ok (.iload_n 3, 1) := by decide +kernel
theorem dX0_spreadWords_67 : decode cX0_spreadWords 67 = .ok (.bipush 13, 2) := by decide +kernel
theorem dX0_spreadWords_69 : decode cX0_spreadWords 69 = .ok (.ishl, 1) := by decide +kernel
theorem dX0_spreadWords_70 : decode cX0_spreadWords 70 = .ok (.ior, 1) := by decide +kernel
theorem dX0_spreadWords_71 : decode cX0_spreadWords 71 = .ok (.ixor, 1) := by decide +kernel
theorem dX0_spreadWords_72 : decode cX0_spreadWords 72 = .ok (.iload_n 3, 1) := by decide +kernel
theorem dX0_spreadWords_73 : decode cX0_spreadWords 73 = .ok (.bipush 10, 2) := by decide +kernel
theorem dX0_spreadWords_75 : decode cX0_spreadWords 75 = .ok (.iushr, 1) := by decide +kernel
theorem dX0_spreadWords_76 : decode cX0_spreadWords 76 = .ok (.ixor, 1) := by decide +kernel
theorem dX0_spreadWords_77 : decode cX0_spreadWords 77 = .ok (.istore 5, 2) := by decide +kernel
theorem dX0_spreadWords_79 : decode cX0_spreadWords 79 = .ok (.aload_n 0, 1) := by decide +kernel
theorem dX0_spreadWords_80 : decode cX0_spreadWords 80 = .ok (.getfield 15, 3) := by decide +kernel
theorem dX0_spreadWords_83 : decode cX0_spreadWords 83 = .ok (.iload_n 1, 1) := by decide +kernel
theorem dX0_spreadWords_84 : decode cX0_spreadWords 84 = .ok (.aload_n 0, 1) := by decide +kernel
theorem dX0_spreadWords_85 : decode cX0_spreadWords 85 = .ok (.getfield 15, 3) := by decide +kernel
theorem dX0_spreadWords_88 : decode cX0_spreadWords 88 = .ok (.iload_n 1, 1) := by decide +kernel
theorem dX0_spreadWords_89 : decode cX0_spreadWords 89 = .ok (.bipush 16, 2) := by decide +kernel
theorem dX0_spreadWords_91 : decode cX0_spreadWords 91 = .ok (.isub, 1) := by decide +kernel
theorem dX0_spreadWords_92 : decode cX0_spreadWords 92 = .ok (.iaload, 1) := by decide +kernel
theorem dX0_spreadWords_93 : decode cX0_spreadWords 93 = .ok (.iload 4, 2) := by decide +kernel
theorem dX0_spreadWords_95 : decode cX0_spreadWords 95 = .ok (.iadd, 1) := by decide +kernel
theorem dX0_spreadWords_96 : decode cX0_spreadWords 96 = .ok (.aload_n 0, 1) := by decide +kernel
theorem dX0_spreadWords_97 : decode cX0_spreadWords 97 = .ok (.getfield 15, 3) := by decide +kernel
theorem dX0_spreadWords_100 : decode cX0_spreadWords 100 = .ok (.iload_n 1, 1) := by decide +kernel
theorem dX0_spreadWords_101 : decode cX0_spreadWords 101 = .ok (.bipush 7, 2) := by decide +kernel
theorem dX0_spreadWords_103 : decode cX0_spreadWords 103 = .ok (.isub, 1) := by decide +kernel
theorem dX0_spreadWords_104 : decode cX0_spreadWords 104 = .ok (.iaload, 1) := by decide +kernel
theorem dX0_spreadWords_105 : decode cX0_spreadWords 105 = .ok (.iadd, 1) := by decide +kernel
theorem dX0_spreadWords_106 : decode cX0_spreadWords 106 = .ok (.iload 5, 2) := by decide +kernel
theorem dX0_spreadWords_108 : decode cX0_spreadWords 108 = .ok (.iadd, 1) := by decide +kernel
theorem dX0_spreadWords_109 : decode cX0_spreadWords 109 = .ok (.iastore, 1) := by decide +kernel
theorem dX0_spreadWords_110 : decode cX0_spreadWords 110 = .ok (.iinc 1 1, 3) := by decide +kernel
theorem dX0_spreadWords_113 : decode cX0_spreadWords 113 = .ok (.goto (-110), 3) := by decide +kernel
theorem dX0_spreadWords_116 : decode cX0_spreadWords 116 = .ok (.return_, 1) := by decide +kernel
theorem dX0_mixBlock_0 : decode cX0_mixBlock 0 = .ok (.aload_n 0, 1) := by decide +kernel
theorem dX0_mixBlock_1 : decode cX0_mixBlock 1 = .ok (.getfield 9, 3) := by decide +kernel
theorem dX0_mixBlock_4 : decode cX0_mixBlock 4 = .ok (.iconst 0, 1) := by decide +kernel
theorem dX0_mixBlock_5 : decode cX0_mixBlock 5 = .ok (.iaload, 1) := by decide +kernel
theorem dX0_mixBlock_6 : decode cX0_mixBlock 6 = .ok (.istore_n 1, 1) := by decide +kernel
theorem dX0_mixBlock_7 : decode cX0_mixBlock 7 = .ok (.aload_n 0, 1) := by decide +kernel
theorem dX0_mixBlock_8 : decode cX0_mixBlock 8 = .ok (.getfield 9, 3) := by decide +kernel
theorem dX0_mixBlock_11 : decode cX0_mixBlock 11 = .ok (.iconst 1, 1) := by decide +kernel
theorem dX0_mixBlock_12 : decode cX0_mixBlock 12 = .ok (.iaload, 1) := by decide +kernel
theorem dX0_mixBlock_13 : decode cX0_mixBlock 13 = .ok (.istore_n 2, 1) := by decide +kernel
theorem dX0_mixBlock_14 : decode cX0_mixBlock 14 = .ok (.aload_n 0, 1) := by decide +kernel
theorem dX0_mixBlock_15 : decode cX0_mixBlock 15 = .ok (.getfield 9, 3) := by decide +kernel
theorem dX0_mixBlock_18 : decode cX0_mixBlock 18 = .ok (.iconst 2, 1) := by decide +kernel
theorem dX0_mixBlock_19 : decode cX0_mixBlock 19 = .ok (.iaload, 1) := by decide +kernel
theorem dX0_mixBlock_20 : decode cX0_mixBlock 20 = .ok (.istore_n 3, 1) := by decide +kernel
theorem dX0_mixBlock_21 : decode cX0_mixBlock 21 = .ok (.aload_n 0, 1) := by decide +kernel
theorem dX0_mixBlock_22 : decode cX0_mixBlock 22 = .ok (.getfield 9, 3) := by decide +kernel
theorem dX0_mixBlock_25 : decode cX0_mixBlock 25 = .ok (.iconst 3, 1) := by decide +kernel
theorem dX0_mixBlock_26 : decode cX0_mixBlock 26 = .ok (.iaload, 1) := by decide +kernel
theorem dX0_mixBlock_27 : decode cX0_mixBlock 27 = .ok (.istore 4, 2) := by decide +kernel
theorem dX0_mixBlock_29 : decode cX0_mixBlock 29 = .ok (.aload_n 0, 1) := by decide +kernel
theorem dX0_mixBlock_30 : decode cX0_mixBlock 30 = .ok (.getfield 9, 3) := by decide +kernel
theorem dX0_mixBlock_33 : decode cX0_mixBlock 33 = .ok (.iconst 4, 1) := by decide +kernel
theorem dX0_mixBlock_34 : decode cX0_mixBlock 34 = .ok (.iaload, 1) := by decide +kernel
theorem dX0_mixBlock_35 : decode cX0_mixBlock 35 = .ok (.istore 5, 2) := by decide +kernel
theorem dX0_mixBlock_37 : decode cX0_mixBlock 37 = .ok (.aload_n 0, 1) := by decide +kernel
theorem dX0_mixBlock_38 : decode cX0_mixBlock 38 = .ok (.getfield 9, 3) := by decide +kernel
theorem dX0_mixBlock_41 : decode cX0_mixBlock 41 = .ok (.iconst 5, 1) := by decide +kernel
theorem dX0_mixBlock_42 : decode cX0_mixBlock 42 = .ok (.iaload, 1) := by decide +kernel
theorem dX0_mixBlock_43 : decode cX0_mixBlock 43 = .ok (.istore 6, 2) := by decide +kernel
theorem dX0_mixBlock_45 : decode cX0_mixBlock 45 = .ok (.aload_n 0, 1) := by decide +kernel
theorem dX0_mixBlock_46 : decode cX0_mixBlock 46 = .ok (.getfield 9, 3) := by decide +kernel
theorem dX0_mixBlock_49 : decode cX0_mixBlock 49 = .ok (.bipush 6, 2) := by decide +kernel
theorem dX0_mixBlock_51 : decode cX0_mixBlock 51 = .ok (.iaload, 1) := by decide +kernel
theorem dX0_mixBlock_52 : decode cX0_mixBlock 52 = .ok (.istore 7, 2) := by decide +kernel
theorem dX0_mixBlock_54 : decode cX0_mixBlock 54 = .ok (.aload_n 0, 1) := by decide +kernel
theorem dX0_mixBlock_55 : decode cX0_mixBlock 55 = .ok (.getfield 9, 3) := by decide +kernel
theorem dX0_mixBlock_58 : decode cX0_mixBlock 58 = .ok (.bipush 7, 2) := by decide +kernel
theorem dX0_mixBlock_60 : decode cX0_mixBlock 60 = .ok (.iaload, 1) := by decide +kernel
theorem dX0_mixBlock_61 : decode cX0_mixBlock 61 = .ok (.istore 8, 2) := by decide +kernel
theorem dX0_mixBlock_63 : decode cX0_mixBlock 63 = .ok (.iconst 0, 1) := by decide +kernel
theorem dX0_mixBlock_64 : decode cX0_mixBlock 64 = .ok (.istore 9, 2) := by decide +kernel
theorem dX0_mixBlock_66 : decode cX0_mixBlock 66 = .ok (.iload 9, 2) := by decide +kernel
theorem dX0_mixBlock_68 : decode cX0_mixBlock 68 = .ok (.bipush 64, 2) := by decide +kernel
theorem dX0_mixBlock_70 : decode cX0_mixBlock 70 = .ok (.if_icmp .ge 160, 3) := by decide +kernel
theorem dX0_mixBlock_73 : decode cX0_mixBlock 73 = .ok (.iload 5, 2) := by decide +kernel
theorem dX0_mixBlock_75 : decode cX0_mixBlock 75 = .ok (.bipush 6, 2) := by decide +kernel
theorem dX0_mixBlock_77 : decode cX0_mixBlock 77 = .ok (.iushr, 1) := by decide +kernel
theorem dX0_mixBlock_78 : decode cX0_mixBlock 78 = .ok (.iload 5, 2) := by decide +kernel
theorem dX0_mixBlock_80 : decode cX0_mixBlock 80 = .ok (.bipush 26, 2) := by decide +kernel
theorem dX0_mixBlock_82 : decode cX0_mixBlock 82 = .ok (.ishl, 1) := by decide +kernel
theorem dX0_mixBlock_83 : decode cX0_mixBlock 83 = .ok (.ior, 1) := by decide +kernel
theorem dX0_mixBlock_84 : decode cX0_mixBlock 84 = .ok (.iload 5, 2) := by decide +kernel
theorem dX0_mixBlock_86 : decode cX0_mixBlock 86 = .ok (.bipush 11, 2) := by decide +kernel
theorem dX0_mixBlock_88 : decode cX0_mixBlock 88 = .ok (.iushr, 1) := by decide +kernel
theorem dX0_mixBlock_89 : decode cX0_mixBlock 89 = .ok (.iload 5, 2) := by decide +kernel
theorem dX0_mixBlock_91 : decode cX0_mixBlock 91 = .ok (.bipush 21, 2) := by decide +kernel
theorem dX0_mixBlock_93 : decode cX0_mixBlock 93 = .ok (.ishl, 1) := by decide +kernel
theorem dX0_mixBlock_94 : decode cX0_mixBlock 94 = .ok (.ior, 1) := by decide +kernel
theorem dX0_mixBlock_95 : decode cX0_mixBlock 95 = .ok (.ixor, 1) := by decide +kernel
theorem dX0_mixBlock_96 : decode cX0_mixBlock 96 = .ok (.iload 5, 2) := by decide +kernel
theorem dX0_mixBlock_98 : decode cX0_mixBlock 98 = .ok (.bipush 25, 2) := by decide +kernel
theorem dX0_mixBlock_100 : decode cX0_mixBlock 100 = .ok (.iushr, 1) := by decide +kernel
theorem dX0_mixBlock_101 : decode cX0_mixBlock 101 = .ok (.iload 5, 2) := by decide +kernel
theorem dX0_mixBlock_103 : decode cX0_mixBlock 103 = .ok (.bipush 7, 2) := by decide +kernel
theorem dX0_mixBlock_105 : decode cX0_mixBlock 105 = .ok (.ishl, 1) := by decide +kernel
theorem dX0_mixBlock_106 : decode cX0_mixBlock 106 = .ok (.ior, 1) := by decide +kernel
theorem dX0_mixBlock_107 : decode cX0_mixBlock 107 = .ok (.ixor, 1) := by decide +kernel
theorem dX0_mixBlock_108 : decode cX0_mixBlock 108 = .ok (.istore 10, 2) := by decide +kernel
theorem dX0_mixBlock_110 : decode cX0_mixBlock 110 = .ok (.iload_n 1, 1) := by decide +kernel
theorem dX0_mixBlock_111 : decode cX0_mixBlock 111 = .ok (.iconst 2, 1) := by decide +kernel
theorem dX0_mixBlock_112 : decode cX0_mixBlock 112 = .ok (.iushr, 1) := by decide +kernel
theorem dX0_mixBlock_113 : decode cX0_mixBlock 113 = .ok (.iload_n 1, 1) := by decide +kernel
theorem dX0_mixBlock_114 : decode cX0_mixBlock 114 = .ok (.bipush 30, 2) := by decide +kernel
theorem dX0_mixBlock_116 : decode cX0_mixBlock 116 = .ok (.ishl, 1) := by decide +kernel
theorem dX0_mixBlock_117 : decode cX0_mixBlock 117 = .ok (.ior, 1) := by decide +kernel
theorem dX0_mixBlock_118 : decode cX0_mixBlock 118 = .ok (.iload_n 1, 1) := by decide +kernel
theorem dX0_mixBlock_119 : decode cX0_mixBlock 119 = .ok (.bipush 13, 2) := by decide +kernel
theorem dX0_mixBlock_121 : decode cX0_mixBlock 121 = .ok (.iushr, 1) := by decide +kernel
theorem dX0_mixBlock_122 : decode cX0_mixBlock 122 = .ok (.iload_n 1, 1) := by decide +kernel
theorem dX0_mixBlock_123 : decode cX0_mixBlock 123 = .ok (.bipush 19, 2) := by decide +kernel
theorem dX0_mixBlock_125 : decode cX0_mixBlock 125 = .ok (.ishl, 1) := by decide +kernel
theorem dX0_mixBlock_126 : decode cX0_mixBlock 126 = .ok (.ior, 1) := by decide +kernel
theorem dX0_mixBlock_127 : decode cX0_mixBlock 127 = .ok (.ixor, 1) := by decide +kernel
theorem dX0_mixBlock_128 : decode cX0_mixBlock 128 = .ok (.iload_n 1, 1) := by decide +kernel
theorem dX0_mixBlock_129 : decode cX0_mixBlock 129 = .ok (.bipush 22, 2) := by decide +kernel
theorem dX0_mixBlock_131 : decode cX0_mixBlock 131 = .ok (.iushr, 1) := by decide +kernel
theorem dX0_mixBlock_132 : decode cX0_mixBlock 132 = .ok (.iload_n 1, 1) := by decide +kernel
theorem dX0_mixBlock_133 : decode cX0_mixBlock 133 = .ok (.bipush 10, 2) := by decide +kernel
theorem dX0_mixBlock_135 : decode cX0_mixBlock 135 = .ok (.ishl, 1) := by decide +kernel
theorem dX0_mixBlock_136 : decode cX0_mixBlock 136 = .ok (.ior, 1) := by decide +kernel
theorem dX0_mixBlock_137 : decode cX0_mixBlock 137 = .ok (.ixor, 1) := by decide +kernel
theorem dX0_mixBlock_138 : decode cX0_mixBlock 138 = .ok (.istore 11, 2) := by decide +kernel
theorem dX0_mixBlock_140 : decode cX0_mixBlock 140 = .ok (.iload 8, 2) := by decide +kernel
theorem dX0_mixBlock_142 : decode cX0_mixBlock 142 = .ok (.iload 10, 2) := by decide +kernel
theorem dX0_mixBlock_144 : decode cX0_mixBlock 144 = .ok (.iadd, 1) := by decide +kernel
theorem dX0_mixBlock_145 : decode cX0_mixBlock 145 = .ok (.iload 5, 2) := by decide +kernel
theorem dX0_mixBlock_147 : decode cX0_mixBlock 147 = .ok (.iload 6, 2) := by decide +kernel
theorem dX0_mixBlock_149 : decode cX0_mixBlock 149 = .ok (.iand, 1) := by decide +kernel
theorem dX0_mixBlock_150 : decode cX0_mixBlock 150 = .ok (.iload 5, 2) := by decide +kernel
theorem dX0_mixBlock_152 : decode cX0_mixBlock 152 = .ok (.iconst (-1), 1) := by decide +kernel
theorem dX0_mixBlock_153 : decode cX0_mixBlock 153 = .ok (.ixor, 1) := by decide +kernel
theorem dX0_mixBlock_154 : decode cX0_mixBlock 154 = .ok (.iload 7, 2) := by decide +kernel
theorem dX0_mixBlock_156 : decode cX0_mixBlock 156 = .ok (.iand, 1) := by decide +kernel
theorem dX0_mixBlock_157 : decode cX0_mixBlock 157 = .ok (.ixor, 1) := by decide +kernel
theorem dX0_mixBlock_158 : decode cX0_mixBlock 158 = .ok (.iadd, 1) := by decide +kernel
theorem dX0_mixBlock_159 : decode cX0_mixBlock 159 = .ok (.getstatic 47, 3) := by decide +kernel
theorem dX0_mixBlock_162 : decode cX0_mixBlock 162 = .ok (.iload 9, 2) := by decide +kernel
theorem dX0_mixBlock_164 : decode cX0_mixBlock 164 = .ok (.iaload, 1) := by decide +kernel
theorem dX0_mixBlock_165 : decode cX0_mixBlock 165 = .ok (.iadd, 1) := by decide +kernel
theorem dX0_mixBlock_166 : decode cX0_mixBlock 166 = .ok (.aload_n 0, 1) := by decide +kernel
theorem dX0_mixBlock_167 : decode cX0_mixBlock 167 = .ok (.getfield 15, 3) := by decide +kernel
theorem dX0_mixBlock_170 : decode cX0_mixBlock 170 = .ok (.iload 9, 2) := by decide +kernel
theorem dX0_mixBlock_172 : decode cX0_mixBlock 172 = .ok (.iaload, 1) := by decide +kernel
theorem dX0_mixBlock_173 : decode cX0_mixBlock 173 = .ok (.iadd, 1) := by decide +kernel
theorem dX0_mixBlock_174 : decode cX0_mixBlock 174 = .ok (.istore 12, 2) := by decide +kernel
theorem dX0_mixBlock_176 : decode cX0_mixBlock 176 = .ok (.iload 11, 2) := by decide +kernel
theorem dX0_mixBlock_178 : decode cX0_mixBlock 178 = .ok (.iload_n 1, 1) := by decide +kernel
theorem dX0_mixBlock_179 : decode cX0_mixBlock 179 = .ok (.iload_n 2, 1) := by decide +kernel
theorem dX0_mixBlock_180 : decode cX0_mixBlock 180 = .ok (.iand, 1) := by decide +kernel
theorem dX0_mixBlock_181 : decode cX0_mixBlock 181 = .ok (.iload_n 1, 1) := by decide +kernel
theorem dX0_mixBlock_182 : decode cX0_mixBlock 182 = .ok (.iload_n 3, 1) := by decide +kernel
theorem dX0_mixBlock_183 : decode cX0_mixBlock 183 = .ok (.iand, 1) := by decide +kernel
theorem dX0_mixBlock_184 : decode cX0_mixBlock 184 = .ok (.ixor, 1) := by decide +kernel
theorem dX0_mixBlock_185 : decode cX0_mixBlock 185 = .ok (.iload_n 2, 1) := by decide +kernel
theorem dX0_mixBlock_186 : decode cX0_mixBlock 186 = .ok (.iload_n 3, 1) := by decide +kernel
theorem dX0_mixBlock_187 : decode cX0_mixBlock 187 = .ok (.iand, 1) := by decide +kernel
theorem dX0_mixBlock_188 : decode cX0_mixBlock 188 = .ok (.ixor, 1) := by decide +kernel
theorem dX0_mixBlock_189 : decode cX0_mixBlock 189 = .ok (.iadd, 1) := by decide +kernel
theorem dX0_mixBlock_190 : decode cX0_mixBlock 190 = .ok (.istore 13, 2) := by decide +kernel
theorem dX0_mixBlock_192 : decode cX0_mixBlock 192 = .ok (.iload 7, 2) := by decide +kernel
theorem dX0_mixBlock_194 : decode cX0_mixBlock 194 = .ok (.istore 8, 2) := by decide +kernel
theorem dX0_mixBlock_196 : decode cX0_mixBlock 196 = .ok (.iload 6, 2) := by decide +kernel
theorem dX0_mixBlock_198 : decode cX0_mixBlock 198 = .ok (.istore 7, 2) := by decide +kernel
theorem dX0_mixBlock_200 : decode cX0_mixBlock 200 = .ok (.iload 5, 2) := by decide +kernel
theorem dX0_mixBlock_202 : decode cX0_mixBlock 202 = .ok (.istore 6, 2) := by decide +kernel
theorem dX0_mixBlock_204 : decode cX0_mixBlock 204 = .ok (.iload 4, 2) := by decide +kernel
theorem dX0_mixBlock_206 : decode cX0_mixBlock 206 = .ok (.iload 12, 2) := by decide +kernel
theorem dX0_mixBlock_208 : decode cX0_mixBlock 208 = .ok (.iadd, 1) := by decide +kernel
theorem dX0_mixBlock_209 : decode cX0_mixBlock 209 = .ok (.istore 5, 2) := by decide +kernel
theorem dX0_mixBlock_211 : decode cX0_mixBlock 211 = .ok (.iload_n 3, 1) := by decide +kernel
theorem dX0_mixBlock_212 : decode cX0_mixBlock 212 = .ok (.istore 4, 2) := by decide +kernel
theorem dX0_mixBlock_214 : decode cX0_mixBlock 214 = .ok (.iload_n 2, 1) := by decide +kernel
theorem dX0_mixBlock_215 : decode cX0_mixBlock 215 = .ok (.istore_n 3, 1) := by decide +kernel
theorem dX0_mixBlock_216 : decode cX0_mixBlock 216 = .ok (.iload_n 1, 1) := by decide +kernel
theorem dX0_mixBlock_217 : decode cX0_mixBlock 217 = .ok (.istore_n 2, 1) := by decide +kernel
theorem dX0_mixBlock_218 : decode cX0_mixBlock 218 = .ok (.iload 12, 2) := by decide +kernel
theorem dX0_mixBlock_220 : decode cX0_mixBlock 220 = .ok (.iload 13, 2) := by decide +kernel
theorem dX0_mixBlock_222 : decode cX0_mixBlock 222 = .ok (.iadd, 1) := by decide +kernel
theorem dX0_mixBlock_223 : decode cX0_mixBlock 223 = .ok (.istore_n 1, 1) := by decide +kernel
theorem dX0_mixBlock_224 : decode cX0_mixBlock 224 = .ok (.iinc 9 1, 3) := by decide +kernel
theorem dX0_mixBlock_227 : decode cX0_mixBlock 227 = .ok (.goto (-161), 3) := by decide +kernel
theorem dX0_mixBlock_230 : decode cX0_mixBlock 230 = .ok (.aload_n 0, 1) := by decide +kernel
theorem dX0_mixBlock_231 : decode cX0_mixBlock 231 = .ok (.getfield 9, 3) := by decide +kernel
theorem dX0_mixBlock_234 : decode cX0_mixBlock 234 = .ok (.iconst 0, 1) := by decide +kernel
theorem dX0_mixBlock_235 : decode cX0_mixBlock 235 = .ok (.dup2, 1) := by decide +kernel
theorem dX0_mixBlock_236 : decode cX0_mixBlock 236 = .ok (.iaload, 1) := by decide +kernel
theorem dX0_mixBlock_237 : decode cX0_mixBlock 237 = .ok (.iload_n 1, 1) := by decide +kernel
theorem dX0_mixBlock_238 : decode cX0_mixBlock 238 = .ok (.iadd, 1) := by decide +kernel
theorem dX0_mixBlock_239 : decode cX0_mixBlock 239 = .ok (.iastore, 1) := by decide +kernel
theorem dX0_mixBlock_240 : decode cX0_mixBlock 240 = .ok (.aload_n 0, 1) := by decide +kernel
theorem dX0_mixBlock_241 : decode cX0_mixBlock 241 = .ok (.getfield 9, 3) := by decide +kernel
theorem dX0_mixBlock_244 : decode cX0_mixBlock 244 = .ok (.iconst 1, 1) := by decide +kernel
theorem dX0_mixBlock_245 : decode cX0_mixBlock 245 = .ok (.dup2, 1) := by decide +kernel
theorem dX0_mixBlock_246 : decode cX0_mixBlock 246 = .ok (.iaload, 1) := by decide +kernel
theorem dX0_mixBlock_247 : decode cX0_mixBlock 247 = .ok (.iload_n 2, 1) := by decide +kernel
theorem dX0_mixBlock_248 : decode cX0_mixBlock 248 = .ok (.iadd, 1) := by decide +kernel
theorem dX0_mixBlock_249 : decode cX0_mixBlock 249 = .ok (.iastore, 1) := by decide +kernel
theorem dX0_mixBlock_250 : decode cX0_mixBlock 250 = .ok (.aload_n 0, 1) := by decide +kernel
theorem dX0_mixBlock_251 : decode cX0_mixBlock 251 = .ok (.getfield 9, 3) := by decide +kernel
theorem dX0_mixBlock_254 : decode cX0_mixBlock 254 = .ok (.iconst 2, 1) := by decide +kernel
theorem dX0_mixBlock_255 : decode cX0_mixBlock 255 = .ok (.dup2, 1) := by decide +kernel
theorem dX0_mixBlock_256 : decode cX0_mixBlock 256 = .ok (.iaload, 1) := by decide +kernel
theorem dX0_mixBlock_257 : decode cX0_mixBlock 257 = .ok (.iload_n 3, 1) := by decide +kernel
theorem dX0_mixBlock_258 : decode cX0_mixBlock 258 = .ok (.iadd, 1) := by decide +kernel
theorem dX0_mixBlock_259 : decode cX0_mixBlock 259 = .ok (.iastore, 1) := by decide +kernel
theorem dX0_mixBlock_260 : decode cX0_mixBlock 260 = .ok (.aload_n 0, 1) := by decide +kernel
theorem dX0_mixBlock_261 : decode cX0_mixBlock 261 = .ok (.getfield 9, 3) := by decide +kernel
theorem dX0_mixBlock_264 : decode cX0_mixBlock 264 = .ok (.iconst 3, 1) := by decide +kernel
theorem dX0_mixBlock_265 : decode cX0_mixBlock 265 = .ok (.dup2, 1) := by decide +kernel
theorem dX0_mixBlock_266 : decode cX0_mixBlock 266 = .ok (.iaload, 1) := by decide +kernel
theorem dX0_mixBlock_267 : decode cX0_mixBlock 267 = .ok (.iload 4, 2) := by decide +kernel
theorem dX0_mixBlock_269 : decode cX0_mixBlock 269 = .ok (.iadd, 1) := by decide +kernel
theorem dX0_mixBlock_270 : decode cX0_mixBlock 270 = .ok (.iastore, 1) := by decide +kernel
theorem dX0_mixBlock_271 : decode cX0_mixBlock 271 = .ok (.aload_n 0, 1) := by decide +kernel
theorem dX0_mixBlock_272 : decode cX0_mixBlock 272 = .ok (.getfield 9, 3) := by decide +kernel
theorem dX0_mixBlock_275 : decode cX0_mixBlock 275 = .ok (.iconst 4, 1) := by decide +kernel
theorem dX0_mixBlock_276 : decode cX0_mixBlock 276 = .ok (.dup2, 1) := by decide +kernel
theorem dX0_mixBlock_277 : decode cX0_mixBlock 277 = .ok (.iaload, 1) := by decide +kernel
theorem dX0_mixBlock_278 : decode cX0_mixBlock 278 = .ok (.iload 5, 2) := by decide +kernel
theorem dX0_mixBlock_280 : decode cX0_mixBlock 280 = .ok (.iadd, 1) := by decide +kernel
theorem dX0_mixBlock_281 : decode cX0_mixBlock 281 = .ok (.iastore, 1) := by decide +kernel
theorem dX0_mixBlock_282 : decode cX0_mixBlock 282 = .ok (.aload_n 0, 1) := by decide +kernel
theorem dX0_mixBlock_283 : decode cX0_mixBlock 283 = .ok (.getfield 9, 3) := by decide +kernel
theorem dX0_mixBlock_286 : decode cX0_mixBlock 286 = .ok (.iconst 5, 1) := by decide +kernel
theorem dX0_mixBlock_287 : decode cX0_mixBlock 287 = .ok (.dup2, 1) := by decide +kernel
theorem dX0_mixBlock_288 : decode cX0_mixBlock 288 = .ok (.iaload, 1) := by decide +kernel
theorem dX0_mixBlock_289 : decode cX0_mixBlock 289 = .ok (.iload 6, 2) := by decide +kernel
theorem dX0_mixBlock_291 : decode cX0_mixBlock 291 = .ok (.iadd, 1) := by decide +kernel
theorem dX0_mixBlock_292 : decode cX0_mixBlock 292 = .ok (.iastore, 1) := by decide +kernel
theorem dX0_mixBlock_293 : decode cX0_mixBlock 293 = .ok (.aload_n 0, 1) := by decide +kernel
theorem dX0_mixBlock_294 : decode cX0_mixBlock 294 = .ok (.getfield 9, 3) := by decide +kernel
theorem dX0_mixBlock_297 : decode cX0_mixBlock 297 = .ok (.bipush 6, 2) := by decide +kernel
theorem dX0_mixBlock_299 : decode cX0_mixBlock 299 = .ok (.dup2, 1) := by decide +kernel
theorem dX0_mixBlock_300 : decode cX0_mixBlock 300 = .ok (.iaload, 1) := by decide +kernel
theorem dX0_mixBlock_301 : decode cX0_mixBlock 301 = .ok (.iload 7, 2) := by decide +kernel
theorem dX0_mixBlock_303 : decode cX0_mixBlock 303 = .ok (.iadd, 1) := by decide +kernel
theorem dX0_mixBlock_304 : decode cX0_mixBlock 304 = .ok (.iastore, 1) := by decide +kernel
theorem dX0_mixBlock_305 : decode cX0_mixBlock 305 = .ok (.aload_n 0, 1) := by decide +kernel
theorem dX0_mixBlock_306 : decode cX0_mixBlock 306 = .ok (.getfield 9, 3) := by decide +kernel
theorem dX0_mixBlock_309 : decode cX0_mixBlock 309 = .ok (.bipush 7, 2) := by decide +kernel
theorem dX0_mixBlock_311 : decode cX0_mixBlock 311 = .ok (.dup2, 1) := by decide +kernel
theorem dX0_mixBlock_312 : decode cX0_mixBlock 312 = .ok (.iaload, 1) := by decide +kernel
theorem dX0_mixBlock_313 : decode cX0_mixBlock 313 = .ok (.iload 8, 2) := by decide +kernel
theorem dX0_mixBlock_315 : decode cX0_mixBlock 315 = .ok (.iadd, 1) := by decide +kernel
theorem dX0_mixBlock_316 : decode cX0_mixBlock 316 = .ok (.iastore, 1) := by decide +kernel
theorem dX0_mixBlock_317 : decode cX0_mixBlock 317 = .ok (.return_, 1) := by decide +kernel
theorem dX1_init_0 : decode cX1_init 0 = .ok (.aload_n 0, 1) := by decide +kernel
theorem dX1_init_1 : decode cX1_init 1 = .ok (.invokespecial 3, 3) := by decide +kernel
theorem dX1_init_4 : decode cX1_init 4 = .ok (.aload_n 0, 1) := by decide +kernel
theorem dX1_init_5 : decode cX1_init 5 = .ok (.iload_n 1, 1) := by decide +kernel
theorem dX1_init_6 : decode cX1_init 6 = .ok (.putfield 9, 3) := by decide +kernel
theorem dX1_init_9 : decode cX1_init 9 = .ok (.aload_n 0, 1) := by decide +kernel
theorem dX1_init_10 : decode cX1_init 10 = .ok (.bipush 7, 2) := by decide +kernel
theorem dX1_init_12 : decode cX1_init 12 = .ok (.newarray .int, 2) := by decide +kernel
theorem dX1_init_14 : decode cX1_init 14 = .ok (.putfield 15, 3) := by decide +kernel
theorem dX1_init_17 : decode cX1_init 17 = .ok (.aload_n 0, 1) := by decide +kernel
theorem dX1_init_18 : decode cX1_init 18 = .ok (.bipush 7, 2) := by decide +kernel
theorem dX1_init_20 : decode cX1_init 20 = .ok (.newarray .int, 2) := by decide +kernel
theorem dX1_init_22 : decode cX1_init 22 = .ok (.putfield 19, 3) := by decide +kernel
theorem dX1_init_25 : decode cX1_init 25 = .ok (.iload_n 1, 1) := by decide +kernel
theorem dX1_init_26 : decode cX1_init 26 = .ok (.istore_n 2, 1) := by decide +kernel
theorem dX1_init_27 : decode cX1_init 27 = .ok (.iconst 0, 1) := by decide +kernel
theorem dX1_init_28 : decode cX1_init 28 = .ok (.istore_n 3, 1) := by decide +kernel
theorem dX1_init_29 : decode cX1_init 29 = .ok (.iconst 0, 1) := by decide +kernel
theorem dX1_init_30 : decode cX1_init 30 = .ok (.istore 4, 2) := by decide +kernel
theorem dX1_init_32 : decode cX1_init 32 = .ok (.iconst 0, 1) := by decide +kernel
theorem dX1_init_33 : decode cX1_init 33 = .ok (.istore 5, 2) := by decide +kernel
theorem dX1_init_35 : decode cX1_init 35 = .ok (.iload 4, 2) := by decide +kernel
theorem dX1_init_37 : decode cX1_init 37 = .ok (.bipush 7, 2) := by decide +kernel
theorem dX1_init_39 : decode cX1_init 39 = .ok (.if_icmp .ge 52, 3) := by decide +kernel
theorem dX1_init_42 : decode cX1_init 42 = .ok (.iload 5, 2) := by decide +kernel
theorem dX1_init_44 : decode cX1_init 44 = .ok (.ifCond .ne 47, 3) := by decide +kernel
theorem dX1_init_47 : decode cX1_init 47 = .ok (.aload_n 0, 1) := by decide +kernel
theorem dX1_init_48 : decode cX1_init 48 = .ok (.getfield 15, 3) := by decide +kernel
theorem dX1_init_51 : decode cX1_init 51 = .ok (.iload 4, 2) := by decide +kernel
theorem dX1_init_53 : decode cX1_init 53 = .ok (.iload_n 2, 1) := by decide +kernel
theorem dX1_init_54 : decode cX1_init 54 = .ok (.iastore, 1) := by decide +kernel
theorem dX1_init_55 : decode cX1_init 55 = .ok (.aload_n 0, 1) := by decide +kernel
theorem dX1_init_56 : decode cX1_init 56 = .ok (.getfield 19, 3) := by decide +kernel
theorem dX1_init_59 : decode cX1_init 59 = .ok (.iload 4, 2) := by decide +kernel
theorem dX1_init_61 : decode cX1_init 61 = .ok (.iload_n 3, 1) := by decide +kernel
theorem dX1_init_62 : decode cX1_init 62 = .ok (.iastore, 1) := by decide +kernel
theorem dX1_init_63 : decode cX1_init 63 = .ok (.iload_n 3, 1) := by decide +kernel
theorem dX1_init_64 : decode cX1_init 64 = .ok (.iload_n 2, 1) := by decide +kernel
theorem dX1_init_65 : decode cX1_init 65 = .ok (.iadd, 1) := by decide +kernel
theorem dX1_init_66 : decode cX1_init 66 = .ok (.istore_n 3, 1) := by decide +kernel
theorem dX1_init_67 : decode cX1_init 67 = .ok (.iload_n 2, 1) := by decide +kernel
theorem dX1_init_68 : decode cX1_init 68 = .ok (.iconst 1, 1) := by decide +kernel
theorem dX1_init_69 : decode cX1_init 69 = .ok (.if_icmp .ne 7, 3) := by decide +kernel
theorem dX1_init_72 : decode cX1_init 72 = .ok (.iconst 1, 1) := by decide +kernel
theorem dX1_init_73 : decode cX1_init 73 = .ok (.goto 4, 3) := by decide +kernel
theorem dX1_init_76 : decode cX1_init 76 = .ok (.iconst 0, 1) := by decide +kernel
theorem dX1_init_77 : decode cX1_init 77 = .ok (.istore 5, 2) := by decide +kernel
theorem dX1_init_79 : decode cX1_init 79 = .ok (.iload_n 2, 1) := by decide +kernel
theorem dX1_init_80 : decode cX1_init 80 = .ok (.iconst 1, 1) := by decide +kernel
theorem dX1_init_81 : decode cX1_init 81 = .ok (.iadd, 1) := by decide +kernel
theorem dX1_init_82 : decode cX1_init 82 = .ok (.iconst 2, 1) := by decide +kernel
theorem dX1_init_83 : decode cX1_init 83 = .ok (.idiv, 1) := by decide +kernel
theorem dX1_init_84 : decode cX1_init 84 = .ok (.istore_n 2, 1) := by decide +kernel
theorem dX1_init_85 : decode cX1_init 85 = .ok (.iinc 4 1, 3) := by decide +kernel
theorem dX1_init_88 : decode cX1_init 88 = .ok (.goto (-53), 3) := by decide +kernel
theorem dX1_init_91 : decode cX1_init 91 = .ok (.aload_n 0, 1) := by decide +kernel
theorem dX1_init_92 : decode cX1_init 92 = .ok (.iload 4, 2) := by decide +kernel
theorem dX1_init_94 : decode cX1_init 94 = .ok (.putfield 22, 3) := by decide +kernel
theorem dX1_init_97 : decode cX1_init 97 = .ok (.aload_n 0, 1) := by decide +kernel
theorem dX1_init_98 : decode cX1_init 98 = .ok (.iload_n 3, 1) := by decide +kernel
theorem dX1_init_99 : decode cX1_init 99 = .ok (.putfield 25, 3) := by decide +kernel
theorem dX1_init_102 : decode cX1_init 102 = .ok (.aload_n 0, 1) := by decide +kernel
theorem dX1_init_103 : decode cX1_init 103 = .ok (.bipush 8, 2) := by decide +kernel
theorem dX1_init_105 : decode cX1_init 105 = .ok (.bipush 64, 2) := by decide +kernel
theorem dX1_init_107 : decode cX1_init 107 = .ok (.iload_n 1, 1) := by decide +kernel
theorem dX1_init_108 : decode cX1_init 108 = .ok (.imul, 1) := by decide +kernel
theorem dX1_init_109 : decode cX1_init 109 = .ok (.iadd, 1) := by decide +kernel
theorem dX1_init_110 : decode cX1_init 110 = .ok (.bipush 32, 2) := by decide +kernel
theorem dX1_init_112 : decode cX1_init 112 = .ok (.iload_n 3, 1) := by decide +kernel
theorem dX1_init_113 : decode cX1_init 113 = .ok (.imul, 1) := by decide +kernel
theorem dX1_init_114 : decode cX1_init 114 = .ok (.iadd, 1) := by decide +kernel
theorem dX1_init_115 : decode cX1_init 115 = .ok (.putfield 28, 3) := by decide +kernel
theorem dX1_init_118 : decode cX1_init 118 = .ok (.return_, 1) := by decide +kernel
set_option maxRecDepth 20000 in
theorem ggX1_hasPage_X2_isBelow : GoodIn wsX1_hasPage wsX2_isBelow := goodIn_r _ [4] (by decide +kernel) (by decide +kernel)
set_option maxRecDepth 20000 in
theorem gX1_hasPage_X2_isBelow_n31 : GoodIn wsX1_hasPage (wsX2_isBelow) := ggX1_hasPage_X2_isBelow
theorem dX1_hasPage_0 : decode cX1_hasPage 0 = .ok (.iload_n 1, 1) := by decide +kernel
theorem dX1_hasPage_1 : decode cX1_hasPage 1 = .ok (.aload_n 0, 1) := by decide +kernel
theorem dX1_hasPage_2 : decode cX1_hasPage 2 = .ok (.getfield 9, 3) := by decide +kernel
theorem dX1_hasPage_5 : decode cX1_hasPage 5 = .ok (.invokestatic 31, 3) := by decide +kernel
theorem dX1_hasPage_8 : decode cX1_hasPage 8 = .ok (.ireturn, 1) := by decide +kernel
set_option maxRecDepth 20000 in
theorem ggX1_hasNode_X2_isBelow : GoodIn wsX1_hasNode wsX2_isBelow := goodIn_r _ [5] (by decide +kernel) (by decide +kernel)
set_option maxRecDepth 20000 in
theorem gX1_hasNode_X2_isBelow_n31 : GoodIn wsX1_hasNode (wsX2_isBelow) := ggX1_hasNode_X2_isBelow
theorem dX1_hasNode_0 : decode cX1_hasNode 0 = .ok (.iload_n 1, 1) := by decide +kernel
theorem dX1_hasNode_1 : decode cX1_hasNode 1 = .ok (.aload_n 0, 1) := by decide +kernel
theorem dX1_hasNode_2 : decode cX1_hasNode 2 = .ok (.getfield 22, 3) := by decide +kernel
theorem dX1_hasNode_5 : decode cX1_hasNode 5 = .ok (.invokestatic 31, 3) := by decide +kernel
theorem dX1_hasNode_8 : decode cX1_hasNode 8 = .ok (.ifCond .eq 20, 3) := by decide +kernel
theorem dX1_hasNode_11 : decode cX1_hasNode 11 = .ok (.iload_n 2, 1) := by decide +kernel
theorem dX1_hasNode_12 : decode cX1_hasNode 12 = .ok (.aload_n 0, 1) := by decide +kernel
theorem dX1_hasNode_13 : decode cX1_hasNode 13 = .ok (.getfield 15, 3) := by decide +kernel
theorem dX1_hasNode_16 : decode cX1_hasNode 16 = .ok (.iload_n 1, 1) := by decide +kernel
theorem dX1_hasNode_17 : decode cX1_hasNode 17 = .ok (.iaload, 1) := by decide +kernel
theorem dX1_hasNode_18 : decode cX1_hasNode 18 = .ok (.invokestatic 31, 3) := by decide +kernel
theorem dX1_hasNode_21 : decode cX1_hasNode 21 = .ok (.ifCond .eq 7, 3) := by decide +kernel
theorem dX1_hasNode_24 : decode cX1_hasNode 24 = .ok (.iconst 1, 1) := by decide +kernel
theorem dX1_hasNode_25 : decode cX1_hasNode 25 = .ok (.goto 4, 3) := by decide +kernel
theorem dX1_hasNode_28 : decode cX1_hasNode 28 = .ok (.iconst 0, 1) := by decide +kernel
theorem dX1_hasNode_29 : decode cX1_hasNode 29 = .ok (.ireturn, 1) := by decide +kernel
theorem dX1_placeOfPage_0 : decode cX1_placeOfPage 0 = .ok (.bipush 8, 2) := by decide +kernel
theorem dX1_placeOfPage_2 : decode cX1_placeOfPage 2 = .ok (.bipush 64, 2) := by decide +kernel
theorem dX1_placeOfPage_4 : decode cX1_placeOfPage 4 = .ok (.iload_n 1, 1) := by decide +kernel
theorem dX1_placeOfPage_5 : decode cX1_placeOfPage 5 = .ok (.imul, 1) := by decide +kernel
theorem dX1_placeOfPage_6 : decode cX1_placeOfPage 6 = .ok (.iadd, 1) := by decide +kernel
theorem dX1_placeOfPage_7 : decode cX1_placeOfPage 7 = .ok (.ireturn, 1) := by decide +kernel
theorem dX1_numberOfNode_0 : decode cX1_numberOfNode 0 = .ok (.aload_n 0, 1) := by decide +kernel
theorem dX1_numberOfNode_1 : decode cX1_numberOfNode 1 = .ok (.getfield 19, 3) := by decide +kernel
theorem dX1_numberOfNode_4 : decode cX1_numberOfNode 4 = .ok (.iload_n 1, 1) := by decide +kernel
theorem dX1_numberOfNode_5 : decode cX1_numberOfNode 5 = .ok (.iaload, 1) := by decide +kernel
theorem dX1_numberOfNode_6 : decode cX1_numberOfNode 6 = .ok (.iload_n 2, 1) := by decide +kernel
theorem dX1_numberOfNode_7 : decode cX1_numberOfNode 7 = .ok (.iadd, 1) := by decide +kernel
theorem dX1_numberOfNode_8 : decode cX1_numberOfNode 8 = .ok (.ireturn, 1) := by decide +kernel
set_option maxRecDepth 20000 in
theorem ggX1_placeOfNode_X1_numberOfNode : GoodIn wsX1_placeOfNode wsX1_numberOfNode := goodIn_r _ [6, 7, 8, 9, 10, 11, 12, 13] (by decide +kernel) (by decide +kernel)
set_option maxRecDepth 20000 in
theorem gX1_placeOfNode_X1_numberOfNode : GoodIn wsX1_placeOfNode (wsV RX1 35 RX1 yX1_numberOfNode wsX1_numberOfNode) := goodIn_app (goodIn_of _ (by decide +kernel)) ggX1_placeOfNode_X1_numberOfNode
theorem dX1_placeOfNode_0 : decode cX1_placeOfNode 0 = .ok (.bipush 8, 2) := by decide +kernel
theorem dX1_placeOfNode_2 : decode cX1_placeOfNode 2 = .ok (.bipush 64, 2) := by decide +kernel
theorem dX1_placeOfNode_4 : decode cX1_placeOfNode 4 = .ok (.aload_n 0, 1) := by decide +kernel
theorem dX1_placeOfNode_5 : decode cX1_placeOfNode 5 = .ok (.getfield 9, 3) := by decide +kernel
theorem dX1_placeOfNode_8 : decode cX1_placeOfNode 8 = .ok (.imul, 1) := by decide +kernel
theorem dX1_placeOfNode_9 : decode cX1_placeOfNode 9 = .ok (.iadd, 1) := by decide +kernel
theorem dX1_placeOfNode_10 : decode cX1_placeOfNode 10 = .ok (.bipush 32, 2) := by decide +kernel
theorem dX1_placeOfNode_12 : decode cX1_placeOfNode 12 = .ok (.aload_n 0, 1) := by decide +kernel
theorem dX1_placeOfNode_13 : decode cX1_placeOfNode 13 = .ok (.iload_n 1, 1) := by decide +kernel
theorem dX1_placeOfNode_14 : decode cX1_placeOfNode 14 = .ok (.iload_n 2, 1) := by decide +kernel
theorem dX1_placeOfNode_15 : decode cX1_placeOfNode 15 = .ok (.invokevirtual 35, 3) := by decide +kernel
theorem dX1_placeOfNode_18 : decode cX1_placeOfNode 18 = .ok (.imul, 1) := by decide +kernel
theorem dX1_placeOfNode_19 : decode cX1_placeOfNode 19 = .ok (.iadd, 1) := by decide +kernel
theorem dX1_placeOfNode_20 : decode cX1_placeOfNode 20 = .ok (.ireturn, 1) := by decide +kernel
set_option maxRecDepth 20000 in
theorem ggX2_init_X1_init : GoodIn wsX2_init wsX1_init := goodIn_r _ [30, 31, 2, 3, 32, 20, 33, 34, 35, 36, 37, 130, 131, 132, 133, 134, 135] (by decide +kernel) (by decide +kernel)
set_option maxRecDepth 20000 in
theorem gX2_init_X1_init : GoodIn wsX2_init (wsX1_init) := ggX2_init_X1_init
set_option maxRecDepth 20000 in
theorem ggX2_init_X0_init : GoodIn wsX2_init wsX0_init := goodIn_r _ [39, 40, 2, 3, 20, 41, 42, 148, 149, 150] (by decide +kernel) (by decide +kernel)
set_option maxRecDepth 20000 in
theorem gX2_init_X0_init_n29 : GoodIn wsX2_init (wsX0_init) := ggX2_init_X0_init
set_option maxRecDepth 20000 in
theorem ggX2_init_X2_sealAll : GoodIn wsX2_init wsX2_sealAll := goodIn_r _ [47, 21, 14, 48, 49, 50, 51, 52, 46, 53, 54, 55, 56, 57, 58, 18, 59, 60, 61, 62, 63, 64, 65, 17, 66, 67, 41, 68, 69, 70, 71, 72, 73, 74, 75, 76, 42, 77, 78, 79, 80, 81, 82, 83, 84, 85, 86, 87, 88, 6, 89, 90, 91, 92, 93, 94, 95, 96, 97, 98, 35, 33, 99, 100, 101, 102, 103, 104, 32, 105, 106, 107, 108, 34, 109, 110, 111, 112, 113, 114, 115, 116, 117, 118, 119, 120, 121, 122, 123, 124, 125, 22, 126, 127, 128, 129, 136, 137, 138, 139, 140, 141, 142, 143, 144, 145, 146, 147, 130, 131, 132, 133, 134, 135, 148, 149, 150] (by decide +kernel) (by decide +kernel)
set_option maxRecDepth 20000 in
theorem gX2_init_X2_sealAll : GoodIn wsX2_init (wsV RX2 60 RX2 yX2_sealAll wsX2_sealAll) := goodIn_app (goodIn_of _ (by decide +kernel)) ggX2_init_X2_sealAll
theorem dX2_init_0 : decode cX2_init 0 = .ok (.aload_n 0, 1) := by decide +kernel
theorem dX2_init_1 : decode cX2_init 1 = .ok (.invokespecial 1, 3) := by decide +kernel
theorem dX2_init_4 : decode cX2_init 4 = .ok (.aload_n 0, 1) := by decide +kernel
theorem dX2_init_5 : decode cX2_init 5 = .ok (.new 7, 3) := by decide +kernel
theorem dX2_init_8 : decode cX2_init 8 = .ok (.dup, 1) := by decide +kernel
theorem dX2_init_9 : decode cX2_init 9 = .ok (.iconst 1, 1) := by decide +kernel
theorem dX2_init_10 : decode cX2_init 10 = .ok (.bipush 64, 2) := by decide +kernel
theorem dX2_init_12 : decode cX2_init 12 = .ok (.iload_n 1, 1) := by decide +kernel
theorem dX2_init_13 : decode cX2_init 13 = .ok (.invokestatic 11, 3) := by decide +kernel
theorem dX2_init_16 : decode cX2_init 16 = .ok (.invokestatic 17, 3) := by decide +kernel
theorem dX2_init_19 : decode cX2_init 19 = .ok (.invokespecial 20, 3) := by decide +kernel
theorem dX2_init_22 : decode cX2_init 22 = .ok (.putfield 23, 3) := by decide +kernel
theorem dX2_init_25 : decode cX2_init 25 = .ok (.aload_n 0, 1) := by decide +kernel
theorem dX2_init_26 : decode cX2_init 26 = .ok (.new 27, 3) := by decide +kernel
theorem dX2_init_29 : decode cX2_init 29 = .ok (.dup, 1) := by decide +kernel
theorem dX2_init_30 : decode cX2_init 30 = .ok (.invokespecial 29, 3) := by decide +kernel
theorem dX2_init_33 : decode cX2_init 33 = .ok (.putfield 30, 3) := by decide +kernel
theorem dX2_init_36 : decode cX2_init 36 = .ok (.aload_n 0, 1) := by decide +kernel
theorem dX2_init_37 : decode cX2_init 37 = .ok (.aload_n 0, 1) := by decide +kernel
theorem dX2_init_38 : decode cX2_init 38 = .ok (.getfield 23, 3) := by decide +kernel
theorem dX2_init_41 : decode cX2_init 41 = .ok (.getfield 34, 3) := by decide +kernel
theorem dX2_init_44 : decode cX2_init 44 = .ok (.newarray .int, 2) := by decide +kernel
theorem dX2_init_46 : decode cX2_init 46 = .ok (.putfield 38, 3) := by decide +kernel
theorem dX2_init_49 : decode cX2_init 49 = .ok (.aload_n 0, 1) := by decide +kernel
theorem dX2_init_50 : decode cX2_init 50 = .ok (.bipush 32, 2) := by decide +kernel
theorem dX2_init_52 : decode cX2_init 52 = .ok (.newarray .int, 2) := by decide +kernel
theorem dX2_init_54 : decode cX2_init 54 = .ok (.putfield 42, 3) := by decide +kernel
theorem dX2_init_57 : decode cX2_init 57 = .ok (.aload_n 0, 1) := by decide +kernel
theorem dX2_init_58 : decode cX2_init 58 = .ok (.bipush 64, 2) := by decide +kernel
theorem dX2_init_60 : decode cX2_init 60 = .ok (.newarray .int, 2) := by decide +kernel
theorem dX2_init_62 : decode cX2_init 62 = .ok (.putfield 45, 3) := by decide +kernel
theorem dX2_init_65 : decode cX2_init 65 = .ok (.aload_n 0, 1) := by decide +kernel
theorem dX2_init_66 : decode cX2_init 66 = .ok (.aload_n 0, 1) := by decide +kernel
theorem dX2_init_67 : decode cX2_init 67 = .ok (.getfield 23, 3) := by decide +kernel
theorem dX2_init_70 : decode cX2_init 70 = .ok (.getfield 34, 3) := by decide +kernel
theorem dX2_init_73 : decode cX2_init 73 = .ok (.newarray .int, 2) := by decide +kernel
theorem dX2_init_75 : decode cX2_init 75 = .ok (.putfield 48, 3) := by decide +kernel
theorem dX2_init_78 : decode cX2_init 78 = .ok (.aload_n 0, 1) := by decide +kernel
theorem dX2_init_79 : decode cX2_init 79 = .ok (.bipush 32, 2) := by decide +kernel
theorem dX2_init_81 : decode cX2_init 81 = .ok (.newarray .int, 2) := by decide +kernel
theorem dX2_init_83 : decode cX2_init 83 = .ok (.putfield 51, 3) := by decide +kernel
theorem dX2_init_86 : decode cX2_init 86 = .ok (.aload_n 0, 1) := by decide +kernel
theorem dX2_init_87 : decode cX2_init 87 = .ok (.aload_n 0, 1) := by decide +kernel
theorem dX2_init_88 : decode cX2_init 88 = .ok (.getfield 23, 3) := by decide +kernel
theorem dX2_init_91 : decode cX2_init 91 = .ok (.getfield 54, 3) := by decide +kernel
theorem dX2_init_94 : decode cX2_init 94 = .ok (.newarray .int, 2) := by decide +kernel
theorem dX2_init_96 : decode cX2_init 96 = .ok (.putfield 57, 3) := by decide +kernel
theorem dX2_init_99 : decode cX2_init 99 = .ok (.aload_n 0, 1) := by decide +kernel
theorem dX2_init_100 : decode cX2_init 100 = .ok (.invokevirtual 60, 3) := by decide +kernel
theorem dX2_init_103 : decode cX2_init 103 = .ok (.return_, 1) := by decide +kernel
set_option maxRecDepth 20000 in
theorem ggX2_put_X2_isBelow : GoodIn wsX2_put wsX2_isBelow := goodIn_r _ [5] (by decide +kernel) (by decide +kernel)
set_option maxRecDepth 20000 in
theorem gX2_put_X2_isBelow : GoodIn wsX2_put (va_wsS RX2 63 yX2_isBelow wsX2_isBelow) := goodIn_app (goodIn_of _ (by decide +kernel)) ggX2_put_X2_isBelow
theorem dX2_put_0 : decode cX2_put 0 = .ok (.iload_n 1, 1) := by decide +kernel
theorem dX2_put_1 : decode cX2_put 1 = .ok (.bipush 64, 2) := by decide +kernel
theorem dX2_put_3 : decode cX2_put 3 = .ok (.invokestatic 63, 3) := by decide +kernel
theorem dX2_put_6 : decode cX2_put 6 = .ok (.ifCond .ne 5, 3) := by decide +kernel
theorem dX2_put_9 : decode cX2_put 9 = .ok (.iconst (-1), 1) := by decide +kernel
theorem dX2_put_10 : decode cX2_put 10 = .ok (.ireturn, 1) := by decide +kernel
theorem dX2_put_11 : decode cX2_put 11 = .ok (.aload_n 0, 1) := by decide +kernel
theorem dX2_put_12 : decode cX2_put 12 = .ok (.getfield 45, 3) := by decide +kernel
theorem dX2_put_15 : decode cX2_put 15 = .ok (.iload_n 1, 1) := by decide +kernel
theorem dX2_put_16 : decode cX2_put 16 = .ok (.iaload, 1) := by decide +kernel
theorem dX2_put_17 : decode cX2_put 17 = .ok (.istore_n 3, 1) := by decide +kernel
theorem dX2_put_18 : decode cX2_put 18 = .ok (.aload_n 0, 1) := by decide +kernel
theorem dX2_put_19 : decode cX2_put 19 = .ok (.getfield 45, 3) := by decide +kernel
theorem dX2_put_22 : decode cX2_put 22 = .ok (.iload_n 1, 1) := by decide +kernel
theorem dX2_put_23 : decode cX2_put 23 = .ok (.iload_n 2, 1) := by decide +kernel
theorem dX2_put_24 : decode cX2_put 24 = .ok (.sipush 255, 3) := by decide +kernel
theorem dX2_put_27 : decode cX2_put 27 = .ok (.iand, 1) := by decide +kernel
theorem dX2_put_28 : decode cX2_put 28 = .ok (.iastore, 1) := by decide +kernel
theorem dX2_put_29 : decode cX2_put 29 = .ok (.iload_n 3, 1) := by decide +kernel
theorem dX2_put_30 : decode cX2_put 30 = .ok (.ireturn, 1) := by decide +kernel
set_option maxRecDepth 20000 in
theorem ggX2_fill_X2_isBelow : GoodIn wsX2_fill wsX2_isBelow := goodIn_r _ [5] (by decide +kernel) (by decide +kernel)
set_option maxRecDepth 20000 in
theorem gX2_fill_X2_isBelow : GoodIn wsX2_fill (va_wsS RX2 63 yX2_isBelow wsX2_isBelow) := goodIn_app (goodIn_of _ (by decide +kernel)) ggX2_fill_X2_isBelow
theorem dX2_fill_0 : decode cX2_fill 0 = .ok (.iload_n 1, 1) := by decide +kernel
theorem dX2_fill_1 : decode cX2_fill 1 = .ok (.bipush 8, 2) := by decide +kernel
theorem dX2_fill_3 : decode cX2_fill 3 = .ok (.invokestatic 63, 3) := by decide +kernel
theorem dX2_fill_6 : decode cX2_fill 6 = .ok (.ifCond .ne 5, 3) := by decide +kernel
theorem dX2_fill_9 : decode cX2_fill 9 = .ok (.iconst (-1), 1) := by decide +kernel
theorem dX2_fill_10 : decode cX2_fill 10 = .ok (.ireturn, 1) := by decide +kernel
theorem dX2_fill_11 : decode cX2_fill 11 = .ok (.bipush 8, 2) := by decide +kernel
theorem dX2_fill_13 : decode cX2_fill 13 = .ok (.iload_n 1, 1) := by decide +kernel
theorem dX2_fill_14 : decode cX2_fill 14 = .ok (.imul, 1) := by decide +kernel
theorem dX2_fill_15 : decode cX2_fill 15 = .ok (.istore 4, 2) := by decide +kernel
theorem dX2_fill_17 : decode cX2_fill 17 = .ok (.iconst 0, 1) := by decide +kernel
theorem dX2_fill_18 : decode cX2_fill 18 = .ok (.istore 5, 2) := by decide +kernel
theorem dX2_fill_20 : decode cX2_fill 20 = .ok (.iload 5, 2) := by decide +kernel
theorem dX2_fill_22 : decode cX2_fill 22 = .ok (.bipush 8, 2) := by decide +kernel
theorem dX2_fill_24 : decode cX2_fill 24 = .ok (.if_icmp .ge 34, 3) := by decide +kernel
theorem dX2_fill_27 : decode cX2_fill 27 = .ok (.aload_n 0, 1) := by decide +kernel
theorem dX2_fill_28 : decode cX2_fill 28 = .ok (.getfield 45, 3) := by decide +kernel
theorem dX2_fill_31 : decode cX2_fill 31 = .ok (.iload 4, 2) := by decide +kernel
theorem dX2_fill_33 : decode cX2_fill 33 = .ok (.iload 5, 2) := by decide +kernel
theorem dX2_fill_35 : decode cX2_fill 35 = .ok (.iadd, 1) := by decide +kernel
theorem dX2_fill_36 : decode cX2_fill 36 = .ok (.lload_n 2, 1) := by decide +kernel
theorem dX2_fill_37 : decode cX2_fill 37 = .ok (.bipush 56, 2) := by decide +kernel
theorem dX2_fill_39 : decode cX2_fill 39 = .ok (.bipush 8, 2) := by decide +kernel
theorem dX2_fill_41 : decode cX2_fill 41 = .ok (.iload 5, 2) := by decide +kernel
theorem dX2_fill_43 : decode cX2_fill 43 = .ok (.imul, 1) := by decide +kernel
theorem dX2_fill_44 : decode cX2_fill 44 = .ok (.isub, 1) := by decide +kernel
theorem dX2_fill_45 : decode cX2_fill 45 = .ok (.lushr, 1) := by decide +kernel
theorem dX2_fill_46 : decode cX2_fill 46 = .ok (.l2i, 1) := by decide +kernel
theorem dX2_fill_47 : decode cX2_fill 47 = .ok (.sipush 255, 3) := by decide +kernel
theorem dX2_fill_50 : decode cX2_fill 50 = .ok (.iand, 1) := by decide +kernel
theorem dX2_fill_51 : decode cX2_fill 51 = .ok (.iastore, 1) := by decide +kernel
theorem dX2_fill_52 : decode cX2_fill 52 = .ok (.iinc 5 1, 3) := by decide +kernel
theorem dX2_fill_55 : decode cX2_fill 55 = .ok (.goto (-35), 3) := by decide +kernel
theorem dX2_fill_58 : decode cX2_fill 58 = .ok (.iload 4, 2) := by decide +kernel
theorem dX2_fill_60 : decode cX2_fill 60 = .ok (.ireturn, 1) := by decide +kernel
set_option maxRecDepth 20000 in
theorem ggX2_draft_X2_isBelow : GoodIn wsX2_draft wsX2_isBelow := goodIn_r _ [5] (by decide +kernel) (by decide +kernel)
set_option maxRecDepth 20000 in
theorem gX2_draft_X2_isBelow : GoodIn wsX2_draft (va_wsS RX2 63 yX2_isBelow wsX2_isBelow) := goodIn_app (goodIn_of _ (by decide +kernel)) ggX2_draft_X2_isBelow
theorem dX2_draft_0 : decode cX2_draft 0 = .ok (.iload_n 1, 1) := by decide +kernel
theorem dX2_draft_1 : decode cX2_draft 1 = .ok (.bipush 64, 2) := by decide +kernel
theorem dX2_draft_3 : decode cX2_draft 3 = .ok (.invokestatic 63, 3) := by decide +kernel
theorem dX2_draft_6 : decode cX2_draft 6 = .ok (.ifCond .eq 12, 3) := by decide +kernel
theorem dX2_draft_9 : decode cX2_draft 9 = .ok (.aload_n 0, 1) := by decide +kernel
theorem dX2_draft_10 : decode cX2_draft 10 = .ok (.getfield 45, 3) := by decide +kernel
theorem dX2_draft_13 : decode cX2_draft 13 = .ok (.iload_n 1, 1) := by decide +kernel
theorem dX2_draft_14 : decode cX2_draft 14 = .ok (.iaload, 1) := by decide +kernel
theorem dX2_draft_15 : decode cX2_draft 15 = .ok (.goto 4, 3) := by decide +kernel
theorem dX2_draft_18 : decode cX2_draft 18 = .ok (.iconst (-1), 1) := by decide +kernel
theorem dX2_draft_19 : decode cX2_draft 19 = .ok (.ireturn, 1) := by decide +kernel
set_option maxRecDepth 20000 in
theorem ggX2_read_X2_fault : GoodIn wsX2_read wsX2_fault := goodIn_r _ [14, 2, 15, 16, 17, 18, 19, 20, 21, 22, 13, 23, 24, 25, 26, 27, 1, 28, 29, 30, 31, 32, 33, 34, 35, 36, 37, 38, 39, 40, 41, 42, 43, 44, 45, 46, 5, 6, 7, 47, 48, 49, 50, 51, 52, 53, 54, 55, 56, 57, 58, 59, 60, 61, 62, 63, 64, 65, 66, 67, 68, 69, 70, 71, 72, 73, 74, 75, 76, 77, 78, 79, 80, 81, 82, 83, 84, 85, 86, 87, 88, 89, 90, 91, 92, 93, 94, 95, 96, 97, 98, 99, 100, 101, 102, 103, 104, 105, 106, 107, 108, 109, 110, 111, 112, 113, 114, 115, 116, 117, 118, 119, 120, 121, 122, 123, 124, 125, 126, 127] (by decide +kernel) (by decide +kernel)
set_option maxRecDepth 20000 in
theorem gX2_read_X2_fault : GoodIn wsX2_read (wsV RX2 67 RX2 yX2_fault wsX2_fault) := goodIn_app (goodIn_of _ (by decide +kernel)) ggX2_read_X2_fault
set_option maxRecDepth 20000 in
theorem ggX2_read_X1_placeOfPage : GoodIn wsX2_read wsX1_placeOfPage := goodIn_r _ [100] (by decide +kernel) (by decide +kernel)
set_option maxRecDepth 20000 in
theorem gX2_read_X1_placeOfPage : GoodIn wsX2_read (wsV RX2 71 RX1 yX1_placeOfPage wsX1_placeOfPage) := goodIn_app (goodIn_of _ (by decide +kernel)) ggX2_read_X1_placeOfPage
theorem dX2_read_0 : decode cX2_read 0 = .ok (.aload_n 0, 1) := by decide +kernel
theorem dX2_read_1 : decode cX2_read 1 = .ok (.iload_n 1, 1) := by decide +kernel
theorem dX2_read_2 : decode cX2_read 2 = .ok (.invokevirtual 67, 3) := by decide +kernel
theorem dX2_read_5 : decode cX2_read 5 = .ok (.istore_n 2, 1) := by decide +kernel
theorem dX2_read_6 : decode cX2_read 6 = .ok (.iload_n 2, 1) := by decide +kernel
theorem dX2_read_7 : decode cX2_read 7 = .ok (.ifCond .ne 38, 3) := by decide +kernel
theorem dX2_read_10 : decode cX2_read 10 = .ok (.aload_n 0, 1) := by decide +kernel
theorem dX2_read_11 : decode cX2_read 11 = .ok (.getfield 38, 3) := by decide +kernel
theorem dX2_read_14 : decode cX2_read 14 = .ok (.aload_n 0, 1) := by decide +kernel
theorem dX2_read_15 : decode cX2_read 15 = .ok (.getfield 23, 3) := by decide +kernel
theorem dX2_read_18 : decode cX2_read 18 = .ok (.iload_n 1, 1) := by decide +kernel
theorem dX2_read_19 : decode cX2_read 19 = .ok (.invokevirtual 71, 3) := by decide +kernel
theorem dX2_read_22 : decode cX2_read 22 = .ok (.aload_n 0, 1) := by decide +kernel
theorem dX2_read_23 : decode cX2_read 23 = .ok (.getfield 45, 3) := by decide +kernel
theorem dX2_read_26 : decode cX2_read 26 = .ok (.iconst 0, 1) := by decide +kernel
theorem dX2_read_27 : decode cX2_read 27 = .ok (.bipush 64, 2) := by decide +kernel
theorem dX2_read_29 : decode cX2_read 29 = .ok (.invokestatic 74, 3) := by decide +kernel
theorem dX2_read_32 : decode cX2_read 32 = .ok (.aload_n 0, 1) := by decide +kernel
theorem dX2_read_33 : decode cX2_read 33 = .ok (.dup, 1) := by decide +kernel
theorem dX2_read_34 : decode cX2_read 34 = .ok (.getfield 80, 3) := by decide +kernel
theorem dX2_read_37 : decode cX2_read 37 = .ok (.iconst 1, 1) := by decide +kernel
theorem dX2_read_38 : decode cX2_read 38 = .ok (.iadd, 1) := by decide +kernel
end
section
theorem dX2_read_39 : decode cX2_read 39 = .ok (.putfield 80, 3) := by decide +kernel
theorem dX2_read_42 : decode cX2_read 42 = .ok (.goto 18, 3) := by decide +kernel
theorem dX2_read_45 : decode cX2_read 45 = .ok (.iload_n 2, 1) := by decide +kernel
theorem dX2_read_46 : decode cX2_read 46 = .ok (.iconst (-1), 1) := by decide +kernel
theorem dX2_read_47 : decode cX2_read 47 = .ok (.if_icmp .eq 13, 3) := by decide +kernel
theorem dX2_read_50 : decode cX2_read 50 = .ok (.aload_n 0, 1) := by decide +kernel
theorem dX2_read_51 : decode cX2_read 51 = .ok (.dup, 1) := by decide +kernel
theorem dX2_read_52 : decode cX2_read 52 = .ok (.getfield 83, 3) := by decide +kernel
theorem dX2_read_55 : decode cX2_read 55 = .ok (.iconst 1, 1) := by decide +kernel
theorem dX2_read_56 : decode cX2_read 56 = .ok (.iadd, 1) := by decide +kernel
theorem dX2_read_57 : decode cX2_read 57 = .ok (.putfield 83, 3) := by decide +kernel
theorem dX2_read_60 : decode cX2_read 60 = .ok (.iload_n 2, 1) := by decide +kernel
theorem dX2_read_61 : decode cX2_read 61 = .ok (.ireturn, 1) := by decide +kernel
set_option maxRecDepth 20000 in
theorem ggX2_write_X2_fault : GoodIn wsX2_write wsX2_fault := goodIn_r _ [14, 3, 15, 16, 17, 18, 19, 20, 21, 22, 13, 23, 24, 25, 26, 27, 2, 28, 29, 30, 31, 32, 33, 34, 35, 36, 37, 38, 39, 40, 41, 42, 43, 44, 45, 46, 5, 6, 7, 47, 48, 49, 50, 51, 52, 53, 54, 55, 56, 57, 58, 59, 60, 61, 62, 63, 64, 65, 66, 67, 68, 69, 70, 71, 72, 73, 74, 75, 76, 77, 78, 79, 80, 81, 82, 83, 84, 85, 86, 87, 88, 89, 90, 91, 92, 93, 94, 95, 96, 97, 98, 99, 100, 101, 102, 103, 104, 105, 106, 123, 124, 125, 126, 127, 128, 129, 130, 131, 132, 133, 134, 135, 136, 137, 138, 139, 140, 141, 142, 143] (by decide +kernel) (by decide +kernel)
set_option maxRecDepth 20000 in
theorem gX2_write_X2_fault : GoodIn wsX2_write (wsV RX2 67 RX2 yX2_fault wsX2_fault) := goodIn_app (goodIn_of _ (by decide +kernel)) ggX2_write_X2_fault
set_option maxRecDepth 20000 in
theorem ggX2_write_X1_placeOfPage : GoodIn wsX2_write wsX1_placeOfPage := goodIn_r _ [100] (by decide +kernel) (by decide +kernel)
set_option maxRecDepth 20000 in
theorem gX2_write_X1_placeOfPage : GoodIn wsX2_write (wsV RX2 71 RX1 yX1_placeOfPage wsX1_placeOfPage) := goodIn_app (goodIn_of _ (by decide +kernel)) ggX2_write_X1_placeOfPage
set_option maxRecDepth 20000 in
theorem ggX2_write_X2_sealWay : GoodIn wsX2_write wsX2_sealWay := goodIn_r _ [110, 3, 15, 111, 112, 113, 13, 114, 28, 2, 92, 93, 94, 95, 39, 40, 41, 42, 43, 44, 45, 46, 5, 6, 7, 47, 96, 53, 54, 55, 56, 57, 58, 59, 60, 61, 62, 63, 64, 65, 97, 98, 99, 19, 100, 48, 49, 50, 51, 52, 101, 102, 103, 104, 105, 106, 22, 23, 66, 67, 68, 69, 21, 70, 71, 72, 73, 74, 75, 76, 77, 78, 79, 115, 116, 117, 118, 84, 85, 86, 87, 119, 120, 121, 122, 29, 35, 36, 37, 38, 123, 124, 125, 126, 127, 128, 129, 130, 131, 132, 133, 134, 135, 136, 137, 138, 139, 140, 141, 142, 143] (by decide +kernel) (by decide +kernel)
set_option maxRecDepth 20000 in
theorem gX2_write_X2_sealWay : GoodIn wsX2_write (wsV RX2 86 RX2 yX2_sealWay wsX2_sealWay) := goodIn_app (goodIn_of _ (by decide +kernel)) ggX2_write_X2_sealWay
theorem dX2_write_0 : decode cX2_write 0 = .ok (.aload_n 0, 1) := by decide +kernel
theorem dX2_write_1 : decode cX2_write 1 = .ok (.iload_n 1, 1) := by decide +kernel
theorem dX2_write_2 : decode cX2_write 2 = .ok (.invokevirtual 67, 3) := by decide +kernel
theorem dX2_write_5 : decode cX2_write 5 = .ok (.istore_n 2, 1) := by decide +kernel
theorem dX2_write_6 : decode cX2_write 6 = .ok (.iload_n 2, 1) := by decide +kernel
theorem dX2_write_7 : decode cX2_write 7 = .ok (.ifCond .ne 43, 3) := by decide +kernel
theorem dX2_write_10 : decode cX2_write 10 = .ok (.aload_n 0, 1) := by decide +kernel
theorem dX2_write_11 : decode cX2_write 11 = .ok (.getfield 45, 3) := by decide +kernel
theorem dX2_write_14 : decode cX2_write 14 = .ok (.iconst 0, 1) := by decide +kernel
theorem dX2_write_15 : decode cX2_write 15 = .ok (.aload_n 0, 1) := by decide +kernel
theorem dX2_write_16 : decode cX2_write 16 = .ok (.getfield 38, 3) := by decide +kernel
theorem dX2_write_19 : decode cX2_write 19 = .ok (.aload_n 0, 1) := by decide +kernel
theorem dX2_write_20 : decode cX2_write 20 = .ok (.getfield 23, 3) := by decide +kernel
theorem dX2_write_23 : decode cX2_write 23 = .ok (.iload_n 1, 1) := by decide +kernel
theorem dX2_write_24 : decode cX2_write 24 = .ok (.invokevirtual 71, 3) := by decide +kernel
theorem dX2_write_27 : decode cX2_write 27 = .ok (.bipush 64, 2) := by decide +kernel
theorem dX2_write_29 : decode cX2_write 29 = .ok (.invokestatic 74, 3) := by decide +kernel
theorem dX2_write_32 : decode cX2_write 32 = .ok (.aload_n 0, 1) := by decide +kernel
theorem dX2_write_33 : decode cX2_write 33 = .ok (.iload_n 1, 1) := by decide +kernel
theorem dX2_write_34 : decode cX2_write 34 = .ok (.invokevirtual 86, 3) := by decide +kernel
theorem dX2_write_37 : decode cX2_write 37 = .ok (.aload_n 0, 1) := by decide +kernel
theorem dX2_write_38 : decode cX2_write 38 = .ok (.dup, 1) := by decide +kernel
theorem dX2_write_39 : decode cX2_write 39 = .ok (.getfield 89, 3) := by decide +kernel
theorem dX2_write_42 : decode cX2_write 42 = .ok (.iconst 1, 1) := by decide +kernel
theorem dX2_write_43 : decode cX2_write 43 = .ok (.iadd, 1) := by decide +kernel
theorem dX2_write_44 : decode cX2_write 44 = .ok (.putfield 89, 3) := by decide +kernel
theorem dX2_write_47 : decode cX2_write 47 = .ok (.goto 18, 3) := by decide +kernel
theorem dX2_write_50 : decode cX2_write 50 = .ok (.iload_n 2, 1) := by decide +kernel
theorem dX2_write_51 : decode cX2_write 51 = .ok (.iconst (-1), 1) := by decide +kernel
theorem dX2_write_52 : decode cX2_write 52 = .ok (.if_icmp .eq 13, 3) := by decide +kernel
theorem dX2_write_55 : decode cX2_write 55 = .ok (.aload_n 0, 1) := by decide +kernel
theorem dX2_write_56 : decode cX2_write 56 = .ok (.dup, 1) := by decide +kernel
theorem dX2_write_57 : decode cX2_write 57 = .ok (.getfield 83, 3) := by decide +kernel
theorem dX2_write_60 : decode cX2_write 60 = .ok (.iconst 1, 1) := by decide +kernel
theorem dX2_write_61 : decode cX2_write 61 = .ok (.iadd, 1) := by decide +kernel
theorem dX2_write_62 : decode cX2_write 62 = .ok (.putfield 83, 3) := by decide +kernel
theorem dX2_write_65 : decode cX2_write 65 = .ok (.iload_n 2, 1) := by decide +kernel
theorem dX2_write_66 : decode cX2_write 66 = .ok (.ireturn, 1) := by decide +kernel
set_option maxRecDepth 20000 in
theorem ggX2_seal_X2_sealAll : GoodIn wsX2_seal wsX2_sealAll := goodIn_r _ [7, 8, 1, 9, 10, 11, 12, 13, 6, 14, 15, 16, 17, 18, 19, 20, 21, 22, 23, 24, 25, 26, 27, 28, 29, 30, 31, 32, 33, 34, 35, 36, 37, 38, 39, 40, 41, 42, 43, 44, 45, 46, 47, 48, 49, 50, 51, 52, 53, 54, 55, 56, 57, 58, 59, 60, 61, 62, 63, 64, 65, 66, 67, 68, 69, 70, 71, 72, 73, 74, 75, 76, 77, 78, 79, 80, 81, 82, 83, 84, 85, 86, 87, 88, 89, 90, 91, 92, 93, 94, 95, 96, 97, 98, 99, 100, 101, 102, 103, 104, 105, 106, 107, 108, 109, 110, 111, 112, 113, 114, 115, 116, 117, 118, 119, 120, 121] (by decide +kernel) (by decide +kernel)
set_option maxRecDepth 20000 in
theorem gX2_seal_X2_sealAll : GoodIn wsX2_seal (wsV RX2 60 RX2 yX2_sealAll wsX2_sealAll) := goodIn_app (goodIn_of _ (by decide +kernel)) ggX2_seal_X2_sealAll
theorem dX2_seal_0 : decode cX2_seal 0 = .ok (.aload_n 0, 1) := by decide +kernel
theorem dX2_seal_1 : decode cX2_seal 1 = .ok (.invokevirtual 60, 3) := by decide +kernel
theorem dX2_seal_4 : decode cX2_seal 4 = .ok (.aload_n 0, 1) := by decide +kernel
theorem dX2_seal_5 : decode cX2_seal 5 = .ok (.getfield 23, 3) := by decide +kernel
theorem dX2_seal_8 : decode cX2_seal 8 = .ok (.getfield 54, 3) := by decide +kernel
theorem dX2_seal_11 : decode cX2_seal 11 = .ok (.ireturn, 1) := by decide +kernel
theorem dX2_size_0 : decode cX2_size 0 = .ok (.aload_n 0, 1) := by decide +kernel
theorem dX2_size_1 : decode cX2_size 1 = .ok (.getfield 23, 3) := by decide +kernel
theorem dX2_size_4 : decode cX2_size 4 = .ok (.getfield 34, 3) := by decide +kernel
theorem dX2_size_7 : decode cX2_size 7 = .ok (.ireturn, 1) := by decide +kernel
set_option maxRecDepth 20000 in
theorem ggX2_disk_X2_isBelow : GoodIn wsX2_disk wsX2_isBelow := goodIn_r _ [7] (by decide +kernel) (by decide +kernel)
set_option maxRecDepth 20000 in
theorem gX2_disk_X2_isBelow : GoodIn wsX2_disk (va_wsS RX2 63 yX2_isBelow wsX2_isBelow) := goodIn_app (goodIn_of _ (by decide +kernel)) ggX2_disk_X2_isBelow
theorem dX2_disk_0 : decode cX2_disk 0 = .ok (.iload_n 1, 1) := by decide +kernel
theorem dX2_disk_1 : decode cX2_disk 1 = .ok (.aload_n 0, 1) := by decide +kernel
theorem dX2_disk_2 : decode cX2_disk 2 = .ok (.getfield 23, 3) := by decide +kernel
theorem dX2_disk_5 : decode cX2_disk 5 = .ok (.getfield 34, 3) := by decide +kernel
theorem dX2_disk_8 : decode cX2_disk 8 = .ok (.invokestatic 63, 3) := by decide +kernel
theorem dX2_disk_11 : decode cX2_disk 11 = .ok (.ifCond .eq 12, 3) := by decide +kernel
theorem dX2_disk_14 : decode cX2_disk 14 = .ok (.aload_n 0, 1) := by decide +kernel
theorem dX2_disk_15 : decode cX2_disk 15 = .ok (.getfield 38, 3) := by decide +kernel
theorem dX2_disk_18 : decode cX2_disk 18 = .ok (.iload_n 1, 1) := by decide +kernel
theorem dX2_disk_19 : decode cX2_disk 19 = .ok (.iaload, 1) := by decide +kernel
theorem dX2_disk_20 : decode cX2_disk 20 = .ok (.goto 4, 3) := by decide +kernel
theorem dX2_disk_23 : decode cX2_disk 23 = .ok (.iconst (-1), 1) := by decide +kernel
theorem dX2_disk_24 : decode cX2_disk 24 = .ok (.ireturn, 1) := by decide +kernel
set_option maxRecDepth 20000 in
theorem ggX2_alter_X2_isBelow : GoodIn wsX2_alter wsX2_isBelow := goodIn_r _ [7] (by decide +kernel) (by decide +kernel)
set_option maxRecDepth 20000 in
theorem gX2_alter_X2_isBelow : GoodIn wsX2_alter (va_wsS RX2 63 yX2_isBelow wsX2_isBelow) := goodIn_app (goodIn_of _ (by decide +kernel)) ggX2_alter_X2_isBelow
theorem dX2_alter_0 : decode cX2_alter 0 = .ok (.iload_n 1, 1) := by decide +kernel
theorem dX2_alter_1 : decode cX2_alter 1 = .ok (.aload_n 0, 1) := by decide +kernel
theorem dX2_alter_2 : decode cX2_alter 2 = .ok (.getfield 23, 3) := by decide +kernel
theorem dX2_alter_5 : decode cX2_alter 5 = .ok (.getfield 34, 3) := by decide +kernel
theorem dX2_alter_8 : decode cX2_alter 8 = .ok (.invokestatic 63, 3) := by decide +kernel
theorem dX2_alter_11 : decode cX2_alter 11 = .ok (.ifCond .ne 5, 3) := by decide +kernel
theorem dX2_alter_14 : decode cX2_alter 14 = .ok (.iconst (-1), 1) := by decide +kernel
theorem dX2_alter_15 : decode cX2_alter 15 = .ok (.ireturn, 1) := by decide +kernel
theorem dX2_alter_16 : decode cX2_alter 16 = .ok (.aload_n 0, 1) := by decide +kernel
theorem dX2_alter_17 : decode cX2_alter 17 = .ok (.getfield 38, 3) := by decide +kernel
theorem dX2_alter_20 : decode cX2_alter 20 = .ok (.iload_n 1, 1) := by decide +kernel
theorem dX2_alter_21 : decode cX2_alter 21 = .ok (.iaload, 1) := by decide +kernel
theorem dX2_alter_22 : decode cX2_alter 22 = .ok (.istore_n 3, 1) := by decide +kernel
theorem dX2_alter_23 : decode cX2_alter 23 = .ok (.aload_n 0, 1) := by decide +kernel
theorem dX2_alter_24 : decode cX2_alter 24 = .ok (.getfield 38, 3) := by decide +kernel
theorem dX2_alter_27 : decode cX2_alter 27 = .ok (.iload_n 1, 1) := by decide +kernel
theorem dX2_alter_28 : decode cX2_alter 28 = .ok (.iload_n 3, 1) := by decide +kernel
theorem dX2_alter_29 : decode cX2_alter 29 = .ok (.iload_n 2, 1) := by decide +kernel
theorem dX2_alter_30 : decode cX2_alter 30 = .ok (.sipush 255, 3) := by decide +kernel
theorem dX2_alter_33 : decode cX2_alter 33 = .ok (.iand, 1) := by decide +kernel
theorem dX2_alter_34 : decode cX2_alter 34 = .ok (.ixor, 1) := by decide +kernel
theorem dX2_alter_35 : decode cX2_alter 35 = .ok (.iastore, 1) := by decide +kernel
theorem dX2_alter_36 : decode cX2_alter 36 = .ok (.iload_n 3, 1) := by decide +kernel
theorem dX2_alter_37 : decode cX2_alter 37 = .ok (.ireturn, 1) := by decide +kernel
theorem dX2_carry_0 : decode cX2_carry 0 = .ok (.iload_n 3, 1) := by decide +kernel
theorem dX2_carry_1 : decode cX2_carry 1 = .ok (.ifCond .lt 11, 3) := by decide +kernel
theorem dX2_carry_4 : decode cX2_carry 4 = .ok (.iload_n 1, 1) := by decide +kernel
theorem dX2_carry_5 : decode cX2_carry 5 = .ok (.ifCond .lt 7, 3) := by decide +kernel
theorem dX2_carry_8 : decode cX2_carry 8 = .ok (.iload_n 2, 1) := by decide +kernel
theorem dX2_carry_9 : decode cX2_carry 9 = .ok (.ifCond .ge 5, 3) := by decide +kernel
theorem dX2_carry_12 : decode cX2_carry 12 = .ok (.iconst (-1), 1) := by decide +kernel
theorem dX2_carry_13 : decode cX2_carry 13 = .ok (.ireturn, 1) := by decide +kernel
theorem dX2_carry_14 : decode cX2_carry 14 = .ok (.aload_n 0, 1) := by decide +kernel
theorem dX2_carry_15 : decode cX2_carry 15 = .ok (.getfield 23, 3) := by decide +kernel
theorem dX2_carry_18 : decode cX2_carry 18 = .ok (.getfield 34, 3) := by decide +kernel
theorem dX2_carry_21 : decode cX2_carry 21 = .ok (.iload_n 3, 1) := by decide +kernel
theorem dX2_carry_22 : decode cX2_carry 22 = .ok (.isub, 1) := by decide +kernel
theorem dX2_carry_23 : decode cX2_carry 23 = .ok (.istore 4, 2) := by decide +kernel
theorem dX2_carry_25 : decode cX2_carry 25 = .ok (.iload_n 1, 1) := by decide +kernel
theorem dX2_carry_26 : decode cX2_carry 26 = .ok (.iload 4, 2) := by decide +kernel
theorem dX2_carry_28 : decode cX2_carry 28 = .ok (.if_icmp .gt 9, 3) := by decide +kernel
theorem dX2_carry_31 : decode cX2_carry 31 = .ok (.iload_n 2, 1) := by decide +kernel
theorem dX2_carry_32 : decode cX2_carry 32 = .ok (.iload 4, 2) := by decide +kernel
theorem dX2_carry_34 : decode cX2_carry 34 = .ok (.if_icmp .le 5, 3) := by decide +kernel
theorem dX2_carry_37 : decode cX2_carry 37 = .ok (.iconst (-1), 1) := by decide +kernel
theorem dX2_carry_38 : decode cX2_carry 38 = .ok (.ireturn, 1) := by decide +kernel
theorem dX2_carry_39 : decode cX2_carry 39 = .ok (.aload_n 0, 1) := by decide +kernel
theorem dX2_carry_40 : decode cX2_carry 40 = .ok (.getfield 38, 3) := by decide +kernel
theorem dX2_carry_43 : decode cX2_carry 43 = .ok (.iload_n 1, 1) := by decide +kernel
theorem dX2_carry_44 : decode cX2_carry 44 = .ok (.aload_n 0, 1) := by decide +kernel
theorem dX2_carry_45 : decode cX2_carry 45 = .ok (.getfield 38, 3) := by decide +kernel
theorem dX2_carry_48 : decode cX2_carry 48 = .ok (.iload_n 2, 1) := by decide +kernel
theorem dX2_carry_49 : decode cX2_carry 49 = .ok (.iload_n 3, 1) := by decide +kernel
theorem dX2_carry_50 : decode cX2_carry 50 = .ok (.invokestatic 74, 3) := by decide +kernel
theorem dX2_carry_53 : decode cX2_carry 53 = .ok (.iload_n 3, 1) := by decide +kernel
theorem dX2_carry_54 : decode cX2_carry 54 = .ok (.ireturn, 1) := by decide +kernel
set_option maxRecDepth 20000 in
theorem ggX2_root_X2_isBelow : GoodIn wsX2_root wsX2_isBelow := goodIn_r _ [5] (by decide +kernel) (by decide +kernel)
set_option maxRecDepth 20000 in
theorem gX2_root_X2_isBelow : GoodIn wsX2_root (va_wsS RX2 63 yX2_isBelow wsX2_isBelow) := goodIn_app (goodIn_of _ (by decide +kernel)) ggX2_root_X2_isBelow
theorem dX2_root_0 : decode cX2_root 0 = .ok (.iload_n 1, 1) := by decide +kernel
theorem dX2_root_1 : decode cX2_root 1 = .ok (.bipush 32, 2) := by decide +kernel
theorem dX2_root_3 : decode cX2_root 3 = .ok (.invokestatic 63, 3) := by decide +kernel
theorem dX2_root_6 : decode cX2_root 6 = .ok (.ifCond .eq 12, 3) := by decide +kernel
theorem dX2_root_9 : decode cX2_root 9 = .ok (.aload_n 0, 1) := by decide +kernel
theorem dX2_root_10 : decode cX2_root 10 = .ok (.getfield 42, 3) := by decide +kernel
theorem dX2_root_13 : decode cX2_root 13 = .ok (.iload_n 1, 1) := by decide +kernel
theorem dX2_root_14 : decode cX2_root 14 = .ok (.iaload, 1) := by decide +kernel
theorem dX2_root_15 : decode cX2_root 15 = .ok (.goto 4, 3) := by decide +kernel
theorem dX2_root_18 : decode cX2_root 18 = .ok (.iconst (-1), 1) := by decide +kernel
theorem dX2_root_19 : decode cX2_root 19 = .ok (.ireturn, 1) := by decide +kernel
set_option maxRecDepth 20000 in
theorem ggX2_fault_X1_hasPage : GoodIn wsX2_fault wsX1_hasPage := goodIn_r _ [7, 8, 9, 10, 11, 111, 112, 113, 114, 115, 116] (by decide +kernel) (by decide +kernel)
set_option maxRecDepth 20000 in
theorem gX2_fault_X1_hasPage : GoodIn wsX2_fault (wsV RX2 92 RX1 yX1_hasPage wsX1_hasPage) := goodIn_app (goodIn_of _ (by decide +kernel)) ggX2_fault_X1_hasPage
set_option maxRecDepth 20000 in
theorem ggX2_fault_X2_faultAboveTree : GoodIn wsX2_fault wsX2_faultAboveTree := goodIn_r _ [15, 16, 17, 18, 19, 20, 21, 10, 22, 1, 23, 24, 25, 26, 27, 2, 28, 29, 30, 31, 32, 33, 34, 35, 36, 37, 38, 39, 40, 41, 42, 43, 44, 45, 46, 47, 48, 49, 50, 51, 52, 53, 54, 55, 56, 57, 58, 59, 60, 6, 61, 8, 62, 63, 64, 65, 66, 67, 68, 69, 70, 71, 72, 73, 74, 75, 76, 77, 78, 79, 99, 100, 101, 102, 103, 104, 105, 106, 107, 108, 109, 110, 111, 112, 113, 114, 115, 116, 117, 118, 119] (by decide +kernel) (by decide +kernel)
set_option maxRecDepth 20000 in
theorem gX2_fault_X2_faultAboveTree : GoodIn wsX2_fault (wsV RX2 96 RX2 yX2_faultAboveTree wsX2_faultAboveTree) := goodIn_app (goodIn_of _ (by decide +kernel)) ggX2_fault_X2_faultAboveTree
set_option maxRecDepth 20000 in
theorem ggX2_fault_X2_faultOfNode : GoodIn wsX2_fault wsX2_faultOfNode := goodIn_r _ [83, 17, 16, 1, 84, 85, 86, 10, 87, 28, 29, 30, 31, 32, 33, 34, 35, 36, 37, 38, 39, 88, 45, 46, 47, 48, 49, 50, 51, 52, 53, 54, 55, 56, 57, 89, 90, 91, 6, 92, 40, 41, 42, 43, 44, 93, 94, 95, 96, 97, 98, 9, 11, 58, 59, 60, 61, 8, 62, 63, 64, 65, 66, 67, 68, 69, 70, 71, 72, 73, 74, 75, 76, 77, 78, 79, 99, 100, 101, 102, 103, 104, 105, 106, 107, 108, 109, 110, 117, 118, 119, 111, 112, 113, 114, 115, 116] (by decide +kernel) (by decide +kernel)
set_option maxRecDepth 20000 in
theorem gX2_fault_X2_faultOfNode : GoodIn wsX2_fault (wsV RX2 103 RX2 yX2_faultOfNode wsX2_faultOfNode) := goodIn_app (goodIn_of _ (by decide +kernel)) ggX2_fault_X2_faultOfNode
theorem dX2_fault_0 : decode cX2_fault 0 = .ok (.aload_n 0, 1) := by decide +kernel
theorem dX2_fault_1 : decode cX2_fault 1 = .ok (.getfield 23, 3) := by decide +kernel
theorem dX2_fault_4 : decode cX2_fault 4 = .ok (.iload_n 1, 1) := by decide +kernel
theorem dX2_fault_5 : decode cX2_fault 5 = .ok (.invokevirtual 92, 3) := by decide +kernel
theorem dX2_fault_8 : decode cX2_fault 8 = .ok (.ifCond .ne 5, 3) := by decide +kernel
theorem dX2_fault_11 : decode cX2_fault 11 = .ok (.iconst (-1), 1) := by decide +kernel
theorem dX2_fault_12 : decode cX2_fault 12 = .ok (.ireturn, 1) := by decide +kernel
theorem dX2_fault_13 : decode cX2_fault 13 = .ok (.aload_n 0, 1) := by decide +kernel
theorem dX2_fault_14 : decode cX2_fault 14 = .ok (.invokevirtual 96, 3) := by decide +kernel
theorem dX2_fault_17 : decode cX2_fault 17 = .ok (.istore_n 2, 1) := by decide +kernel
theorem dX2_fault_18 : decode cX2_fault 18 = .ok (.aload_n 0, 1) := by decide +kernel
theorem dX2_fault_19 : decode cX2_fault 19 = .ok (.getfield 23, 3) := by decide +kernel
theorem dX2_fault_22 : decode cX2_fault 22 = .ok (.getfield 100, 3) := by decide +kernel
theorem dX2_fault_25 : decode cX2_fault 25 = .ok (.iconst 1, 1) := by decide +kernel
theorem dX2_fault_26 : decode cX2_fault 26 = .ok (.isub, 1) := by decide +kernel
theorem dX2_fault_27 : decode cX2_fault 27 = .ok (.istore_n 3, 1) := by decide +kernel
theorem dX2_fault_28 : decode cX2_fault 28 = .ok (.iload_n 3, 1) := by decide +kernel
theorem dX2_fault_29 : decode cX2_fault 29 = .ok (.ifCond .lt 22, 3) := by decide +kernel
theorem dX2_fault_32 : decode cX2_fault 32 = .ok (.iload_n 2, 1) := by decide +kernel
theorem dX2_fault_33 : decode cX2_fault 33 = .ok (.ifCond .ne 18, 3) := by decide +kernel
theorem dX2_fault_36 : decode cX2_fault 36 = .ok (.aload_n 0, 1) := by decide +kernel
theorem dX2_fault_37 : decode cX2_fault 37 = .ok (.iload_n 3, 1) := by decide +kernel
theorem dX2_fault_38 : decode cX2_fault 38 = .ok (.iload_n 1, 1) := by decide +kernel
theorem dX2_fault_39 : decode cX2_fault 39 = .ok (.iload_n 3, 1) := by decide +kernel
theorem dX2_fault_40 : decode cX2_fault 40 = .ok (.ishr, 1) := by decide +kernel
theorem dX2_fault_41 : decode cX2_fault 41 = .ok (.invokevirtual 103, 3) := by decide +kernel
theorem dX2_fault_44 : decode cX2_fault 44 = .ok (.istore_n 2, 1) := by decide +kernel
theorem dX2_fault_45 : decode cX2_fault 45 = .ok (.iinc 3 (-1), 3) := by decide +kernel
theorem dX2_fault_48 : decode cX2_fault 48 = .ok (.goto (-20), 3) := by decide +kernel
theorem dX2_fault_51 : decode cX2_fault 51 = .ok (.iload_n 2, 1) := by decide +kernel
theorem dX2_fault_52 : decode cX2_fault 52 = .ok (.ireturn, 1) := by decide +kernel
set_option maxRecDepth 20000 in
theorem ggX2_held_X2_surveyTree : GoodIn wsX2_held wsX2_surveyTree := goodIn_r _ [8, 1, 9, 10, 3, 11, 12, 13, 7, 14, 15, 16, 17, 18, 19, 20, 21, 2, 22, 23, 24, 25, 26, 27, 28, 29, 30, 31, 32, 33, 34, 35, 36, 37, 38, 39, 40, 41, 42, 43, 44, 45, 46, 47, 48, 49, 50, 51, 52, 53, 54, 55, 56, 57, 58, 59, 60, 61, 62, 63, 64, 65, 66, 67, 68, 69, 70, 71, 72, 73, 74, 75, 76, 77, 78, 79, 80, 81, 82, 83, 84, 85, 86, 87, 88, 89, 90, 91, 92, 93, 94, 95, 96, 97, 98, 99, 100, 101, 102, 103, 104, 105, 106, 107, 108, 109, 110, 111, 112, 113, 114, 115, 116, 117, 118, 119, 120, 121, 122] (by decide +kernel) (by decide +kernel)
set_option maxRecDepth 20000 in
theorem gX2_held_X2_surveyTree : GoodIn wsX2_held (wsV RX2 106 RX2 yX2_surveyTree wsX2_surveyTree) := goodIn_app (goodIn_of _ (by decide +kernel)) ggX2_held_X2_surveyTree
set_option maxRecDepth 20000 in
theorem ggX2_held_X1_numberOfNode : GoodIn wsX2_held wsX1_numberOfNode := goodIn_r _ [65, 66, 114, 115, 116, 117, 118, 119] (by decide +kernel) (by decide +kernel)
set_option maxRecDepth 20000 in
theorem gX2_held_X1_numberOfNode : GoodIn wsX2_held (wsV RX2 112 RX1 yX1_numberOfNode wsX1_numberOfNode) := goodIn_app (goodIn_of _ (by decide +kernel)) ggX2_held_X1_numberOfNode
theorem dX2_held_0 : decode cX2_held 0 = .ok (.aload_n 0, 1) := by decide +kernel
theorem dX2_held_1 : decode cX2_held 1 = .ok (.invokevirtual 106, 3) := by decide +kernel
theorem dX2_held_4 : decode cX2_held 4 = .ok (.iconst 0, 1) := by decide +kernel
theorem dX2_held_5 : decode cX2_held 5 = .ok (.istore_n 1, 1) := by decide +kernel
theorem dX2_held_6 : decode cX2_held 6 = .ok (.iconst 0, 1) := by decide +kernel
theorem dX2_held_7 : decode cX2_held 7 = .ok (.istore_n 2, 1) := by decide +kernel
theorem dX2_held_8 : decode cX2_held 8 = .ok (.iload_n 2, 1) := by decide +kernel
theorem dX2_held_9 : decode cX2_held 9 = .ok (.aload_n 0, 1) := by decide +kernel
theorem dX2_held_10 : decode cX2_held 10 = .ok (.getfield 23, 3) := by decide +kernel
theorem dX2_held_13 : decode cX2_held 13 = .ok (.getfield 109, 3) := by decide +kernel
theorem dX2_held_16 : decode cX2_held 16 = .ok (.if_icmp .ge 29, 3) := by decide +kernel
theorem dX2_held_19 : decode cX2_held 19 = .ok (.aload_n 0, 1) := by decide +kernel
theorem dX2_held_20 : decode cX2_held 20 = .ok (.getfield 57, 3) := by decide +kernel
theorem dX2_held_23 : decode cX2_held 23 = .ok (.aload_n 0, 1) := by decide +kernel
theorem dX2_held_24 : decode cX2_held 24 = .ok (.getfield 23, 3) := by decide +kernel
theorem dX2_held_27 : decode cX2_held 27 = .ok (.iconst 0, 1) := by decide +kernel
theorem dX2_held_28 : decode cX2_held 28 = .ok (.iload_n 2, 1) := by decide +kernel
theorem dX2_held_29 : decode cX2_held 29 = .ok (.invokevirtual 112, 3) := by decide +kernel
theorem dX2_held_32 : decode cX2_held 32 = .ok (.iaload, 1) := by decide +kernel
theorem dX2_held_33 : decode cX2_held 33 = .ok (.ifCond .ne 6, 3) := by decide +kernel
theorem dX2_held_36 : decode cX2_held 36 = .ok (.iinc 1 1, 3) := by decide +kernel
theorem dX2_held_39 : decode cX2_held 39 = .ok (.iinc 2 1, 3) := by decide +kernel
theorem dX2_held_42 : decode cX2_held 42 = .ok (.goto (-34), 3) := by decide +kernel
theorem dX2_held_45 : decode cX2_held 45 = .ok (.iload_n 1, 1) := by decide +kernel
theorem dX2_held_46 : decode cX2_held 46 = .ok (.ireturn, 1) := by decide +kernel
set_option maxRecDepth 20000 in
theorem ggX2_first_X2_surveyTree : GoodIn wsX2_first wsX2_surveyTree := goodIn_r _ [8, 1, 9, 10, 3, 11, 12, 13, 7, 14, 15, 16, 17, 18, 19, 20, 21, 2, 22, 23, 24, 25, 26, 27, 28, 29, 30, 31, 32, 33, 34, 35, 36, 37, 38, 39, 40, 41, 42, 43, 44, 45, 46, 47, 48, 49, 50, 51, 52, 53, 54, 55, 56, 57, 58, 59, 60, 61, 62, 63, 64, 65, 66, 67, 68, 69, 70, 71, 72, 73, 74, 75, 76, 77, 78, 79, 80, 81, 82, 83, 84, 85, 86, 87, 88, 89, 90, 91, 92, 93, 94, 95, 96, 97, 98, 99, 100, 101, 102, 103, 104, 105, 106, 107, 108, 109, 110, 111, 112, 113, 114, 115, 116, 117, 118, 119, 120, 121, 122] (by decide +kernel) (by decide +kernel)
set_option maxRecDepth 20000 in
theorem gX2_first_X2_surveyTree : GoodIn wsX2_first (wsV RX2 106 RX2 yX2_surveyTree wsX2_surveyTree) := goodIn_app (goodIn_of _ (by decide +kernel)) ggX2_first_X2_surveyTree
set_option maxRecDepth 20000 in
theorem ggX2_first_X1_numberOfNode : GoodIn wsX2_first wsX1_numberOfNode := goodIn_r _ [65, 66, 114, 115, 116, 117, 118, 119] (by decide +kernel) (by decide +kernel)
set_option maxRecDepth 20000 in
theorem gX2_first_X1_numberOfNode : GoodIn wsX2_first (wsV RX2 112 RX1 yX1_numberOfNode wsX1_numberOfNode) := goodIn_app (goodIn_of _ (by decide +kernel)) ggX2_first_X1_numberOfNode
theorem dX2_first_0 : decode cX2_first 0 = .ok (.aload_n 0, 1) := by decide +kernel
theorem dX2_first_1 : decode cX2_first 1 = .ok (.invokevirtual 106, 3) := by decide +kernel
theorem dX2_first_4 : decode cX2_first 4 = .ok (.iconst 0, 1) := by decide +kernel
theorem dX2_first_5 : decode cX2_first 5 = .ok (.istore_n 1, 1) := by decide +kernel
theorem dX2_first_6 : decode cX2_first 6 = .ok (.iload_n 1, 1) := by decide +kernel
theorem dX2_first_7 : decode cX2_first 7 = .ok (.aload_n 0, 1) := by decide +kernel
theorem dX2_first_8 : decode cX2_first 8 = .ok (.getfield 23, 3) := by decide +kernel
theorem dX2_first_11 : decode cX2_first 11 = .ok (.getfield 109, 3) := by decide +kernel
theorem dX2_first_14 : decode cX2_first 14 = .ok (.if_icmp .ge 28, 3) := by decide +kernel
theorem dX2_first_17 : decode cX2_first 17 = .ok (.aload_n 0, 1) := by decide +kernel
theorem dX2_first_18 : decode cX2_first 18 = .ok (.getfield 57, 3) := by decide +kernel
theorem dX2_first_21 : decode cX2_first 21 = .ok (.aload_n 0, 1) := by decide +kernel
theorem dX2_first_22 : decode cX2_first 22 = .ok (.getfield 23, 3) := by decide +kernel
theorem dX2_first_25 : decode cX2_first 25 = .ok (.iconst 0, 1) := by decide +kernel
theorem dX2_first_26 : decode cX2_first 26 = .ok (.iload_n 1, 1) := by decide +kernel
theorem dX2_first_27 : decode cX2_first 27 = .ok (.invokevirtual 112, 3) := by decide +kernel
theorem dX2_first_30 : decode cX2_first 30 = .ok (.iaload, 1) := by decide +kernel
theorem dX2_first_31 : decode cX2_first 31 = .ok (.ifCond .eq 5, 3) := by decide +kernel
theorem dX2_first_34 : decode cX2_first 34 = .ok (.iload_n 1, 1) := by decide +kernel
theorem dX2_first_35 : decode cX2_first 35 = .ok (.ireturn, 1) := by decide +kernel
theorem dX2_first_36 : decode cX2_first 36 = .ok (.iinc 1 1, 3) := by decide +kernel
theorem dX2_first_39 : decode cX2_first 39 = .ok (.goto (-33), 3) := by decide +kernel
theorem dX2_first_42 : decode cX2_first 42 = .ok (.iconst (-1), 1) := by decide +kernel
theorem dX2_first_43 : decode cX2_first 43 = .ok (.ireturn, 1) := by decide +kernel
theorem dX2_levels_0 : decode cX2_levels 0 = .ok (.aload_n 0, 1) := by decide +kernel
theorem dX2_levels_1 : decode cX2_levels 1 = .ok (.getfield 23, 3) := by decide +kernel
theorem dX2_levels_4 : decode cX2_levels 4 = .ok (.getfield 100, 3) := by decide +kernel
theorem dX2_levels_7 : decode cX2_levels 7 = .ok (.ireturn, 1) := by decide +kernel
set_option maxRecDepth 20000 in
theorem ggX2_node_X1_hasNode : GoodIn wsX2_node wsX1_hasNode := goodIn_r _ [6, 7, 8, 9, 10, 11, 34, 35, 36, 37, 38, 39] (by decide +kernel) (by decide +kernel)
set_option maxRecDepth 20000 in
theorem gX2_node_X1_hasNode : GoodIn wsX2_node (wsV RX2 115 RX1 yX1_hasNode wsX1_hasNode) := goodIn_app (goodIn_of _ (by decide +kernel)) ggX2_node_X1_hasNode
set_option maxRecDepth 20000 in
theorem ggX2_node_X1_placeOfNode : GoodIn wsX2_node wsX1_placeOfNode := goodIn_r _ [15, 16, 17, 18, 19, 5, 20, 21, 34, 35, 36, 37, 38, 39] (by decide +kernel) (by decide +kernel)
set_option maxRecDepth 20000 in
theorem gX2_node_X1_placeOfNode : GoodIn wsX2_node (wsV RX2 118 RX1 yX1_placeOfNode wsX1_placeOfNode) := goodIn_app (goodIn_of _ (by decide +kernel)) ggX2_node_X1_placeOfNode
theorem dX2_node_0 : decode cX2_node 0 = .ok (.aload_n 0, 1) := by decide +kernel
theorem dX2_node_1 : decode cX2_node 1 = .ok (.getfield 23, 3) := by decide +kernel
theorem dX2_node_4 : decode cX2_node 4 = .ok (.iload_n 1, 1) := by decide +kernel
theorem dX2_node_5 : decode cX2_node 5 = .ok (.iload_n 2, 1) := by decide +kernel
theorem dX2_node_6 : decode cX2_node 6 = .ok (.invokevirtual 115, 3) := by decide +kernel
theorem dX2_node_9 : decode cX2_node 9 = .ok (.ifCond .eq 15, 3) := by decide +kernel
theorem dX2_node_12 : decode cX2_node 12 = .ok (.aload_n 0, 1) := by decide +kernel
theorem dX2_node_13 : decode cX2_node 13 = .ok (.getfield 23, 3) := by decide +kernel
theorem dX2_node_16 : decode cX2_node 16 = .ok (.iload_n 1, 1) := by decide +kernel
theorem dX2_node_17 : decode cX2_node 17 = .ok (.iload_n 2, 1) := by decide +kernel
theorem dX2_node_18 : decode cX2_node 18 = .ok (.invokevirtual 118, 3) := by decide +kernel
theorem dX2_node_21 : decode cX2_node 21 = .ok (.goto 4, 3) := by decide +kernel
theorem dX2_node_24 : decode cX2_node 24 = .ok (.iconst (-1), 1) := by decide +kernel
theorem dX2_node_25 : decode cX2_node 25 = .ok (.ireturn, 1) := by decide +kernel
set_option maxRecDepth 20000 in
theorem ggX2_proof_X1_hasPage : GoodIn wsX2_proof wsX1_hasPage := goodIn_r _ [7, 8, 9, 10, 11, 33, 34, 35, 36, 37, 38] (by decide +kernel) (by decide +kernel)
set_option maxRecDepth 20000 in
theorem gX2_proof_X1_hasPage : GoodIn wsX2_proof (wsV RX2 92 RX1 yX1_hasPage wsX1_hasPage) := goodIn_app (goodIn_of _ (by decide +kernel)) ggX2_proof_X1_hasPage
set_option maxRecDepth 20000 in
theorem ggX2_proof_X2_nodeBesideWay : GoodIn wsX2_proof wsX2_nodeBesideWay := goodIn_r _ [14] (by decide +kernel) (by decide +kernel)
set_option maxRecDepth 20000 in
theorem gX2_proof_X2_nodeBesideWay : GoodIn wsX2_proof (va_wsS RX2 121 yX2_nodeBesideWay wsX2_nodeBesideWay) := goodIn_app (goodIn_of _ (by decide +kernel)) ggX2_proof_X2_nodeBesideWay
set_option maxRecDepth 20000 in
theorem ggX2_proof_X1_hasNode : GoodIn wsX2_proof wsX1_hasNode := goodIn_r _ [18, 19, 20, 9, 10, 11, 33, 34, 35, 36, 37, 38] (by decide +kernel) (by decide +kernel)
set_option maxRecDepth 20000 in
theorem gX2_proof_X1_hasNode : GoodIn wsX2_proof (wsV RX2 115 RX1 yX1_hasNode wsX1_hasNode) := goodIn_app (goodIn_of _ (by decide +kernel)) ggX2_proof_X1_hasNode
theorem dX2_proof_0 : decode cX2_proof 0 = .ok (.aload_n 0, 1) := by decide +kernel
theorem dX2_proof_1 : decode cX2_proof 1 = .ok (.getfield 23, 3) := by decide +kernel
theorem dX2_proof_4 : decode cX2_proof 4 = .ok (.iload_n 1, 1) := by decide +kernel
theorem dX2_proof_5 : decode cX2_proof 5 = .ok (.invokevirtual 92, 3) := by decide +kernel
theorem dX2_proof_8 : decode cX2_proof 8 = .ok (.ifCond .ne 5, 3) := by decide +kernel
theorem dX2_proof_11 : decode cX2_proof 11 = .ok (.iconst (-1), 1) := by decide +kernel
theorem dX2_proof_12 : decode cX2_proof 12 = .ok (.ireturn, 1) := by decide +kernel
theorem dX2_proof_13 : decode cX2_proof 13 = .ok (.iconst 0, 1) := by decide +kernel
theorem dX2_proof_14 : decode cX2_proof 14 = .ok (.istore_n 2, 1) := by decide +kernel
theorem dX2_proof_15 : decode cX2_proof 15 = .ok (.iconst 0, 1) := by decide +kernel
theorem dX2_proof_16 : decode cX2_proof 16 = .ok (.istore_n 3, 1) := by decide +kernel
theorem dX2_proof_17 : decode cX2_proof 17 = .ok (.iload_n 3, 1) := by decide +kernel
theorem dX2_proof_18 : decode cX2_proof 18 = .ok (.aload_n 0, 1) := by decide +kernel
theorem dX2_proof_19 : decode cX2_proof 19 = .ok (.getfield 23, 3) := by decide +kernel
theorem dX2_proof_22 : decode cX2_proof 22 = .ok (.getfield 100, 3) := by decide +kernel
theorem dX2_proof_25 : decode cX2_proof 25 = .ok (.if_icmp .ge 28, 3) := by decide +kernel
theorem dX2_proof_28 : decode cX2_proof 28 = .ok (.aload_n 0, 1) := by decide +kernel
theorem dX2_proof_29 : decode cX2_proof 29 = .ok (.getfield 23, 3) := by decide +kernel
theorem dX2_proof_32 : decode cX2_proof 32 = .ok (.iload_n 3, 1) := by decide +kernel
theorem dX2_proof_33 : decode cX2_proof 33 = .ok (.iload_n 1, 1) := by decide +kernel
theorem dX2_proof_34 : decode cX2_proof 34 = .ok (.iload_n 3, 1) := by decide +kernel
theorem dX2_proof_35 : decode cX2_proof 35 = .ok (.invokestatic 121, 3) := by decide +kernel
theorem dX2_proof_38 : decode cX2_proof 38 = .ok (.invokevirtual 115, 3) := by decide +kernel
theorem dX2_proof_41 : decode cX2_proof 41 = .ok (.ifCond .eq 6, 3) := by decide +kernel
theorem dX2_proof_44 : decode cX2_proof 44 = .ok (.iinc 2 1, 3) := by decide +kernel
theorem dX2_proof_47 : decode cX2_proof 47 = .ok (.iinc 3 1, 3) := by decide +kernel
theorem dX2_proof_50 : decode cX2_proof 50 = .ok (.goto (-33), 3) := by decide +kernel
theorem dX2_proof_53 : decode cX2_proof 53 = .ok (.iload_n 2, 1) := by decide +kernel
theorem dX2_proof_54 : decode cX2_proof 54 = .ok (.ireturn, 1) := by decide +kernel
set_option maxRecDepth 20000 in
theorem ggX2_beside_X1_hasPage : GoodIn wsX2_beside wsX1_hasPage := goodIn_r _ [8, 9, 10, 11, 12, 44, 45, 46, 47, 48, 49] (by decide +kernel) (by decide +kernel)
set_option maxRecDepth 20000 in
theorem gX2_beside_X1_hasPage : GoodIn wsX2_beside (wsV RX2 92 RX1 yX1_hasPage wsX1_hasPage) := goodIn_app (goodIn_of _ (by decide +kernel)) ggX2_beside_X1_hasPage
set_option maxRecDepth 20000 in
theorem ggX2_beside_X2_isBelow : GoodIn wsX2_beside wsX2_isBelow := goodIn_r _ [12] (by decide +kernel) (by decide +kernel)
set_option maxRecDepth 20000 in
theorem gX2_beside_X2_isBelow : GoodIn wsX2_beside (va_wsS RX2 63 yX2_isBelow wsX2_isBelow) := goodIn_app (goodIn_of _ (by decide +kernel)) ggX2_beside_X2_isBelow
set_option maxRecDepth 20000 in
theorem ggX2_beside_X2_nodeBesideWay : GoodIn wsX2_beside wsX2_nodeBesideWay := goodIn_r _ [16] (by decide +kernel) (by decide +kernel)
set_option maxRecDepth 20000 in
theorem gX2_beside_X2_nodeBesideWay : GoodIn wsX2_beside (va_wsS RX2 121 yX2_nodeBesideWay wsX2_nodeBesideWay) := goodIn_app (goodIn_of _ (by decide +kernel)) ggX2_beside_X2_nodeBesideWay
set_option maxRecDepth 20000 in
theorem ggX2_beside_X1_hasNode : GoodIn wsX2_beside wsX1_hasNode := goodIn_r _ [20, 21, 22, 10, 11, 12, 44, 45, 46, 47, 48, 49] (by decide +kernel) (by decide +kernel)
set_option maxRecDepth 20000 in
theorem gX2_beside_X1_hasNode : GoodIn wsX2_beside (wsV RX2 115 RX1 yX1_hasNode wsX1_hasNode) := goodIn_app (goodIn_of _ (by decide +kernel)) ggX2_beside_X1_hasNode
set_option maxRecDepth 20000 in
theorem ggX2_beside_X1_placeOfNode : GoodIn wsX2_beside wsX1_placeOfNode := goodIn_r _ [26, 9, 27, 28, 29, 7, 30, 31, 44, 45, 46, 47, 48, 49] (by decide +kernel) (by decide +kernel)
set_option maxRecDepth 20000 in
theorem gX2_beside_X1_placeOfNode : GoodIn wsX2_beside (wsV RX2 118 RX1 yX1_placeOfNode wsX1_placeOfNode) := goodIn_app (goodIn_of _ (by decide +kernel)) ggX2_beside_X1_placeOfNode
theorem dX2_beside_0 : decode cX2_beside 0 = .ok (.aload_n 0, 1) := by decide +kernel
theorem dX2_beside_1 : decode cX2_beside 1 = .ok (.getfield 23, 3) := by decide +kernel
theorem dX2_beside_4 : decode cX2_beside 4 = .ok (.iload_n 1, 1) := by decide +kernel
theorem dX2_beside_5 : decode cX2_beside 5 = .ok (.invokevirtual 92, 3) := by decide +kernel
theorem dX2_beside_8 : decode cX2_beside 8 = .ok (.ifCond .eq 12, 3) := by decide +kernel
theorem dX2_beside_11 : decode cX2_beside 11 = .ok (.iload_n 3, 1) := by decide +kernel
theorem dX2_beside_12 : decode cX2_beside 12 = .ok (.bipush 32, 2) := by decide +kernel
theorem dX2_beside_14 : decode cX2_beside 14 = .ok (.invokestatic 63, 3) := by decide +kernel
theorem dX2_beside_17 : decode cX2_beside 17 = .ok (.ifCond .ne 5, 3) := by decide +kernel
theorem dX2_beside_20 : decode cX2_beside 20 = .ok (.iconst (-1), 1) := by decide +kernel
theorem dX2_beside_21 : decode cX2_beside 21 = .ok (.ireturn, 1) := by decide +kernel
theorem dX2_beside_22 : decode cX2_beside 22 = .ok (.iconst 0, 1) := by decide +kernel
theorem dX2_beside_23 : decode cX2_beside 23 = .ok (.istore 4, 2) := by decide +kernel
theorem dX2_beside_25 : decode cX2_beside 25 = .ok (.iconst 0, 1) := by decide +kernel
theorem dX2_beside_26 : decode cX2_beside 26 = .ok (.istore 5, 2) := by decide +kernel
theorem dX2_beside_28 : decode cX2_beside 28 = .ok (.iload 5, 2) := by decide +kernel
theorem dX2_beside_30 : decode cX2_beside 30 = .ok (.aload_n 0, 1) := by decide +kernel
theorem dX2_beside_31 : decode cX2_beside 31 = .ok (.getfield 23, 3) := by decide +kernel
theorem dX2_beside_34 : decode cX2_beside 34 = .ok (.getfield 100, 3) := by decide +kernel
theorem dX2_beside_37 : decode cX2_beside 37 = .ok (.if_icmp .ge 59, 3) := by decide +kernel
theorem dX2_beside_40 : decode cX2_beside 40 = .ok (.iload_n 1, 1) := by decide +kernel
theorem dX2_beside_41 : decode cX2_beside 41 = .ok (.iload 5, 2) := by decide +kernel
theorem dX2_beside_43 : decode cX2_beside 43 = .ok (.invokestatic 121, 3) := by decide +kernel
theorem dX2_beside_46 : decode cX2_beside 46 = .ok (.istore 6, 2) := by decide +kernel
theorem dX2_beside_48 : decode cX2_beside 48 = .ok (.aload_n 0, 1) := by decide +kernel
theorem dX2_beside_49 : decode cX2_beside 49 = .ok (.getfield 23, 3) := by decide +kernel
theorem dX2_beside_52 : decode cX2_beside 52 = .ok (.iload 5, 2) := by decide +kernel
theorem dX2_beside_54 : decode cX2_beside 54 = .ok (.iload 6, 2) := by decide +kernel
theorem dX2_beside_56 : decode cX2_beside 56 = .ok (.invokevirtual 115, 3) := by decide +kernel
theorem dX2_beside_59 : decode cX2_beside 59 = .ok (.ifCond .eq 31, 3) := by decide +kernel
theorem dX2_beside_62 : decode cX2_beside 62 = .ok (.iload 4, 2) := by decide +kernel
theorem dX2_beside_64 : decode cX2_beside 64 = .ok (.iload_n 2, 1) := by decide +kernel
theorem dX2_beside_65 : decode cX2_beside 65 = .ok (.if_icmp .ne 22, 3) := by decide +kernel
theorem dX2_beside_68 : decode cX2_beside 68 = .ok (.aload_n 0, 1) := by decide +kernel
theorem dX2_beside_69 : decode cX2_beside 69 = .ok (.getfield 38, 3) := by decide +kernel
theorem dX2_beside_72 : decode cX2_beside 72 = .ok (.aload_n 0, 1) := by decide +kernel
theorem dX2_beside_73 : decode cX2_beside 73 = .ok (.getfield 23, 3) := by decide +kernel
theorem dX2_beside_76 : decode cX2_beside 76 = .ok (.iload 5, 2) := by decide +kernel
theorem dX2_beside_78 : decode cX2_beside 78 = .ok (.iload 6, 2) := by decide +kernel
theorem dX2_beside_80 : decode cX2_beside 80 = .ok (.invokevirtual 118, 3) := by decide +kernel
theorem dX2_beside_83 : decode cX2_beside 83 = .ok (.iload_n 3, 1) := by decide +kernel
theorem dX2_beside_84 : decode cX2_beside 84 = .ok (.iadd, 1) := by decide +kernel
theorem dX2_beside_85 : decode cX2_beside 85 = .ok (.iaload, 1) := by decide +kernel
theorem dX2_beside_86 : decode cX2_beside 86 = .ok (.ireturn, 1) := by decide +kernel
theorem dX2_beside_87 : decode cX2_beside 87 = .ok (.iinc 4 1, 3) := by decide +kernel
theorem dX2_beside_90 : decode cX2_beside 90 = .ok (.iinc 5 1, 3) := by decide +kernel
theorem dX2_beside_93 : decode cX2_beside 93 = .ok (.goto (-65), 3) := by decide +kernel
theorem dX2_beside_96 : decode cX2_beside 96 = .ok (.iconst (-1), 1) := by decide +kernel
theorem dX2_beside_97 : decode cX2_beside 97 = .ok (.ireturn, 1) := by decide +kernel
theorem dX2_keep_0 : decode cX2_keep 0 = .ok (.aload_n 0, 1) := by decide +kernel
theorem dX2_keep_1 : decode cX2_keep 1 = .ok (.getfield 38, 3) := by decide +kernel
theorem dX2_keep_4 : decode cX2_keep 4 = .ok (.iconst 0, 1) := by decide +kernel
theorem dX2_keep_5 : decode cX2_keep 5 = .ok (.aload_n 0, 1) := by decide +kernel
theorem dX2_keep_6 : decode cX2_keep 6 = .ok (.getfield 48, 3) := by decide +kernel
theorem dX2_keep_9 : decode cX2_keep 9 = .ok (.iconst 0, 1) := by decide +kernel
theorem dX2_keep_10 : decode cX2_keep 10 = .ok (.aload_n 0, 1) := by decide +kernel
theorem dX2_keep_11 : decode cX2_keep 11 = .ok (.getfield 23, 3) := by decide +kernel
theorem dX2_keep_14 : decode cX2_keep 14 = .ok (.getfield 34, 3) := by decide +kernel
theorem dX2_keep_17 : decode cX2_keep 17 = .ok (.invokestatic 74, 3) := by decide +kernel
theorem dX2_keep_20 : decode cX2_keep 20 = .ok (.aload_n 0, 1) := by decide +kernel
theorem dX2_keep_21 : decode cX2_keep 21 = .ok (.getfield 42, 3) := by decide +kernel
theorem dX2_keep_24 : decode cX2_keep 24 = .ok (.iconst 0, 1) := by decide +kernel
theorem dX2_keep_25 : decode cX2_keep 25 = .ok (.aload_n 0, 1) := by decide +kernel
theorem dX2_keep_26 : decode cX2_keep 26 = .ok (.getfield 51, 3) := by decide +kernel
theorem dX2_keep_29 : decode cX2_keep 29 = .ok (.iconst 0, 1) := by decide +kernel
theorem dX2_keep_30 : decode cX2_keep 30 = .ok (.bipush 32, 2) := by decide +kernel
theorem dX2_keep_32 : decode cX2_keep 32 = .ok (.invokestatic 74, 3) := by decide +kernel
theorem dX2_keep_35 : decode cX2_keep 35 = .ok (.aload_n 0, 1) := by decide +kernel
theorem dX2_keep_36 : decode cX2_keep 36 = .ok (.iconst 1, 1) := by decide +kernel
theorem dX2_keep_37 : decode cX2_keep 37 = .ok (.putfield 124, 3) := by decide +kernel
theorem dX2_keep_40 : decode cX2_keep 40 = .ok (.aload_n 0, 1) := by decide +kernel
theorem dX2_keep_41 : decode cX2_keep 41 = .ok (.getfield 23, 3) := by decide +kernel
theorem dX2_keep_44 : decode cX2_keep 44 = .ok (.getfield 34, 3) := by decide +kernel
theorem dX2_keep_47 : decode cX2_keep 47 = .ok (.ireturn, 1) := by decide +kernel
set_option maxRecDepth 20000 in
theorem ggX2_back_X2_restoreDisk : GoodIn wsX2_back wsX2_restoreDisk := goodIn_r _ [6, 7, 8, 9, 10, 11, 12, 13, 14, 15, 16, 17, 18, 19, 20, 21, 22, 23, 24, 25, 26, 27, 28] (by decide +kernel) (by decide +kernel)
set_option maxRecDepth 20000 in
theorem gX2_back_X2_restoreDisk : GoodIn wsX2_back (wsV RX2 128 RX2 yX2_restoreDisk wsX2_restoreDisk) := goodIn_app (goodIn_of _ (by decide +kernel)) ggX2_back_X2_restoreDisk
theorem dX2_back_0 : decode cX2_back 0 = .ok (.aload_n 0, 1) := by decide +kernel
theorem dX2_back_1 : decode cX2_back 1 = .ok (.getfield 124, 3) := by decide +kernel
theorem dX2_back_4 : decode cX2_back 4 = .ok (.ifCond .eq 10, 3) := by decide +kernel
theorem dX2_back_7 : decode cX2_back 7 = .ok (.aload_n 0, 1) := by decide +kernel
theorem dX2_back_8 : decode cX2_back 8 = .ok (.invokevirtual 128, 3) := by decide +kernel
theorem dX2_back_11 : decode cX2_back 11 = .ok (.goto 4, 3) := by decide +kernel
theorem dX2_back_14 : decode cX2_back 14 = .ok (.iconst (-1), 1) := by decide +kernel
theorem dX2_back_15 : decode cX2_back 15 = .ok (.ireturn, 1) := by decide +kernel
set_option maxRecDepth 20000 in
theorem ggX2_open_X2_restoreDisk : GoodIn wsX2_open wsX2_restoreDisk := goodIn_r _ [12, 13, 14, 15, 16, 17, 18, 19, 20, 21, 22, 23, 24, 25, 26, 27, 28, 29, 30, 31, 32, 33, 34] (by decide +kernel) (by decide +kernel)
set_option maxRecDepth 20000 in
theorem gX2_open_X2_restoreDisk : GoodIn wsX2_open (wsV RX2 128 RX2 yX2_restoreDisk wsX2_restoreDisk) := goodIn_app (goodIn_of _ (by decide +kernel)) ggX2_open_X2_restoreDisk
theorem dX2_open_0 : decode cX2_open 0 = .ok (.aload_n 0, 1) := by decide +kernel
theorem dX2_open_1 : decode cX2_open 1 = .ok (.getfield 124, 3) := by decide +kernel
theorem dX2_open_4 : decode cX2_open 4 = .ok (.ifCond .ne 5, 3) := by decide +kernel
theorem dX2_open_7 : decode cX2_open 7 = .ok (.iconst (-1), 1) := by decide +kernel
theorem dX2_open_8 : decode cX2_open 8 = .ok (.ireturn, 1) := by decide +kernel
theorem dX2_open_9 : decode cX2_open 9 = .ok (.aload_n 0, 1) := by decide +kernel
theorem dX2_open_10 : decode cX2_open 10 = .ok (.getfield 51, 3) := by decide +kernel
theorem dX2_open_13 : decode cX2_open 13 = .ok (.iconst 0, 1) := by decide +kernel
theorem dX2_open_14 : decode cX2_open 14 = .ok (.aload_n 0, 1) := by decide +kernel
theorem dX2_open_15 : decode cX2_open 15 = .ok (.getfield 42, 3) := by decide +kernel
theorem dX2_open_18 : decode cX2_open 18 = .ok (.iconst 0, 1) := by decide +kernel
theorem dX2_open_19 : decode cX2_open 19 = .ok (.bipush 32, 2) := by decide +kernel
theorem dX2_open_21 : decode cX2_open 21 = .ok (.invokestatic 74, 3) := by decide +kernel
theorem dX2_open_24 : decode cX2_open 24 = .ok (.aload_n 0, 1) := by decide +kernel
theorem dX2_open_25 : decode cX2_open 25 = .ok (.invokevirtual 128, 3) := by decide +kernel
theorem dX2_open_28 : decode cX2_open 28 = .ok (.ireturn, 1) := by decide +kernel
set_option maxRecDepth 20000 in
theorem ggX2_hash_X2_isBelow : GoodIn wsX2_hash wsX2_isBelow := goodIn_r _ [6] (by decide +kernel) (by decide +kernel)
set_option maxRecDepth 20000 in
theorem gX2_hash_X2_isBelow : GoodIn wsX2_hash (va_wsS RX2 63 yX2_isBelow wsX2_isBelow) := goodIn_app (goodIn_of _ (by decide +kernel)) ggX2_hash_X2_isBelow
set_option maxRecDepth 20000 in
theorem ggX2_hash_X0_begin : GoodIn wsX2_hash wsX0_begin := goodIn_r _ [11, 12, 13, 14, 15, 16, 17, 18, 58, 59, 60] (by decide +kernel) (by decide +kernel)
set_option maxRecDepth 20000 in
theorem gX2_hash_X0_begin : GoodIn wsX2_hash (wsV RX2 131 RX0 yX0_begin wsX0_begin) := goodIn_app (goodIn_of _ (by decide +kernel)) ggX2_hash_X0_begin
set_option maxRecDepth 20000 in
theorem ggX2_hash_X0_addRow : GoodIn wsX2_hash wsX0_addRow := goodIn_r _ [22, 23, 24, 25, 10, 26, 18, 27, 28, 29, 30, 31, 32, 33, 34, 35, 13, 36, 58, 59, 60] (by decide +kernel) (by decide +kernel)
set_option maxRecDepth 20000 in
theorem gX2_hash_X0_addRow : GoodIn wsX2_hash (wsV RX2 134 RX0 yX0_addRow wsX0_addRow) := goodIn_app (goodIn_of _ (by decide +kernel)) ggX2_hash_X0_addRow
set_option maxRecDepth 20000 in
theorem ggX2_hash_X0_finish : GoodIn wsX2_hash wsX0_finish := goodIn_r _ [40, 41, 18, 23, 24, 25, 10, 26, 27, 28, 29, 30, 31, 32, 33, 34, 35, 13, 36, 58, 59, 60] (by decide +kernel) (by decide +kernel)
set_option maxRecDepth 20000 in
theorem gX2_hash_X0_finish : GoodIn wsX2_hash (wsV RX2 138 RX0 yX0_finish wsX0_finish) := goodIn_app (goodIn_of _ (by decide +kernel)) ggX2_hash_X0_finish
set_option maxRecDepth 20000 in
theorem ggX2_hash_X0_resultByte : GoodIn wsX2_hash wsX0_resultByte := goodIn_r _ [45, 13, 58, 59, 60] (by decide +kernel) (by decide +kernel)
set_option maxRecDepth 20000 in
theorem gX2_hash_X0_resultByte : GoodIn wsX2_hash (wsV RX2 141 RX0 yX0_resultByte wsX0_resultByte) := goodIn_app (goodIn_of _ (by decide +kernel)) ggX2_hash_X0_resultByte
theorem dX2_hash_0 : decode cX2_hash 0 = .ok (.iload_n 1, 1) := by decide +kernel
theorem dX2_hash_1 : decode cX2_hash 1 = .ok (.ifCond .lt 18, 3) := by decide +kernel
theorem dX2_hash_4 : decode cX2_hash 4 = .ok (.iload_n 1, 1) := by decide +kernel
theorem dX2_hash_5 : decode cX2_hash 5 = .ok (.bipush 64, 2) := by decide +kernel
theorem dX2_hash_7 : decode cX2_hash 7 = .ok (.if_icmp .gt 12, 3) := by decide +kernel
theorem dX2_hash_10 : decode cX2_hash 10 = .ok (.iload_n 2, 1) := by decide +kernel
theorem dX2_hash_11 : decode cX2_hash 11 = .ok (.bipush 32, 2) := by decide +kernel
theorem dX2_hash_13 : decode cX2_hash 13 = .ok (.invokestatic 63, 3) := by decide +kernel
theorem dX2_hash_16 : decode cX2_hash 16 = .ok (.ifCond .ne 5, 3) := by decide +kernel
theorem dX2_hash_19 : decode cX2_hash 19 = .ok (.iconst (-1), 1) := by decide +kernel
theorem dX2_hash_20 : decode cX2_hash 20 = .ok (.ireturn, 1) := by decide +kernel
theorem dX2_hash_21 : decode cX2_hash 21 = .ok (.aload_n 0, 1) := by decide +kernel
theorem dX2_hash_22 : decode cX2_hash 22 = .ok (.getfield 30, 3) := by decide +kernel
theorem dX2_hash_25 : decode cX2_hash 25 = .ok (.invokevirtual 131, 3) := by decide +kernel
theorem dX2_hash_28 : decode cX2_hash 28 = .ok (.aload_n 0, 1) := by decide +kernel
theorem dX2_hash_29 : decode cX2_hash 29 = .ok (.getfield 30, 3) := by decide +kernel
theorem dX2_hash_32 : decode cX2_hash 32 = .ok (.aload_n 0, 1) := by decide +kernel
theorem dX2_hash_33 : decode cX2_hash 33 = .ok (.getfield 45, 3) := by decide +kernel
theorem dX2_hash_36 : decode cX2_hash 36 = .ok (.iconst 0, 1) := by decide +kernel
theorem dX2_hash_37 : decode cX2_hash 37 = .ok (.iload_n 1, 1) := by decide +kernel
theorem dX2_hash_38 : decode cX2_hash 38 = .ok (.invokevirtual 134, 3) := by decide +kernel
theorem dX2_hash_41 : decode cX2_hash 41 = .ok (.aload_n 0, 1) := by decide +kernel
theorem dX2_hash_42 : decode cX2_hash 42 = .ok (.getfield 30, 3) := by decide +kernel
theorem dX2_hash_45 : decode cX2_hash 45 = .ok (.invokevirtual 138, 3) := by decide +kernel
theorem dX2_hash_48 : decode cX2_hash 48 = .ok (.aload_n 0, 1) := by decide +kernel
theorem dX2_hash_49 : decode cX2_hash 49 = .ok (.getfield 30, 3) := by decide +kernel
theorem dX2_hash_52 : decode cX2_hash 52 = .ok (.iload_n 2, 1) := by decide +kernel
theorem dX2_hash_53 : decode cX2_hash 53 = .ok (.invokevirtual 141, 3) := by decide +kernel
theorem dX2_hash_56 : decode cX2_hash 56 = .ok (.ireturn, 1) := by decide +kernel
theorem dX2_told_0 : decode cX2_told 0 = .ok (.iload_n 1, 1) := by decide +kernel
theorem dX2_told_1 : decode cX2_told 1 = .ok (.tableswitch 54 0 3 #[31, 39, 44, 49], 31) := by decide +kernel
theorem dX2_told_32 : decode cX2_told 32 = .ok (.aload_n 0, 1) := by decide +kernel
theorem dX2_told_33 : decode cX2_told 33 = .ok (.getfield 23, 3) := by decide +kernel
theorem dX2_told_36 : decode cX2_told 36 = .ok (.getfield 109, 3) := by decide +kernel
theorem dX2_told_39 : decode cX2_told 39 = .ok (.ireturn, 1) := by decide +kernel
theorem dX2_told_40 : decode cX2_told 40 = .ok (.aload_n 0, 1) := by decide +kernel
theorem dX2_told_41 : decode cX2_told 41 = .ok (.getfield 80, 3) := by decide +kernel
theorem dX2_told_44 : decode cX2_told 44 = .ok (.ireturn, 1) := by decide +kernel
theorem dX2_told_45 : decode cX2_told 45 = .ok (.aload_n 0, 1) := by decide +kernel
theorem dX2_told_46 : decode cX2_told 46 = .ok (.getfield 89, 3) := by decide +kernel
theorem dX2_told_49 : decode cX2_told 49 = .ok (.ireturn, 1) := by decide +kernel
theorem dX2_told_50 : decode cX2_told 50 = .ok (.aload_n 0, 1) := by decide +kernel
theorem dX2_told_51 : decode cX2_told 51 = .ok (.getfield 83, 3) := by decide +kernel
theorem dX2_told_54 : decode cX2_told 54 = .ok (.ireturn, 1) := by decide +kernel
theorem dX2_told_55 : decode cX2_told 55 = .ok (.iconst (-1), 1) := by decide +kernel
theorem dX2_told_56 : decode cX2_told 56 = .ok (.ireturn, 1) := by decide +kernel
theorem dX2_isBelow_0 : decode cX2_isBelow 0 = .ok (.iload_n 0, 1) := by decide +kernel
theorem dX2_isBelow_1 : decode cX2_isBelow 1 = .ok (.ifCond .lt 12, 3) := by decide +kernel
theorem dX2_isBelow_4 : decode cX2_isBelow 4 = .ok (.iload_n 0, 1) := by decide +kernel
theorem dX2_isBelow_5 : decode cX2_isBelow 5 = .ok (.iload_n 1, 1) := by decide +kernel
theorem dX2_isBelow_6 : decode cX2_isBelow 6 = .ok (.if_icmp .ge 7, 3) := by decide +kernel
theorem dX2_isBelow_9 : decode cX2_isBelow 9 = .ok (.iconst 1, 1) := by decide +kernel
theorem dX2_isBelow_10 : decode cX2_isBelow 10 = .ok (.goto 4, 3) := by decide +kernel
theorem dX2_isBelow_13 : decode cX2_isBelow 13 = .ok (.iconst 0, 1) := by decide +kernel
theorem dX2_isBelow_14 : decode cX2_isBelow 14 = .ok (.ireturn, 1) := by decide +kernel
theorem dX2_nodeBesideWay_0 : decode cX2_nodeBesideWay 0 = .ok (.iload_n 0, 1) := by decide +kernel
theorem dX2_nodeBesideWay_1 : decode cX2_nodeBesideWay 1 = .ok (.iload_n 1, 1) := by decide +kernel
theorem dX2_nodeBesideWay_2 : decode cX2_nodeBesideWay 2 = .ok (.ishr, 1) := by decide +kernel
theorem dX2_nodeBesideWay_3 : decode cX2_nodeBesideWay 3 = .ok (.iconst 1, 1) := by decide +kernel
theorem dX2_nodeBesideWay_4 : decode cX2_nodeBesideWay 4 = .ok (.ixor, 1) := by decide +kernel
theorem dX2_nodeBesideWay_5 : decode cX2_nodeBesideWay 5 = .ok (.ireturn, 1) := by decide +kernel
theorem dX2_headByteAsTold_0 : decode cX2_headByteAsTold 0 = .ok (.iload_n 1, 1) := by decide +kernel
theorem dX2_headByteAsTold_1 : decode cX2_headByteAsTold 1 = .ok (.tableswitch 48 0 3 #[31, 34, 37, 45], 31) := by decide +kernel
theorem dX2_headByteAsTold_32 : decode cX2_headByteAsTold 32 = .ok (.bipush 83, 2) := by decide +kernel
theorem dX2_headByteAsTold_34 : decode cX2_headByteAsTold 34 = .ok (.ireturn, 1) := by decide +kernel
theorem dX2_headByteAsTold_35 : decode cX2_headByteAsTold 35 = .ok (.bipush 73, 2) := by decide +kernel
theorem dX2_headByteAsTold_37 : decode cX2_headByteAsTold 37 = .ok (.ireturn, 1) := by decide +kernel
theorem dX2_headByteAsTold_38 : decode cX2_headByteAsTold 38 = .ok (.aload_n 0, 1) := by decide +kernel
theorem dX2_headByteAsTold_39 : decode cX2_headByteAsTold 39 = .ok (.getfield 23, 3) := by decide +kernel
theorem dX2_headByteAsTold_42 : decode cX2_headByteAsTold 42 = .ok (.getfield 109, 3) := by decide +kernel
theorem dX2_headByteAsTold_45 : decode cX2_headByteAsTold 45 = .ok (.ireturn, 1) := by decide +kernel
theorem dX2_headByteAsTold_46 : decode cX2_headByteAsTold 46 = .ok (.bipush 64, 2) := by decide +kernel
theorem dX2_headByteAsTold_48 : decode cX2_headByteAsTold 48 = .ok (.ireturn, 1) := by decide +kernel
theorem dX2_headByteAsTold_49 : decode cX2_headByteAsTold 49 = .ok (.iconst 0, 1) := by decide +kernel
theorem dX2_headByteAsTold_50 : decode cX2_headByteAsTold 50 = .ok (.ireturn, 1) := by decide +kernel
set_option maxRecDepth 20000 in
theorem ggX2_hashNode_X0_begin : GoodIn wsX2_hashNode wsX0_begin := goodIn_r _ [8, 9, 10, 11, 12, 13, 14, 15, 76, 77, 78] (by decide +kernel) (by decide +kernel)
set_option maxRecDepth 20000 in
theorem gX2_hashNode_X0_begin : GoodIn wsX2_hashNode (wsV RX2 131 RX0 yX0_begin wsX0_begin) := goodIn_app (goodIn_of _ (by decide +kernel)) ggX2_hashNode_X0_begin
set_option maxRecDepth 20000 in
theorem ggX2_hashNode_X0_addByte : GoodIn wsX2_hashNode wsX0_addByte := goodIn_r _ [19, 15, 20, 21, 22, 23, 7, 24, 25, 26, 27, 28, 10, 29, 76, 77, 78] (by decide +kernel) (by decide +kernel)
set_option maxRecDepth 20000 in
theorem gX2_hashNode_X0_addByte : GoodIn wsX2_hashNode (wsV RX2 144 RX0 yX0_addByte wsX0_addByte) := goodIn_app (goodIn_of _ (by decide +kernel)) ggX2_hashNode_X0_addByte
set_option maxRecDepth 20000 in
theorem ggX2_hashNode_X1_placeOfPage : GoodIn wsX2_hashNode wsX1_placeOfPage := goodIn_r _ [34] (by decide +kernel) (by decide +kernel)
set_option maxRecDepth 20000 in
theorem gX2_hashNode_X1_placeOfPage : GoodIn wsX2_hashNode (wsV RX2 71 RX1 yX1_placeOfPage wsX1_placeOfPage) := goodIn_app (goodIn_of _ (by decide +kernel)) ggX2_hashNode_X1_placeOfPage
set_option maxRecDepth 20000 in
theorem ggX2_hashNode_X0_addRow : GoodIn wsX2_hashNode wsX0_addRow := goodIn_r _ [38, 39, 17, 18, 7, 19, 15, 20, 21, 22, 23, 24, 25, 26, 27, 28, 10, 29, 76, 77, 78] (by decide +kernel) (by decide +kernel)
set_option maxRecDepth 20000 in
theorem gX2_hashNode_X0_addRow : GoodIn wsX2_hashNode (wsV RX2 134 RX0 yX0_addRow wsX0_addRow) := goodIn_app (goodIn_of _ (by decide +kernel)) ggX2_hashNode_X0_addRow
set_option maxRecDepth 20000 in
theorem ggX2_hashNode_X1_hasNode : GoodIn wsX2_hashNode wsX1_hasNode := goodIn_r _ [43, 44, 45, 46, 47, 48, 79, 80, 81, 82, 83, 84] (by decide +kernel) (by decide +kernel)
set_option maxRecDepth 20000 in
theorem gX2_hashNode_X1_hasNode : GoodIn wsX2_hashNode (wsV RX2 115 RX1 yX1_hasNode wsX1_hasNode) := goodIn_app (goodIn_of _ (by decide +kernel)) ggX2_hashNode_X1_hasNode
set_option maxRecDepth 20000 in
theorem ggX2_hashNode_X1_placeOfNode : GoodIn wsX2_hashNode wsX1_placeOfNode := goodIn_r _ [52, 53, 54, 55, 56, 33, 57, 58, 79, 80, 81, 82, 83, 84] (by decide +kernel) (by decide +kernel)
set_option maxRecDepth 20000 in
theorem gX2_hashNode_X1_placeOfNode : GoodIn wsX2_hashNode (wsV RX2 118 RX1 yX1_placeOfNode wsX1_placeOfNode) := goodIn_app (goodIn_of _ (by decide +kernel)) ggX2_hashNode_X1_placeOfNode
set_option maxRecDepth 20000 in
theorem ggX2_hashNode_X0_finish : GoodIn wsX2_hashNode wsX0_finish := goodIn_r _ [62, 63, 15, 39, 17, 18, 7, 19, 20, 21, 22, 23, 24, 25, 26, 27, 28, 10, 29, 76, 77, 78] (by decide +kernel) (by decide +kernel)
set_option maxRecDepth 20000 in
theorem gX2_hashNode_X0_finish : GoodIn wsX2_hashNode (wsV RX2 138 RX0 yX0_finish wsX0_finish) := goodIn_app (goodIn_of _ (by decide +kernel)) ggX2_hashNode_X0_finish
theorem dX2_hashNode_0 : decode cX2_hashNode 0 = .ok (.aload_n 0, 1) := by decide +kernel
theorem dX2_hashNode_1 : decode cX2_hashNode 1 = .ok (.getfield 30, 3) := by decide +kernel
theorem dX2_hashNode_4 : decode cX2_hashNode 4 = .ok (.invokevirtual 131, 3) := by decide +kernel
theorem dX2_hashNode_7 : decode cX2_hashNode 7 = .ok (.aload_n 0, 1) := by decide +kernel
theorem dX2_hashNode_8 : decode cX2_hashNode 8 = .ok (.getfield 30, 3) := by decide +kernel
theorem dX2_hashNode_11 : decode cX2_hashNode 11 = .ok (.iload_n 1, 1) := by decide +kernel
theorem dX2_hashNode_12 : decode cX2_hashNode 12 = .ok (.invokevirtual 144, 3) := by decide +kernel
theorem dX2_hashNode_15 : decode cX2_hashNode 15 = .ok (.aload_n 0, 1) := by decide +kernel
theorem dX2_hashNode_16 : decode cX2_hashNode 16 = .ok (.getfield 30, 3) := by decide +kernel
theorem dX2_hashNode_19 : decode cX2_hashNode 19 = .ok (.iload_n 2, 1) := by decide +kernel
theorem dX2_hashNode_20 : decode cX2_hashNode 20 = .ok (.invokevirtual 144, 3) := by decide +kernel
theorem dX2_hashNode_23 : decode cX2_hashNode 23 = .ok (.iload_n 1, 1) := by decide +kernel
theorem dX2_hashNode_24 : decode cX2_hashNode 24 = .ok (.ifCond .ne 27, 3) := by decide +kernel
theorem dX2_hashNode_27 : decode cX2_hashNode 27 = .ok (.aload_n 0, 1) := by decide +kernel
theorem dX2_hashNode_28 : decode cX2_hashNode 28 = .ok (.getfield 30, 3) := by decide +kernel
theorem dX2_hashNode_31 : decode cX2_hashNode 31 = .ok (.aload_n 0, 1) := by decide +kernel
theorem dX2_hashNode_32 : decode cX2_hashNode 32 = .ok (.getfield 38, 3) := by decide +kernel
theorem dX2_hashNode_35 : decode cX2_hashNode 35 = .ok (.aload_n 0, 1) := by decide +kernel
theorem dX2_hashNode_36 : decode cX2_hashNode 36 = .ok (.getfield 23, 3) := by decide +kernel
theorem dX2_hashNode_39 : decode cX2_hashNode 39 = .ok (.iload_n 2, 1) := by decide +kernel
theorem dX2_hashNode_40 : decode cX2_hashNode 40 = .ok (.invokevirtual 71, 3) := by decide +kernel
theorem dX2_hashNode_43 : decode cX2_hashNode 43 = .ok (.bipush 64, 2) := by decide +kernel
theorem dX2_hashNode_45 : decode cX2_hashNode 45 = .ok (.invokevirtual 134, 3) := by decide +kernel
theorem dX2_hashNode_48 : decode cX2_hashNode 48 = .ok (.goto 55, 3) := by decide +kernel
theorem dX2_hashNode_51 : decode cX2_hashNode 51 = .ok (.aload_n 0, 1) := by decide +kernel
theorem dX2_hashNode_52 : decode cX2_hashNode 52 = .ok (.getfield 23, 3) := by decide +kernel
theorem dX2_hashNode_55 : decode cX2_hashNode 55 = .ok (.iload_n 1, 1) := by decide +kernel
theorem dX2_hashNode_56 : decode cX2_hashNode 56 = .ok (.iconst 1, 1) := by decide +kernel
theorem dX2_hashNode_57 : decode cX2_hashNode 57 = .ok (.isub, 1) := by decide +kernel
theorem dX2_hashNode_58 : decode cX2_hashNode 58 = .ok (.iconst 2, 1) := by decide +kernel
theorem dX2_hashNode_59 : decode cX2_hashNode 59 = .ok (.iload_n 2, 1) := by decide +kernel
theorem dX2_hashNode_60 : decode cX2_hashNode 60 = .ok (.imul, 1) := by decide +kernel
theorem dX2_hashNode_61 : decode cX2_hashNode 61 = .ok (.iconst 1, 1) := by decide +kernel
theorem dX2_hashNode_62 : decode cX2_hashNode 62 = .ok (.iadd, 1) := by decide +kernel
theorem dX2_hashNode_63 : decode cX2_hashNode 63 = .ok (.invokevirtual 115, 3) := by decide +kernel
theorem dX2_hashNode_66 : decode cX2_hashNode 66 = .ok (.ifCond .eq 7, 3) := by decide +kernel
theorem dX2_hashNode_69 : decode cX2_hashNode 69 = .ok (.iconst 2, 1) := by decide +kernel
theorem dX2_hashNode_70 : decode cX2_hashNode 70 = .ok (.goto 4, 3) := by decide +kernel
theorem dX2_hashNode_73 : decode cX2_hashNode 73 = .ok (.iconst 1, 1) := by decide +kernel
theorem dX2_hashNode_74 : decode cX2_hashNode 74 = .ok (.istore_n 3, 1) := by decide +kernel
theorem dX2_hashNode_75 : decode cX2_hashNode 75 = .ok (.aload_n 0, 1) := by decide +kernel
theorem dX2_hashNode_76 : decode cX2_hashNode 76 = .ok (.getfield 30, 3) := by decide +kernel
theorem dX2_hashNode_79 : decode cX2_hashNode 79 = .ok (.aload_n 0, 1) := by decide +kernel
theorem dX2_hashNode_80 : decode cX2_hashNode 80 = .ok (.getfield 38, 3) := by decide +kernel
theorem dX2_hashNode_83 : decode cX2_hashNode 83 = .ok (.aload_n 0, 1) := by decide +kernel
theorem dX2_hashNode_84 : decode cX2_hashNode 84 = .ok (.getfield 23, 3) := by decide +kernel
theorem dX2_hashNode_87 : decode cX2_hashNode 87 = .ok (.iload_n 1, 1) := by decide +kernel
theorem dX2_hashNode_88 : decode cX2_hashNode 88 = .ok (.iconst 1, 1) := by decide +kernel
theorem dX2_hashNode_89 : decode cX2_hashNode 89 = .ok (.isub, 1) := by decide +kernel
theorem dX2_hashNode_90 : decode cX2_hashNode 90 = .ok (.iconst 2, 1) := by decide +kernel
theorem dX2_hashNode_91 : decode cX2_hashNode 91 = .ok (.iload_n 2, 1) := by decide +kernel
theorem dX2_hashNode_92 : decode cX2_hashNode 92 = .ok (.imul, 1) := by decide +kernel
theorem dX2_hashNode_93 : decode cX2_hashNode 93 = .ok (.invokevirtual 118, 3) := by decide +kernel
theorem dX2_hashNode_96 : decode cX2_hashNode 96 = .ok (.iload_n 3, 1) := by decide +kernel
theorem dX2_hashNode_97 : decode cX2_hashNode 97 = .ok (.bipush 32, 2) := by decide +kernel
theorem dX2_hashNode_99 : decode cX2_hashNode 99 = .ok (.imul, 1) := by decide +kernel
theorem dX2_hashNode_100 : decode cX2_hashNode 100 = .ok (.invokevirtual 134, 3) := by decide +kernel
theorem dX2_hashNode_103 : decode cX2_hashNode 103 = .ok (.aload_n 0, 1) := by decide +kernel
theorem dX2_hashNode_104 : decode cX2_hashNode 104 = .ok (.getfield 30, 3) := by decide +kernel
theorem dX2_hashNode_107 : decode cX2_hashNode 107 = .ok (.invokevirtual 138, 3) := by decide +kernel
theorem dX2_hashNode_110 : decode cX2_hashNode 110 = .ok (.return_, 1) := by decide +kernel
set_option maxRecDepth 20000 in
theorem ggX2_hashHeadAndLastNode_X0_begin : GoodIn wsX2_hashHeadAndLastNode wsX0_begin := goodIn_r _ [9, 10, 11, 12, 13, 14, 15, 16, 69, 70, 71] (by decide +kernel) (by decide +kernel)
set_option maxRecDepth 20000 in
theorem gX2_hashHeadAndLastNode_X0_begin : GoodIn wsX2_hashHeadAndLastNode (wsV RX2 131 RX0 yX0_begin wsX0_begin) := goodIn_app (goodIn_of _ (by decide +kernel)) ggX2_hashHeadAndLastNode_X0_begin
set_option maxRecDepth 20000 in
theorem ggX2_hashHeadAndLastNode_X0_addRow : GoodIn wsX2_hashHeadAndLastNode wsX0_addRow := goodIn_r _ [20, 21, 22, 23, 8, 24, 16, 25, 26, 27, 28, 29, 30, 31, 32, 33, 11, 34, 69, 70, 71] (by decide +kernel) (by decide +kernel)
set_option maxRecDepth 20000 in
theorem gX2_hashHeadAndLastNode_X0_addRow : GoodIn wsX2_hashHeadAndLastNode (wsV RX2 134 RX0 yX0_addRow wsX0_addRow) := goodIn_app (goodIn_of _ (by decide +kernel)) ggX2_hashHeadAndLastNode_X0_addRow
set_option maxRecDepth 20000 in
theorem ggX2_hashHeadAndLastNode_X1_placeOfNode : GoodIn wsX2_hashHeadAndLastNode wsX1_placeOfNode := goodIn_r _ [39, 40, 41, 42, 43, 38, 44, 45, 63, 64, 65, 66, 67, 68] (by decide +kernel) (by decide +kernel)
set_option maxRecDepth 20000 in
theorem gX2_hashHeadAndLastNode_X1_placeOfNode : GoodIn wsX2_hashHeadAndLastNode (wsV RX2 118 RX1 yX1_placeOfNode wsX1_placeOfNode) := goodIn_app (goodIn_of _ (by decide +kernel)) ggX2_hashHeadAndLastNode_X1_placeOfNode
set_option maxRecDepth 20000 in
theorem ggX2_hashHeadAndLastNode_X0_finish : GoodIn wsX2_hashHeadAndLastNode wsX0_finish := goodIn_r _ [49, 50, 16, 21, 22, 23, 8, 24, 25, 26, 27, 28, 29, 30, 31, 32, 33, 11, 34, 69, 70, 71] (by decide +kernel) (by decide +kernel)
set_option maxRecDepth 20000 in
theorem gX2_hashHeadAndLastNode_X0_finish : GoodIn wsX2_hashHeadAndLastNode (wsV RX2 138 RX0 yX0_finish wsX0_finish) := goodIn_app (goodIn_of _ (by decide +kernel)) ggX2_hashHeadAndLastNode_X0_finish
theorem dX2_hashHeadAndLastNode_0 : decode cX2_hashHeadAndLastNode 0 = .ok (.aload_n 0, 1) := by decide +kernel
theorem dX2_hashHeadAndLastNode_1 : decode cX2_hashHeadAndLastNode 1 = .ok (.getfield 30, 3) := by decide +kernel
theorem dX2_hashHeadAndLastNode_4 : decode cX2_hashHeadAndLastNode 4 = .ok (.invokevirtual 131, 3) := by decide +kernel
theorem dX2_hashHeadAndLastNode_7 : decode cX2_hashHeadAndLastNode 7 = .ok (.aload_n 0, 1) := by decide +kernel
theorem dX2_hashHeadAndLastNode_8 : decode cX2_hashHeadAndLastNode 8 = .ok (.getfield 30, 3) := by decide +kernel
theorem dX2_hashHeadAndLastNode_11 : decode cX2_hashHeadAndLastNode 11 = .ok (.aload_n 0, 1) := by decide +kernel
theorem dX2_hashHeadAndLastNode_12 : decode cX2_hashHeadAndLastNode 12 = .ok (.getfield 38, 3) := by decide +kernel
theorem dX2_hashHeadAndLastNode_15 : decode cX2_hashHeadAndLastNode 15 = .ok (.iconst 0, 1) := by decide +kernel
theorem dX2_hashHeadAndLastNode_16 : decode cX2_hashHeadAndLastNode 16 = .ok (.bipush 8, 2) := by decide +kernel
theorem dX2_hashHeadAndLastNode_18 : decode cX2_hashHeadAndLastNode 18 = .ok (.invokevirtual 134, 3) := by decide +kernel
theorem dX2_hashHeadAndLastNode_21 : decode cX2_hashHeadAndLastNode 21 = .ok (.aload_n 0, 1) := by decide +kernel
theorem dX2_hashHeadAndLastNode_22 : decode cX2_hashHeadAndLastNode 22 = .ok (.getfield 30, 3) := by decide +kernel
theorem dX2_hashHeadAndLastNode_25 : decode cX2_hashHeadAndLastNode 25 = .ok (.aload_n 0, 1) := by decide +kernel
theorem dX2_hashHeadAndLastNode_26 : decode cX2_hashHeadAndLastNode 26 = .ok (.getfield 38, 3) := by decide +kernel
theorem dX2_hashHeadAndLastNode_29 : decode cX2_hashHeadAndLastNode 29 = .ok (.aload_n 0, 1) := by decide +kernel
theorem dX2_hashHeadAndLastNode_30 : decode cX2_hashHeadAndLastNode 30 = .ok (.getfield 23, 3) := by decide +kernel
theorem dX2_hashHeadAndLastNode_33 : decode cX2_hashHeadAndLastNode 33 = .ok (.aload_n 0, 1) := by decide +kernel
theorem dX2_hashHeadAndLastNode_34 : decode cX2_hashHeadAndLastNode 34 = .ok (.getfield 23, 3) := by decide +kernel
theorem dX2_hashHeadAndLastNode_37 : decode cX2_hashHeadAndLastNode 37 = .ok (.getfield 100, 3) := by decide +kernel
theorem dX2_hashHeadAndLastNode_40 : decode cX2_hashHeadAndLastNode 40 = .ok (.iconst 1, 1) := by decide +kernel
theorem dX2_hashHeadAndLastNode_41 : decode cX2_hashHeadAndLastNode 41 = .ok (.isub, 1) := by decide +kernel
theorem dX2_hashHeadAndLastNode_42 : decode cX2_hashHeadAndLastNode 42 = .ok (.iconst 0, 1) := by decide +kernel
theorem dX2_hashHeadAndLastNode_43 : decode cX2_hashHeadAndLastNode 43 = .ok (.invokevirtual 118, 3) := by decide +kernel
theorem dX2_hashHeadAndLastNode_46 : decode cX2_hashHeadAndLastNode 46 = .ok (.bipush 32, 2) := by decide +kernel
theorem dX2_hashHeadAndLastNode_48 : decode cX2_hashHeadAndLastNode 48 = .ok (.invokevirtual 134, 3) := by decide +kernel
theorem dX2_hashHeadAndLastNode_51 : decode cX2_hashHeadAndLastNode 51 = .ok (.aload_n 0, 1) := by decide +kernel
theorem dX2_hashHeadAndLastNode_52 : decode cX2_hashHeadAndLastNode 52 = .ok (.getfield 30, 3) := by decide +kernel
theorem dX2_hashHeadAndLastNode_55 : decode cX2_hashHeadAndLastNode 55 = .ok (.invokevirtual 138, 3) := by decide +kernel
theorem dX2_hashHeadAndLastNode_58 : decode cX2_hashHeadAndLastNode 58 = .ok (.return_, 1) := by decide +kernel
set_option maxRecDepth 20000 in
theorem ggX2_faultAboveTree_X2_headByteAsTold : GoodIn wsX2_faultAboveTree wsX2_headByteAsTold := goodIn_r _ [8, 9, 10, 70, 71, 72, 73, 74, 75, 76, 77, 78, 79, 80, 81, 82, 83, 84, 85, 86, 87] (by decide +kernel) (by decide +kernel)
set_option maxRecDepth 20000 in
theorem gX2_faultAboveTree_X2_headByteAsTold : GoodIn wsX2_faultAboveTree (wsV RX2 147 RX2 yX2_headByteAsTold wsX2_headByteAsTold) := goodIn_app (goodIn_of _ (by decide +kernel)) ggX2_faultAboveTree_X2_headByteAsTold
set_option maxRecDepth 20000 in
theorem ggX2_faultAboveTree_X2_hashHeadAndLastNode : GoodIn wsX2_faultAboveTree wsX2_hashHeadAndLastNode := goodIn_r _ [14, 2, 1, 9, 15, 16, 17, 18, 19, 20, 21, 22, 23, 24, 25, 26, 27, 28, 29, 30, 31, 32, 33, 34, 35, 36, 37, 38, 39, 40, 41, 42, 43, 44, 45, 46, 47, 48, 49, 50, 51, 52, 53, 54, 55, 56, 57, 58, 59, 60, 61, 70, 71, 72, 73, 74, 75, 76, 77, 78, 79, 80, 81, 82, 83, 84, 85, 86, 87, 88, 89, 90] (by decide +kernel) (by decide +kernel)
set_option maxRecDepth 20000 in
theorem gX2_faultAboveTree_X2_hashHeadAndLastNode : GoodIn wsX2_faultAboveTree (wsV RX2 150 RX2 yX2_hashHeadAndLastNode wsX2_hashHeadAndLastNode) := goodIn_app (goodIn_of _ (by decide +kernel)) ggX2_faultAboveTree_X2_hashHeadAndLastNode
set_option maxRecDepth 20000 in
theorem ggX2_faultAboveTree_X0_resultIsAt : GoodIn wsX2_faultAboveTree wsX0_resultIsAt := goodIn_r _ [65, 66, 67, 68, 19, 69, 22, 88, 89, 90] (by decide +kernel) (by decide +kernel)
set_option maxRecDepth 20000 in
theorem gX2_faultAboveTree_X0_resultIsAt : GoodIn wsX2_faultAboveTree (wsV RX2 153 RX0 yX0_resultIsAt wsX0_resultIsAt) := goodIn_app (goodIn_of _ (by decide +kernel)) ggX2_faultAboveTree_X0_resultIsAt
theorem dX2_faultAboveTree_0 : decode cX2_faultAboveTree 0 = .ok (.iconst 0, 1) := by decide +kernel
theorem dX2_faultAboveTree_1 : decode cX2_faultAboveTree 1 = .ok (.istore_n 1, 1) := by decide +kernel
theorem dX2_faultAboveTree_2 : decode cX2_faultAboveTree 2 = .ok (.iload_n 1, 1) := by decide +kernel
theorem dX2_faultAboveTree_3 : decode cX2_faultAboveTree 3 = .ok (.bipush 8, 2) := by decide +kernel
theorem dX2_faultAboveTree_5 : decode cX2_faultAboveTree 5 = .ok (.if_icmp .ge 25, 3) := by decide +kernel
theorem dX2_faultAboveTree_8 : decode cX2_faultAboveTree 8 = .ok (.aload_n 0, 1) := by decide +kernel
theorem dX2_faultAboveTree_9 : decode cX2_faultAboveTree 9 = .ok (.getfield 38, 3) := by decide +kernel
theorem dX2_faultAboveTree_12 : decode cX2_faultAboveTree 12 = .ok (.iload_n 1, 1) := by decide +kernel
theorem dX2_faultAboveTree_13 : decode cX2_faultAboveTree 13 = .ok (.iaload, 1) := by decide +kernel
theorem dX2_faultAboveTree_14 : decode cX2_faultAboveTree 14 = .ok (.aload_n 0, 1) := by decide +kernel
theorem dX2_faultAboveTree_15 : decode cX2_faultAboveTree 15 = .ok (.iload_n 1, 1) := by decide +kernel
theorem dX2_faultAboveTree_16 : decode cX2_faultAboveTree 16 = .ok (.invokevirtual 147, 3) := by decide +kernel
theorem dX2_faultAboveTree_19 : decode cX2_faultAboveTree 19 = .ok (.if_icmp .eq 5, 3) := by decide +kernel
theorem dX2_faultAboveTree_22 : decode cX2_faultAboveTree 22 = .ok (.iconst 1, 1) := by decide +kernel
theorem dX2_faultAboveTree_23 : decode cX2_faultAboveTree 23 = .ok (.ireturn, 1) := by decide +kernel
theorem dX2_faultAboveTree_24 : decode cX2_faultAboveTree 24 = .ok (.iinc 1 1, 3) := by decide +kernel
theorem dX2_faultAboveTree_27 : decode cX2_faultAboveTree 27 = .ok (.goto (-25), 3) := by decide +kernel
theorem dX2_faultAboveTree_30 : decode cX2_faultAboveTree 30 = .ok (.aload_n 0, 1) := by decide +kernel
theorem dX2_faultAboveTree_31 : decode cX2_faultAboveTree 31 = .ok (.invokevirtual 150, 3) := by decide +kernel
theorem dX2_faultAboveTree_34 : decode cX2_faultAboveTree 34 = .ok (.aload_n 0, 1) := by decide +kernel
theorem dX2_faultAboveTree_35 : decode cX2_faultAboveTree 35 = .ok (.getfield 30, 3) := by decide +kernel
theorem dX2_faultAboveTree_38 : decode cX2_faultAboveTree 38 = .ok (.aload_n 0, 1) := by decide +kernel
theorem dX2_faultAboveTree_39 : decode cX2_faultAboveTree 39 = .ok (.getfield 42, 3) := by decide +kernel
theorem dX2_faultAboveTree_42 : decode cX2_faultAboveTree 42 = .ok (.iconst 0, 1) := by decide +kernel
theorem dX2_faultAboveTree_43 : decode cX2_faultAboveTree 43 = .ok (.invokevirtual 153, 3) := by decide +kernel
theorem dX2_faultAboveTree_46 : decode cX2_faultAboveTree 46 = .ok (.ifCond .eq 7, 3) := by decide +kernel
theorem dX2_faultAboveTree_49 : decode cX2_faultAboveTree 49 = .ok (.iconst 0, 1) := by decide +kernel
theorem dX2_faultAboveTree_50 : decode cX2_faultAboveTree 50 = .ok (.goto 4, 3) := by decide +kernel
theorem dX2_faultAboveTree_53 : decode cX2_faultAboveTree 53 = .ok (.iconst 2, 1) := by decide +kernel
theorem dX2_faultAboveTree_54 : decode cX2_faultAboveTree 54 = .ok (.ireturn, 1) := by decide +kernel
set_option maxRecDepth 20000 in
theorem ggX2_faultOfNode_X2_hashNode : GoodIn wsX2_faultOfNode wsX2_hashNode := goodIn_r _ [8, 1, 2, 3, 9, 10, 11, 12, 13, 14, 15, 16, 17, 18, 19, 20, 21, 22, 23, 24, 25, 26, 27, 28, 29, 30, 31, 32, 33, 34, 35, 36, 37, 38, 39, 40, 41, 42, 43, 44, 45, 46, 47, 48, 49, 50, 51, 7, 52, 53, 54, 55, 56, 57, 58, 59, 60, 61, 62, 63, 64, 65, 66, 67, 76, 77, 78, 79, 80, 81, 82, 83, 84, 85, 86, 87, 88, 89, 90, 91, 92, 93, 94, 95, 96] (by decide +kernel) (by decide +kernel)
set_option maxRecDepth 20000 in
theorem gX2_faultOfNode_X2_hashNode : GoodIn wsX2_faultOfNode (wsV RX2 157 RX2 yX2_hashNode wsX2_hashNode) := goodIn_app (goodIn_of _ (by decide +kernel)) ggX2_faultOfNode_X2_hashNode
set_option maxRecDepth 20000 in
theorem ggX2_faultOfNode_X1_placeOfNode : GoodIn wsX2_faultOfNode wsX1_placeOfNode := goodIn_r _ [56, 57, 58, 59, 60, 38, 61, 62, 91, 92, 93, 94, 95, 96] (by decide +kernel) (by decide +kernel)
set_option maxRecDepth 20000 in
theorem gX2_faultOfNode_X1_placeOfNode : GoodIn wsX2_faultOfNode (wsV RX2 118 RX1 yX1_placeOfNode wsX1_placeOfNode) := goodIn_app (goodIn_of _ (by decide +kernel)) ggX2_faultOfNode_X1_placeOfNode
set_option maxRecDepth 20000 in
theorem ggX2_faultOfNode_X0_resultIsAt : GoodIn wsX2_faultOfNode wsX0_resultIsAt := goodIn_r _ [71, 72, 73, 74, 12, 75, 15, 88, 89, 90] (by decide +kernel) (by decide +kernel)
set_option maxRecDepth 20000 in
theorem gX2_faultOfNode_X0_resultIsAt : GoodIn wsX2_faultOfNode (wsV RX2 153 RX0 yX0_resultIsAt wsX0_resultIsAt) := goodIn_app (goodIn_of _ (by decide +kernel)) ggX2_faultOfNode_X0_resultIsAt
theorem dX2_faultOfNode_0 : decode cX2_faultOfNode 0 = .ok (.aload_n 0, 1) := by decide +kernel
theorem dX2_faultOfNode_1 : decode cX2_faultOfNode 1 = .ok (.iload_n 1, 1) := by decide +kernel
theorem dX2_faultOfNode_2 : decode cX2_faultOfNode 2 = .ok (.iload_n 2, 1) := by decide +kernel
theorem dX2_faultOfNode_3 : decode cX2_faultOfNode 3 = .ok (.invokevirtual 157, 3) := by decide +kernel
theorem dX2_faultOfNode_6 : decode cX2_faultOfNode 6 = .ok (.aload_n 0, 1) := by decide +kernel
theorem dX2_faultOfNode_7 : decode cX2_faultOfNode 7 = .ok (.getfield 30, 3) := by decide +kernel
theorem dX2_faultOfNode_10 : decode cX2_faultOfNode 10 = .ok (.aload_n 0, 1) := by decide +kernel
theorem dX2_faultOfNode_11 : decode cX2_faultOfNode 11 = .ok (.getfield 38, 3) := by decide +kernel
theorem dX2_faultOfNode_14 : decode cX2_faultOfNode 14 = .ok (.aload_n 0, 1) := by decide +kernel
theorem dX2_faultOfNode_15 : decode cX2_faultOfNode 15 = .ok (.getfield 23, 3) := by decide +kernel
theorem dX2_faultOfNode_18 : decode cX2_faultOfNode 18 = .ok (.iload_n 1, 1) := by decide +kernel
theorem dX2_faultOfNode_19 : decode cX2_faultOfNode 19 = .ok (.iload_n 2, 1) := by decide +kernel
theorem dX2_faultOfNode_20 : decode cX2_faultOfNode 20 = .ok (.invokevirtual 118, 3) := by decide +kernel
theorem dX2_faultOfNode_23 : decode cX2_faultOfNode 23 = .ok (.invokevirtual 153, 3) := by decide +kernel
theorem dX2_faultOfNode_26 : decode cX2_faultOfNode 26 = .ok (.ifCond .eq 7, 3) := by decide +kernel
theorem dX2_faultOfNode_29 : decode cX2_faultOfNode 29 = .ok (.iconst 0, 1) := by decide +kernel
theorem dX2_faultOfNode_30 : decode cX2_faultOfNode 30 = .ok (.goto 6, 3) := by decide +kernel
theorem dX2_faultOfNode_33 : decode cX2_faultOfNode 33 = .ok (.iconst 3, 1) := by decide +kernel
theorem dX2_faultOfNode_34 : decode cX2_faultOfNode 34 = .ok (.iload_n 1, 1) := by decide +kernel
theorem dX2_faultOfNode_35 : decode cX2_faultOfNode 35 = .ok (.iadd, 1) := by decide +kernel
theorem dX2_faultOfNode_36 : decode cX2_faultOfNode 36 = .ok (.ireturn, 1) := by decide +kernel
set_option maxRecDepth 20000 in
theorem ggX2_surveyTree_X2_faultAboveTree : GoodIn wsX2_surveyTree wsX2_faultAboveTree := goodIn_r _ [9, 10, 11, 12, 13, 14, 15, 8, 16, 1, 17, 18, 19, 20, 21, 2, 22, 23, 24, 25, 26, 27, 28, 29, 30, 31, 32, 33, 34, 35, 36, 37, 38, 39, 40, 41, 42, 43, 44, 45, 46, 47, 48, 49, 50, 51, 52, 53, 54, 55, 56, 57, 58, 59, 60, 61, 62, 63, 64, 65, 66, 67, 68, 69, 70, 71, 72, 73, 74, 75, 98, 99, 100, 101, 102, 103, 104, 105, 106, 107, 108, 109, 110, 111, 112, 113, 114, 115, 116, 117, 118] (by decide +kernel) (by decide +kernel)
set_option maxRecDepth 20000 in
theorem gX2_surveyTree_X2_faultAboveTree : GoodIn wsX2_surveyTree (wsV RX2 96 RX2 yX2_faultAboveTree wsX2_faultAboveTree) := goodIn_app (goodIn_of _ (by decide +kernel)) ggX2_surveyTree_X2_faultAboveTree
set_option maxRecDepth 20000 in
theorem ggX2_surveyTree_X1_numberOfNode : GoodIn wsX2_surveyTree wsX1_numberOfNode := goodIn_r _ [61, 62, 110, 111, 112, 113, 114, 115] (by decide +kernel) (by decide +kernel)
set_option maxRecDepth 20000 in
theorem gX2_surveyTree_X1_numberOfNode : GoodIn wsX2_surveyTree (wsV RX2 112 RX1 yX1_numberOfNode wsX1_numberOfNode) := goodIn_app (goodIn_of _ (by decide +kernel)) ggX2_surveyTree_X1_numberOfNode
set_option maxRecDepth 20000 in
theorem ggX2_surveyTree_X2_faultOfNode : GoodIn wsX2_surveyTree wsX2_faultOfNode := goodIn_r _ [80, 11, 10, 1, 81, 82, 83, 8, 84, 22, 23, 24, 25, 26, 27, 28, 29, 30, 31, 32, 33, 85, 39, 40, 41, 42, 43, 44, 45, 46, 47, 48, 49, 50, 51, 86, 87, 88, 55, 89, 34, 35, 36, 37, 38, 90, 91, 92, 93, 94, 95, 96, 97, 52, 53, 54, 56, 57, 58, 59, 60, 61, 62, 63, 64, 65, 66, 67, 68, 69, 70, 71, 72, 73, 74, 75, 98, 99, 100, 101, 102, 103, 104, 105, 106, 107, 108, 109, 116, 117, 118, 110, 111, 112, 113, 114, 115] (by decide +kernel) (by decide +kernel)
set_option maxRecDepth 20000 in
theorem gX2_surveyTree_X2_faultOfNode : GoodIn wsX2_surveyTree (wsV RX2 103 RX2 yX2_faultOfNode wsX2_faultOfNode) := goodIn_app (goodIn_of _ (by decide +kernel)) ggX2_surveyTree_X2_faultOfNode
theorem dX2_surveyTree_0 : decode cX2_surveyTree 0 = .ok (.aload_n 0, 1) := by decide +kernel
theorem dX2_surveyTree_1 : decode cX2_surveyTree 1 = .ok (.invokevirtual 96, 3) := by decide +kernel
theorem dX2_surveyTree_4 : decode cX2_surveyTree 4 = .ok (.istore_n 1, 1) := by decide +kernel
theorem dX2_surveyTree_5 : decode cX2_surveyTree 5 = .ok (.aload_n 0, 1) := by decide +kernel
theorem dX2_surveyTree_6 : decode cX2_surveyTree 6 = .ok (.getfield 23, 3) := by decide +kernel
theorem dX2_surveyTree_9 : decode cX2_surveyTree 9 = .ok (.getfield 100, 3) := by decide +kernel
theorem dX2_surveyTree_12 : decode cX2_surveyTree 12 = .ok (.iconst 1, 1) := by decide +kernel
theorem dX2_surveyTree_13 : decode cX2_surveyTree 13 = .ok (.isub, 1) := by decide +kernel
theorem dX2_surveyTree_14 : decode cX2_surveyTree 14 = .ok (.istore_n 2, 1) := by decide +kernel
theorem dX2_surveyTree_15 : decode cX2_surveyTree 15 = .ok (.iload_n 2, 1) := by decide +kernel
theorem dX2_surveyTree_16 : decode cX2_surveyTree 16 = .ok (.istore_n 3, 1) := by decide +kernel
theorem dX2_surveyTree_17 : decode cX2_surveyTree 17 = .ok (.iload_n 3, 1) := by decide +kernel
theorem dX2_surveyTree_18 : decode cX2_surveyTree 18 = .ok (.ifCond .lt 94, 3) := by decide +kernel
theorem dX2_surveyTree_21 : decode cX2_surveyTree 21 = .ok (.iconst 0, 1) := by decide +kernel
end
section
/-! ===== Int32 by its bits: bt x i ===== -/
def bt (x : Int32) (i : Nat) : Bool := x.toBitVec.getLsbD i
theorem b_ext {x y : Int32} (h : ∀ i, i < 32 → bt x i = bt y i) : x = y := Int32.toBitVec_inj.mp (BitVec.eq_of_getLsbD_eq (fun i hi => h i hi))
theorem b_or (x y : Int32) (i : Nat) : bt (x ||| y) i = (bt x i || bt y i) := by unfold bt; rw [Int32.toBitVec_or, BitVec.getLsbD_or]
theorem b_and (x y : Int32) (i : Nat) : bt (x &&& y) i = (bt x i && bt y i) := by unfold bt; rw [Int32.toBitVec_and, BitVec.getLsbD_and]
theorem b_xor (x y : Int32) (i : Nat) : bt (x ^^^ y) i = (bt x i ^^ bt y i) := by unfold bt; rw [Int32.toBitVec_xor, BitVec.getLsbD_xor]
theorem b_big {x : Int32} {i : Nat} (h : 32 ≤ i) : bt x i = false := BitVec.getLsbD_of_ge _ _ h
theorem b_255 (i : Nat) : bt 255 i = decide (i < 8) := by
  rcases Nat.lt_or_ge i 32 with h | h
  · exact (by decide +kernel : ∀ i, i < 32 → bt 255 i = decide (i < 8)) i h
  · rw [b_big h, decide_eq_false (by omega)]
theorem b_65535 (i : Nat) : bt 65535 i = decide (i < 16) := by
  rcases Nat.lt_or_ge i 32 with h | h
  · exact (by decide +kernel : ∀ i, i < 32 → bt 65535 i = decide (i < 16)) i h
  · rw [b_big h, decide_eq_false (by omega)]
theorem b_m1 : ∀ i, i < 32 → bt (-1) i = true := by decide +kernel
theorem b_0 (i : Nat) : bt 0 i = false := BitVec.getLsbD_zero
theorem s_l : ∀ n, n < 32 → ((nI n &&& 31).toBitVec.smod 32).toNat = n := by decide +kernel
theorem s_u : ∀ n, n < 32 → (((nI n).toUInt32 &&& Int32.toUInt32 31).toBitVec % 32).toNat = n := by decide +kernel
theorem b_shl (n : Nat) (hn : n < 32) (x : Int32) {i : Nat} (hi : i < 32) : bt (x <<< (nI n &&& 31)) i = (decide (n ≤ i) && bt x (i - n)) := by
  unfold bt
  rw [Int32.toBitVec_shiftLeft]
  show (x.toBitVec <<< ((nI n &&& 31).toBitVec.smod 32).toNat).getLsbD i = _
  rw [s_l n hn, BitVec.getLsbD_shiftLeft]
  rcases Nat.lt_or_ge i n with h | h
  · simp [h, Nat.not_le.mpr h]
  · simp [hi, h, Nat.not_lt.mpr h]
theorem b_ushr (n : Nat) (hn : n < 32) (x : Int32) (i : Nat) : bt ((x.toUInt32 >>> ((nI n).toUInt32 &&& Int32.toUInt32 31)).toInt32) i = bt x (n + i) := by
  show (x.toUInt32 >>> ((nI n).toUInt32 &&& Int32.toUInt32 31)).toBitVec.getLsbD i = x.toUInt32.toBitVec.getLsbD (n + i)
  rw [UInt32.toBitVec_shiftRight]
  show (x.toUInt32.toBitVec >>> (((nI n).toUInt32 &&& Int32.toUInt32 31).toBitVec % 32).toNat).getLsbD i = _
  rw [s_u n hn, BitVec.getLsbD_ushiftRight]
theorem b_sshr (n : Nat) (hn : n < 32) (x : Int32) {i : Nat} (hi : i < 32) : bt (x >>> (nI n &&& 31)) i = if n + i < 32 then bt x (n + i) else bt x 31 := by
  unfold bt
  rw [Int32.toBitVec_shiftRight]
  show (x.toBitVec.sshiftRight ((nI n &&& 31).toBitVec.smod 32).toNat).getLsbD i = _
  rw [s_l n hn, BitVec.getLsbD_sshiftRight, BitVec.msb_eq_getLsbD_last]
  simp [hi]
theorem b_shl8 (x : Int32) {i : Nat} (hi : i < 32) : bt (x <<< ((8 : Int32) &&& 31)) i = (decide (8 ≤ i) && bt x (i - 8)) := b_shl 8 (by omega) x hi
theorem b_shl16 (x : Int32) {i : Nat} (hi : i < 32) : bt (x <<< ((16 : Int32) &&& 31)) i = (decide (16 ≤ i) && bt x (i - 16)) := b_shl 16 (by omega) x hi
theorem b_shl24 (x : Int32) {i : Nat} (hi : i < 32) : bt (x <<< ((24 : Int32) &&& 31)) i = (decide (24 ≤ i) && bt x (i - 24)) := b_shl 24 (by omega) x hi
theorem b_sshr8 (x : Int32) {i : Nat} (hi : i < 32) : bt (x >>> ((8 : Int32) &&& 31)) i = if 8 + i < 32 then bt x (8 + i) else bt x 31 := b_sshr 8 (by omega) x hi
/-! ===== nI under and, xor, >>>, one bit, 65535 ===== -/
theorem nx_and (a b : Nat) : nI a &&& nI b = nI (a &&& b) := by
  apply Int32.toBitVec_inj.1
  show BitVec.ofNat 32 a &&& BitVec.ofNat 32 b = BitVec.ofNat 32 (a &&& b)
  apply BitVec.eq_of_getLsbD_eq
  intro i hi
  simp [hi]
theorem nx_xor (a b : Nat) : nI a ^^^ nI b = nI (a ^^^ b) := by
  apply Int32.toBitVec_inj.1
  show BitVec.ofNat 32 a ^^^ BitVec.ofNat 32 b = BitVec.ofNat 32 (a ^^^ b)
  apply BitVec.eq_of_getLsbD_eq
  intro i hi
  simp [hi]
theorem nx_cnt : ∀ j : Fin 32, (UInt32.ofNat j.val &&& Int32.toUInt32 31).toNat % 32 = j.val := by decide +kernel
theorem nx_ush {k j : Nat} (hk : k < 65536) (hj : j < 32) : ((nI k).toUInt32 >>> ((nI j).toUInt32 &&& Int32.toUInt32 31)).toInt32 = nI (k >>> j) := by
  have hs : k >>> j ≤ k := by
    rw [Nat.shiftRight_eq_div_pow]
    exact Nat.div_le_self _ _
  have e2 : UInt32.ofNat k >>> (UInt32.ofNat j &&& Int32.toUInt32 31) = UInt32.ofNat (k >>> j) := by
    apply UInt32.toNat_inj.1
    have h1 : (UInt32.ofNat k).toNat = k := Nat.mod_eq_of_lt (by omega)
    have h2 : (UInt32.ofNat (k >>> j)).toNat = k >>> j := Nat.mod_eq_of_lt (by omega)
    rw [UInt32.toNat_shiftRight, nx_cnt ⟨j, hj⟩, h1, h2]
  show (UInt32.ofNat k >>> (UInt32.ofNat j &&& Int32.toUInt32 31)).toInt32 = _
  rw [e2]
  rfl
theorem nx_bit {k j : Nat} (hk : k < 65536) (hj : j < 16) : (((nI k).toUInt32 >>> ((nI j).toUInt32 &&& Int32.toUInt32 31)).toInt32 &&& 1) = 0 ↔ k.testBit j = false := by
  rw [nx_ush hk (by omega)]
  show nI (k >>> j) &&& nI 1 = 0 ↔ _
  rw [nx_and, Nat.and_one_is_mod, ← nI_0, nI_eq (by omega) (by omega), Nat.testBit_eq_decide_div_mod_eq, Nat.shiftRight_eq_div_pow, decide_eq_false_iff_not]
  generalize k / 2 ^ j = z
  omega
theorem nx_mod (k : Nat) : nI k &&& 65535 = nI (k % 65536) := by
  show nI k &&& nI 65535 = _
  rw [nx_and, show (65535 : Nat) = 2 ^ 16 - 1 from rfl, Nat.and_two_pow_sub_one_eq_mod]
theorem nx_m16 {k : Nat} (h : k < 65536) : nI k &&& 65535 = nI k := by rw [nx_mod, Nat.mod_eq_of_lt h]
theorem nx_mask (x : Int32) : ∃ k, k < 65536 ∧ x &&& 65535 = nI k := by
  have e : x = nI x.toBitVec.toNat := by
    apply Int32.toBitVec_inj.1
    show x.toBitVec = BitVec.ofNat 32 x.toBitVec.toNat
    simp
  refine ⟨x.toBitVec.toNat % 65536, Nat.mod_lt _ (by omega), ?_⟩
  rw [← nx_mod, ← e]
/-! ===== lN n to 2^64: shifts, and, or, masks, one bit ===== -/
theorem wb_tb (n : Nat) : (lN n).toBitVec = BitVec.ofNat 64 n := rfl
theorem wb_inj {a b : Int64} (h : a.toBitVec = b.toBitVec) : a = b := Int64.toBitVec_inj.mp h
theorem wb_tn {n : Nat} (h : n < 2 ^ 64) : (lN n).toBitVec.toNat = n := by rw [wb_tb, BitVec.toNat_ofNat, Nat.mod_eq_of_lt h]
theorem wb_of (x : Int64) : ∃ n, n < 2 ^ 64 ∧ x = lN n := ⟨x.toBitVec.toNat, x.toBitVec.isLt, wb_inj (by rw [wb_tb]; simp)⟩
theorem wb_of32 (x : Int32) : ∃ n, n < 2 ^ 32 ∧ x = nI n := ⟨x.toBitVec.toNat, x.toBitVec.isLt, Int32.toBitVec_inj.mp (by show _ = BitVec.ofNat 32 _; simp)⟩
theorem wb_c : ∀ k, k < 64 → ((nI k).toInt64 &&& 63) = lN k := by decide +kernel
theorem wb_cu : ∀ k, k < 64 → ((nI k).toInt64.toUInt64 &&& Int64.toUInt64 63) = UInt64.ofNat k := by decide +kernel
theorem wb_sm : ∀ k, k < 64 → (BitVec.ofNat 64 k).smod 64 = BitVec.ofNat 64 k := by decide +kernel
theorem wb_pw {a b : Nat} (h : a ≤ b) : 2 ^ b = 2 ^ a * 2 ^ (b - a) := by rw [← Nat.pow_add]; congr 1; omega
theorem wb_lt2 {a b : Nat} (h : a < b) : 2 ^ a < 2 ^ b := Nat.pow_lt_pow_right (by decide) h
theorem wb_mod (n : Nat) : lN n = lN (n % 2 ^ 64) := wb_inj (by rw [wb_tb, wb_tb]; apply BitVec.eq_of_toNat_eq; rw [BitVec.toNat_ofNat, BitVec.toNat_ofNat, Nat.mod_mod])
theorem wb_shr {n k : Nat} (hn : n < 2 ^ 64) (hk : k < 64) : ((lN n).toUInt64 >>> ((nI k).toInt64.toUInt64 &&& Int64.toUInt64 63)).toInt64 = lN (n / 2 ^ k) := by
  rw [wb_cu k hk]
  apply wb_inj
  apply BitVec.eq_of_toNat_eq
  show ((lN n).toUInt64 >>> UInt64.ofNat k).toNat = (BitVec.ofNat 64 _).toNat
  have h1 : (UInt64.ofNat k).toNat = k := by
    show (BitVec.ofNat 64 k).toNat = k
    rw [BitVec.toNat_ofNat, Nat.mod_eq_of_lt (by omega)]
  have h2 : (lN n).toUInt64.toNat = n := wb_tn hn
  rw [UInt64.toNat_shiftRight, h1, h2, Nat.mod_eq_of_lt hk, Nat.shiftRight_eq_div_pow, BitVec.toNat_ofNat, Nat.mod_eq_of_lt (Nat.lt_of_le_of_lt (Nat.div_le_self _ _) hn)]
theorem wb_shl (n : Nat) {k : Nat} (hk : k < 64) : lN n <<< ((nI k).toInt64 &&& 63) = lN (n * 2 ^ k) := by
  rw [wb_c k hk]
  apply wb_inj
  rw [Int64.toBitVec_shiftLeft, wb_tb, wb_tb, wb_tb, wb_sm k hk]
  apply BitVec.eq_of_toNat_eq
  rw [BitVec.shiftLeft_eq', BitVec.toNat_shiftLeft, BitVec.toNat_ofNat, BitVec.toNat_ofNat, BitVec.toNat_ofNat, Nat.mod_eq_of_lt (show k < 2 ^ 64 by omega), Nat.shiftLeft_eq, Nat.mul_mod, Nat.mod_mod, ← Nat.mul_mod]
theorem wb_and {a b : Nat} (ha : a < 2 ^ 64) (hb : b < 2 ^ 64) : lN a &&& lN b = lN (a &&& b) := by
  apply wb_inj
  rw [Int64.toBitVec_and, wb_tb, wb_tb, wb_tb]
  apply BitVec.eq_of_toNat_eq
  rw [BitVec.toNat_and, BitVec.toNat_ofNat, BitVec.toNat_ofNat, BitVec.toNat_ofNat, Nat.mod_eq_of_lt ha, Nat.mod_eq_of_lt hb, Nat.mod_eq_of_lt (Nat.and_lt_two_pow _ hb)]
theorem wb_or {a b : Nat} (ha : a < 2 ^ 64) (hb : b < 2 ^ 64) : lN a ||| lN b = lN (a ||| b) := by
  apply wb_inj
  rw [Int64.toBitVec_or, wb_tb, wb_tb, wb_tb]
  apply BitVec.eq_of_toNat_eq
  rw [BitVec.toNat_or, BitVec.toNat_ofNat, BitVec.toNat_ofNat, BitVec.toNat_ofNat, Nat.mod_eq_of_lt ha, Nat.mod_eq_of_lt hb, Nat.mod_eq_of_lt (Nat.or_lt_two_pow ha hb)]
theorem wb_mask {n k : Nat} (hn : n < 2 ^ 64) (hk : k < 64) : lN n &&& lN (2 ^ k - 1) = lN (n % 2 ^ k) := by
  rw [wb_and hn (by have := wb_lt2 hk; omega), Nat.and_two_pow_sub_one_eq_mod]
theorem wb_a1 {n : Nat} (hn : n < 2 ^ 64) : lN n &&& 1 = lN (n % 2) := wb_mask (k := 1) hn (by decide)
theorem wb_bit {n k : Nat} (hn : n < 2 ^ 64) (hk : k < 64) : ((lN n).toUInt64 >>> ((nI k).toInt64.toUInt64 &&& Int64.toUInt64 63)).toInt64 &&& 1 = lN (n / 2 ^ k % 2) := by
  rw [wb_shr hn hk, wb_a1 (Nat.lt_of_le_of_lt (Nat.div_le_self _ _) hn)]
theorem wb_xor {q k : Nat} (hk : k < 63) (h : 2 ^ k ≤ q) (h2 : q < 2 ^ (k + 1)) : lN q ^^^ lN (2 ^ k) = lN (q - 2 ^ k) := by
  obtain ⟨r, rfl⟩ : ∃ r, q = 2 ^ k + r := ⟨q - 2 ^ k, by omega⟩
  have hr : r < 2 ^ k := by rw [Nat.pow_succ] at h2; omega
  have hx : (2 ^ k + r) ^^^ 2 ^ k = r := by
    apply Nat.eq_of_testBit_eq
    intro i
    rw [Nat.testBit_xor, Nat.testBit_two_pow]
    rcases Nat.lt_trichotomy i k with h | h | h
    · rw [Nat.testBit_two_pow_add_gt h]
      simp [show ¬ k = i by omega]
    · subst h
      rw [Nat.testBit_two_pow_add_eq]
      simp
    · have a1 : 2 ^ (k + 1) ≤ 2 ^ i := Nat.pow_le_pow_right (by decide) h
      rw [Nat.testBit_lt_two_pow (show 2 ^ k + r < 2 ^ i by omega), Nat.testBit_lt_two_pow (show r < 2 ^ i by omega)]
      simp [show ¬ k = i by omega]
  have b1 := wb_lt2 (show k + 1 < 64 by omega)
  have b2 := wb_lt2 (show k < 64 by omega)
  apply wb_inj
  rw [Int64.toBitVec_xor, wb_tb, wb_tb, wb_tb]
  apply BitVec.eq_of_toNat_eq
  rw [BitVec.toNat_xor, BitVec.toNat_ofNat, BitVec.toNat_ofNat, BitVec.toNat_ofNat, Nat.mod_eq_of_lt (by omega : 2 ^ k + r < 2 ^ 64), Nat.mod_eq_of_lt b2, hx, Nat.add_sub_cancel_left, Nat.mod_eq_of_lt (by omega)]
end
section
/-! own kit: one world for all methods of an object (no cell is made behind its constructor), contracts CI, CV over it -/
def hC (j : Nat) : Int32 := ([1779033703, -1150833019, 1013904242, -1521486534, 1359893119, -1694144372, 528734635, 1541459225] : List Int32).getD j 0
def kC (j : Nat) : Int32 := ([1116352408, 1899447441, -1245643825, -373957723, 961987163, 1508970993, -1841331548, -1424204075, -670586216, 310598401, 607225278, 1426881987, 1925078388, -2132889090, -1680079193, -1046744716, -459576895, -272742522, 264347078, 604807628, 770255983, 1249150122, 1555081692, 1996064986, -1740746414, -1473132947, -1341970488, -1084653625, -958395405, -710438585, 113926993, 338241895, 666307205, 773529912, 1294757372, 1396182291, 1695183700, 1986661051, -2117940946, -1838011259, -1564481375, -1474664885, -1035236496, -949202525, -778901479, -694614492, -200395387, 275423344, 430227734, 506948616, 659060556, 883997877, 958139571, 1322822218, 1537002063, 1747873779, 1955562222, 2024104815, -2067236844, -1933114872, -1866530822, -1538233109, -1090935817, -965641998] : List Int32).getD j 0
def gA (g : Nat → Nat) (n : Nat) : Nat → Prop := fun q => ∃ k, k < n ∧ q = g k
def wA (g : Nat → Nat) (n sz : Nat) : Nat → Prop := fun q => (∃ k, k < n ∧ q = g k) ∨ sz ≤ q
def xN (U : State) : Prop := va_Nw (.methodLinkNest "SealedPages$Layout" 31 ⟨"SealedPages", "isBelow", "(II)Z"⟩ "SealedPages") U
def xT (tF tC : Nat) (A : Nat → Prop) (U : State) (H : Heap) : Prop := va_Z "SealedPages$Hasher" "FIRST_SUMS" "[I" (.ref tF) A U H ∧ va_T .int tF 8 (fun j => .int (hC j)) A U H ∧ va_Z "SealedPages$Hasher" "CONSTANTS" "[I" (.ref tC) A U H ∧ va_T .int tC 64 (fun j => .int (kC j)) A U H ∧ xN U
theorem xT.warm {tF tC : Nat} {A : Nat → Prop} {u U : State} {H : Heap} (hW : u.WarmedH U.vm) (h : xT tF tC A u H) : xT tF tC A U H := ⟨h.1.moved hW.alike, h.2.1.moved hW.alike, h.2.2.1.moved hW.alike, h.2.2.2.1.moved hW.alike, va_Nw.warmM hW h.2.2.2.2⟩
theorem xT.called {tF tC : Nat} {A : Nat → Prop} {U : State} {H : Heap} {gf : JFrame} {mk : MethodId} {a : Array Value} (h : xT tF tC A U H) : xT tF tC A (U.calling gf mk a) H := ⟨va_Z.moved (u := U) (U := U.calling gf mk a) (Vm.Alike.refl U.vm) h.1, va_T.moved (u := U) (U := U.calling gf mk a) (Vm.Alike.refl U.vm) h.2.1, va_Z.moved (u := U) (U := U.calling gf mk a) (Vm.Alike.refl U.vm) h.2.2.1, va_T.moved (u := U) (U := U.calling gf mk a) (Vm.Alike.refl U.vm) h.2.2.2.1, va_Nw.same (u := U) (U := U.calling gf mk a) rfl rfl h.2.2.2.2⟩
theorem xT.kept {tF tC : Nat} {A : Nat → Prop} {U : State} {H H1 : Heap} (h : xT tF tC A U H) (hq : ∀ a : Nat, a < H.size → ¬ A a → H1[a]? = H[a]?) : xT tF tC A U H1 := ⟨h.1.kept hq, h.2.1.kept hq, h.2.2.1.kept hq, h.2.2.2.1.kept hq, h.2.2.2.2⟩
theorem xT.narrow {tF tC : Nat} {A B : Nat → Prop} {U : State} {H : Heap} (h : xT tF tC A U H) (hAB : ∀ q, B q → A q) : xT tF tC B U H := ⟨h.1.narrow hAB, h.2.1.narrow hAB, h.2.2.1.narrow hAB, h.2.2.2.1.narrow hAB, h.2.2.2.2⟩
def cPre (G : va_G) (cA : ClassId) (tF tC : Nat) (g : Nat → Nat) (n : Nat) (w : va_W) (sz : Nat) (U : State) : Prop := U.heap.size = sz ∧ va_P G vwCl w U.heap ∧ va_K G vwCl [(cA, .int)] U ∧ va_D (gA g n) w ∧ xT tF tC (wA g n sz) U U.heap
def cAt (G : va_G) (cA : ClassId) (g : Nat → Nat) (n : Nat) (w : va_W) (t : State) : Prop := va_P G vwCl w t.heap ∧ va_K G vwCl [(cA, .int)] t ∧ va_D (gA g n) w
theorem cPre_blind {G : va_G} {cA : ClassId} {tF tC : Nat} {g : Nat → Nat} {n : Nat} {w : va_W} {sz : Nat} {av : List Value} : FrameBlind (va_Pc av (cPre G cA tF tC g n w sz)) := by
  intro a U gf mk q
  obtain ⟨q0, q1, qP, qK, qD, qT⟩ := q
  exact ⟨q0, q1, qP, va_K.moved (u := U) (U := U.calling gf mk a) (Vm.Alike.refl U.vm) qK, qD, qT.called⟩
def CI (l : Launch) (y : MethodName) (ws : List Cond) (fr lo : Nat) (G : va_G) (cA : ClassId) (tF tC : Nat) (g : Nat → Nat) (n sz : Nat) (w : va_W) (av : List Value) {S : Type} (ww : S → va_W) (post : Int32 → S → Prop) : Prop :=
  Met l y ws { frames := fr, cells := 0, slots := 0, locals := lo } (va_Pc av (cPre G cA tF tC g n w sz)) (va_Qi post (fun u t => cAt G cA g n (ww u) t) (wA g n sz)) 0 0 (wA g n sz)
def CV (l : Launch) (y : MethodName) (ws : List Cond) (fr lo : Nat) (G : va_G) (cA : ClassId) (tF tC : Nat) (g : Nat → Nat) (n sz : Nat) (w : va_W) (av : List Value) {S : Type} (ww : S → va_W) (post : S → Prop) : Prop :=
  Met l y ws { frames := fr, cells := 0, slots := 0, locals := lo } (va_Pc av (cPre G cA tF tC g n w sz)) (va_Qv post (fun u t => cAt G cA g n (ww u) t) (wA g n sz)) 0 0 (wA g n sz)
theorem gA_of {G : Nat → Prop} {g : Nat → Nat} {n : Nat} {w : va_W} (hg : w.map Prod.fst = (List.range n).map g) (hD : va_D G w) : va_D (gA g n) w := by
  refine ⟨hD.1, fun k q hk => ?_⟩
  have h1 : (w.map Prod.fst)[k]? = some q.1 := by rw [List.getElem?_map, hk]; rfl
  rw [hg] at h1
  obtain ⟨j, hj, he⟩ := List.mem_map.mp (List.mem_of_getElem? h1)
  exact ⟨j, List.mem_range.mp hj, he.symm⟩
theorem gA_w {g : Nat → Nat} {n sz : Nat} {w : va_W} (hD : va_D (gA g n) w) : va_D (wA g n sz) w := hD.weaken (fun _ _ _ h => Or.inl h)
section KX
variable {p : Program} {l : Launch} {e : Env} {R : Room} {s : State} {m : MethodId} {args : Array Value} {below : List Frame} {meth : Method} {c : Code} {H : Heap} {locs : List Loc} {cells slots : Nat} {Q : State → Prop}
variable {cc bytes : ByteArray} {pc nL maxL index k fr lo : Nat} {ls : Array Slot} {rest As st0 : List Value} {G : va_G} {cA : ClassId} {tF tC : Nat} {g : Nat → Nat} {n sz : Nat} {w : va_W} {own C host : String} {y : MethodName} {ret : Option FieldType} {ws ws' Ts : List Cond} {b : Nat} {S : Type} {ww : S → va_W} {postI : Int32 → S → Prop} {postV : S → Prop} {av : List Value}
theorem x_pre (hK : va_K G vwCl [(cA, .int)] s) (hP : va_P G vwCl w H) (hD : va_D (wA g n s.heap.size) w) (hS : va_S (wA g n s.heap.size) s.heap H locs) (hT : xT tF tC (wA g n s.heap.size) s s.heap) (hg : w.map Prod.fst = (List.range n).map g) : ∀ U : State, U.heap = H → s.WarmedH U.vm → cPre G cA tF tC g n w H.size U := by
  intro U hU hW
  refine ⟨by rw [hU], by rw [hU]; exact hP, va_K.moved hW.alike hK, gA_of hg hD, ?_⟩
  rw [hU]
  exact ((hT.warm hW).kept hS.2.1).narrow (fun q h => h.elim Or.inl (fun h => Or.inr (Nat.le_trans hS.1 h)))
theorem x_sub (hS : va_S (wA g n s.heap.size) s.heap H locs) : ∀ q, wA g n H.size q → wA g n s.heap.size q := fun q h => h.elim Or.inl (fun h => Or.inr (Nat.le_trans hS.1 h))
theorem x_runI (hr : va_Run p l e R s m args below meth c H locs cells slots 0 0 (F0 m pc ls st0) rest (va_Qi postI (fun u t => cAt G cA g n (ww u) t) (wA g n H.size) av.toArray) (wA g n H.size)) (hS : va_S (wA g n s.heap.size) s.heap H locs)
    (kk : ∀ (r : Int32) (u : S) (H1 : Heap) (locs1 : List Loc), postI r u → va_P G vwCl (ww u) H1 → va_D (wA g n s.heap.size) (ww u) → va_S (wA g n s.heap.size) s.heap H1 locs1 → W p l e R s m args below meth c H1 locs1 cells slots Q (F0 m (pc + 3) ls (.int r :: rest))) : W p l e R s m args below meth c H locs cells slots Q (F0 m pc ls st0) := by
  refine va_calli hr hS (fun q _ h => x_sub hS q h) (x_sub hS) (fun r u t H1 locs1 ht hvm hw hB hz hk hS1 => ?_)
  obtain ⟨hP1, hK1, hD1⟩ := hB
  rw [ht] at hP1
  exact kk r u H1 locs1 hw hP1 (gA_w hD1) hS1
theorem x_runV (hr : va_Run p l e R s m args below meth c H locs cells slots 0 0 (F0 m pc ls st0) rest (va_Qv postV (fun u t => cAt G cA g n (ww u) t) (wA g n H.size) av.toArray) (wA g n H.size)) (hS : va_S (wA g n s.heap.size) s.heap H locs)
    (kk : ∀ (u : S) (H1 : Heap) (locs1 : List Loc), postV u → va_P G vwCl (ww u) H1 → va_D (wA g n s.heap.size) (ww u) → va_S (wA g n s.heap.size) s.heap H1 locs1 → W p l e R s m args below meth c H1 locs1 cells slots Q (F0 m (pc + 3) ls rest)) : W p l e R s m args below meth c H locs cells slots Q (F0 m pc ls st0) := by
  refine va_callv hr hS (fun q _ h => x_sub hS q h) (x_sub hS) (fun u t H1 locs1 ht hvm hw hB hz hk hS1 => ?_)
  obtain ⟨hP1, hK1, hD1⟩ := hB
  rw [ht] at hP1
  exact kk u H1 locs1 hw hP1 (gA_w hD1) hS1
/-- a call of an instance method, int or boolean answer -/
theorem x_vi (S0 : CallFix p m c cc nL s args Ts own) (hM : CI l y ws fr lo G cA tF tC g n H.size w (.ref b :: As) ww postI) (cw : CallW R s args own C index y bytes maxL ret ws { frames := fr, cells := 0, slots := 0, locals := lo } 0 0 k)
    (hK : va_K G vwCl [(cA, .int)] s) (hP : va_P G vwCl w H) (hD : va_D (wA g n s.heap.size) w) (hS : va_S (wA g n s.heap.size) s.heap H locs) (hT : xT tF tC (wA g n s.heap.size) s s.heap) (hg : w.map Prod.fst = (List.range n).map g) (q0 ci : Nat) {fs : List Value} {T : u_T} {N : Nat} (hc : vwCl[ci]? = some (C, T, N)) (he : w[q0]? = some (b, .inr (ci, fs)))
    (hn : As.length = k) (hsize : ls.size = nL) (hst : st0 = As.reverse ++ .ref b :: rest) (hW : (rest.map fun v => v.category).sum ≤ 8) (hdg : decode cc pc = .ok (.invokevirtual index, 3)) (hf : cells ≤ R.cells ∧ slots ≤ R.slots)
    (kk : ∀ (r : Int32) (u : S) (H1 : Heap) (locs1 : List Loc), postI r u → va_P G vwCl (ww u) H1 → va_D (wA g n s.heap.size) (ww u) → va_S (wA g n s.heap.size) s.heap H1 locs1 → W p l e R s m args below meth c H1 locs1 cells slots Q (F0 m (pc + 3) ls (.int r :: rest))) : W p l e R s m args below meth c H locs cells slots Q (F0 m pc ls st0) := by
  subst hst
  exact x_runI (av := .ref b :: As) (va_runV (As := As) (rest := rest) S0 hM cw ⟨cPre_blind, va_recv hK hP hc he, fun U hU hW => ⟨rfl, x_pre hK hP hD hS hT hg U hU hW⟩⟩ rfl hn hsize rfl (lv_room hW) hdg hf) hS kk
theorem x_vv (S0 : CallFix p m c cc nL s args Ts own) (hM : CV l y ws fr lo G cA tF tC g n H.size w (.ref b :: As) ww postV) (cw : CallW R s args own C index y bytes maxL ret ws { frames := fr, cells := 0, slots := 0, locals := lo } 0 0 k)
    (hK : va_K G vwCl [(cA, .int)] s) (hP : va_P G vwCl w H) (hD : va_D (wA g n s.heap.size) w) (hS : va_S (wA g n s.heap.size) s.heap H locs) (hT : xT tF tC (wA g n s.heap.size) s s.heap) (hg : w.map Prod.fst = (List.range n).map g) (q0 ci : Nat) {fs : List Value} {T : u_T} {N : Nat} (hc : vwCl[ci]? = some (C, T, N)) (he : w[q0]? = some (b, .inr (ci, fs)))
    (hn : As.length = k) (hsize : ls.size = nL) (hst : st0 = As.reverse ++ .ref b :: rest) (hW : (rest.map fun v => v.category).sum ≤ 8) (hdg : decode cc pc = .ok (.invokevirtual index, 3)) (hf : cells ≤ R.cells ∧ slots ≤ R.slots)
    (kk : ∀ (u : S) (H1 : Heap) (locs1 : List Loc), postV u → va_P G vwCl (ww u) H1 → va_D (wA g n s.heap.size) (ww u) → va_S (wA g n s.heap.size) s.heap H1 locs1 → W p l e R s m args below meth c H1 locs1 cells slots Q (F0 m (pc + 3) ls rest)) : W p l e R s m args below meth c H locs cells slots Q (F0 m pc ls st0) := by
  subst hst
  exact x_runV (av := .ref b :: As) (va_runV (As := As) (rest := rest) S0 hM cw ⟨cPre_blind, va_recv hK hP hc he, fun U hU hW => ⟨rfl, x_pre hK hP hD hS hT hg U hU hW⟩⟩ rfl hn hsize rfl (lv_room hW) hdg hf) hS kk
/-- a call of a static method, int or boolean answer -/
theorem x_si (S0 : CallFix p m c cc nL s args Ts own) (hM : CI l y ws fr lo G cA tF tC g n H.size w As ww postI) (cw : CallB R s args own index y bytes maxL ret ws { frames := fr, cells := 0, slots := 0, locals := lo } 0 0 k ∧ (Cond.static y).before args s = true)
    (hK : va_K G vwCl [(cA, .int)] s) (hP : va_P G vwCl w H) (hD : va_D (wA g n s.heap.size) w) (hS : va_S (wA g n s.heap.size) s.heap H locs) (hT : xT tF tC (wA g n s.heap.size) s s.heap) (hg : w.map Prod.fst = (List.range n).map g)
    (hn : As.length = k) (hsize : ls.size = nL) (hst : st0 = As.reverse ++ rest) (hW : (rest.map fun v => v.category).sum ≤ 8) (hdg : decode cc pc = .ok (.invokestatic index, 3)) (hf : cells ≤ R.cells ∧ slots ≤ R.slots)
    (kk : ∀ (r : Int32) (u : S) (H1 : Heap) (locs1 : List Loc), postI r u → va_P G vwCl (ww u) H1 → va_D (wA g n s.heap.size) (ww u) → va_S (wA g n s.heap.size) s.heap H1 locs1 → W p l e R s m args below meth c H1 locs1 cells slots Q (F0 m (pc + 3) ls (.int r :: rest))) : W p l e R s m args below meth c H locs cells slots Q (F0 m pc ls st0) := by
  subst hst
  exact x_runI (av := As) (va_runS (As := As) (rest := rest) S0 hM cw ⟨cPre_blind, fun U hU hW => ⟨rfl, x_pre hK hP hD hS hT hg U hU hW⟩⟩ rfl hn hsize rfl (lv_room hW) hdg hf) hS kk
/-- the same, the method private to a nest mate -/
theorem x_ni (S0 : CallFix p m c cc nL s args Ts own) (hM : CI l y ws fr lo G cA tF tC g n H.size w As ww postI) (cw : va_CN R s args own index y host bytes maxL ret ws { frames := fr, cells := 0, slots := 0, locals := lo } 0 0 k ∧ (Cond.static y).before args s = true ∧ True)
    (hK : va_K G vwCl [(cA, .int)] s) (hP : va_P G vwCl w H) (hD : va_D (wA g n s.heap.size) w) (hS : va_S (wA g n s.heap.size) s.heap H locs) (hT : xT tF tC (wA g n s.heap.size) s s.heap) (hg : w.map Prod.fst = (List.range n).map g)
    (hn : As.length = k) (hsize : ls.size = nL) (hst : st0 = As.reverse ++ rest) (hW : (rest.map fun v => v.category).sum ≤ 8) (hdg : decode cc pc = .ok (.invokestatic index, 3)) (hf : cells ≤ R.cells ∧ slots ≤ R.slots)
    (kk : ∀ (r : Int32) (u : S) (H1 : Heap) (locs1 : List Loc), postI r u → va_P G vwCl (ww u) H1 → va_D (wA g n s.heap.size) (ww u) → va_S (wA g n s.heap.size) s.heap H1 locs1 → W p l e R s m args below meth c H1 locs1 cells slots Q (F0 m (pc + 3) ls (.int r :: rest))) : W p l e R s m args below meth c H locs cells slots Q (F0 m pc ls st0) := by
  subst hst
  exact x_runI (av := As) (va_runSN (As := As) (rest := rest) S0 hM cw ⟨cPre_blind, fun U hU hW => ⟨rfl, x_pre hK hP hD hS hT hg U hU hW⟩⟩ rfl hn hsize rfl (lv_room hW) hdg hf) hS kk
theorem x_iret {v : Int32} (u : S) (hx : p.tables.exec = Jvm.exec) (hb : c.code = cc) (hr : meth.sig.returnType = some .int) (hlocks : meth.locks = false) (hK : va_K G vwCl [(cA, .int)] s) (hP : va_P G vwCl (ww u) H) (hD : va_D (wA g n s.heap.size) (ww u)) (hS : va_S (wA g n s.heap.size) s.heap H locs) (hg : (ww u).map Prod.fst = (List.range n).map g) (hdg : decode cc pc = .ok (.ireturn, 1)) (hp : postI v u) : W p l e R s m args below meth c H locs 0 0 (MQ below (va_Qi postI (fun u t => cAt G cA g n (ww u) t) (wA g n s.heap.size)) args s 0 0 (wA g n s.heap.size)) (F0 m pc ls [.int v]) :=
  W.iret (v := v) hx hb hr (fun t ht hW => ⟨⟨v, u, rfl, hp, by rw [ht]; exact hP, va_K.moved hW.alike hK, gA_of hg hD⟩, hS.F ht⟩) hS.2.2 hdg
theorem x_zret {v : Int32} (u : S) (hx : p.tables.exec = Jvm.exec) (hb : c.code = cc) (hr : meth.sig.returnType = some .boolean) (hlocks : meth.locks = false) (hK : va_K G vwCl [(cA, .int)] s) (hP : va_P G vwCl (ww u) H) (hD : va_D (wA g n s.heap.size) (ww u)) (hS : va_S (wA g n s.heap.size) s.heap H locs) (hg : (ww u).map Prod.fst = (List.range n).map g) (hdg : decode cc pc = .ok (.ireturn, 1)) (hn : narrow .boolean (.int v) = .int v) (hp : postI v u) : W p l e R s m args below meth c H locs 0 0 (MQ below (va_Qi postI (fun u t => cAt G cA g n (ww u) t) (wA g n s.heap.size)) args s 0 0 (wA g n s.heap.size)) (F0 m pc ls [.int v]) :=
  W.zret (v := v) hx hb hr hn (fun t ht hW => ⟨⟨v, u, rfl, hp, by rw [ht]; exact hP, va_K.moved hW.alike hK, gA_of hg hD⟩, hS.F ht⟩) hS.2.2 hdg
theorem x_vret (u : S) (hx : p.tables.exec = Jvm.exec) (hb : c.code = cc) (hr : meth.sig.returnType = none) (hlocks : meth.locks = false) (hK : va_K G vwCl [(cA, .int)] s) (hP : va_P G vwCl (ww u) H) (hD : va_D (wA g n s.heap.size) (ww u)) (hS : va_S (wA g n s.heap.size) s.heap H locs) (hg : (ww u).map Prod.fst = (List.range n).map g) (hdg : decode cc pc = .ok (.return_, 1)) (hp : postV u) : W p l e R s m args below meth c H locs 0 0 (MQ below (va_Qv postV (fun u t => cAt G cA g n (ww u) t) (wA g n s.heap.size)) args s 0 0 (wA g n s.heap.size)) (F0 m pc ls []) :=
  W.vret hx hb hr (fun t ht hW => ⟨⟨u, rfl, hp, by rw [ht]; exact hP, va_K.moved hW.alike hK, gA_of hg hD⟩, hS.F ht⟩) hS.2.2 hdg
theorem x_entryI (hy : plainName y.cls = true) (hw : ws = Cond.code y cc maxL (some .int) :: ws') (hg : ∀ u : S, (ww u).map Prod.fst = (List.range n).map g) (hlen : (lg_sl av).length ≤ maxL)
    (body : ∀ (p : Program) (e : Env) (s : State) (m : MethodId) (args : Array Value) (below : List Frame) (meth : Method) (c : Code) (Q : State → Prop), p.tables.exec = Jvm.exec → c.code = cc → c.maxLocals = maxL → s.vm.findClass y.cls = some m.cls → (∀ w ∈ ws, w.before args s = true) → va_K G vwCl [(cA, .int)] s → va_P G vwCl w s.heap → va_D (wA g n s.heap.size) w → va_S (wA g n s.heap.size) s.heap s.heap [] → xT tF tC (wA g n s.heap.size) s s.heap →
      (∀ (v : Int32) (u : S) (H : Heap) (locs : List Loc) (pc : Nat) (ls : Array Slot), decode cc pc = .ok (.ireturn, 1) → va_P G vwCl (ww u) H → va_D (wA g n s.heap.size) (ww u) → va_S (wA g n s.heap.size) s.heap H locs → postI v u → W p l e { frames := fr, cells := 0, slots := 0, locals := lo } s m args below meth c H locs 0 0 Q (F0 m pc ls [.int v])) →
      ∀ ls : Array Slot, lv_has ls maxL (lv_args 0 av) → W p l e { frames := fr, cells := 0, slots := 0, locals := lo } s m args below meth c s.heap [] 0 0 Q (F0 m 0 ls [])) : CI l y ws fr lo G cA tF tC g n sz w av ww postI := by
  refine Met.ofW (cc := cc) (maxL := maxL) (ret := (some .int)) hy hw ?_
  intro p e s m args below meth c s₁ B hml hv
  obtain ⟨rfl, hsz, hP, hK, hD, hT⟩ := hv
  subst hsz
  have hl := lv_entry av (n := maxL) hlen
  rw [lg_entry_eq]
  exact body p e s m _ below meth c _ B.exec B.bytes hml (findClass_of_methodNamed B.named) (atoms_spec (ws := ws) B.pre) hK hP (gA_w hD) va_S.rf hT (fun v u H locs pc ls hd hP hD hS hp => x_iret u B.exec B.bytes B.returns B.notSynchronized hK hP hD hS (hg u) hd hp) _ hl
theorem x_entryZ (hy : plainName y.cls = true) (hw : ws = Cond.code y cc maxL (some .boolean) :: ws') (hg : ∀ u : S, (ww u).map Prod.fst = (List.range n).map g) (hlen : (lg_sl av).length ≤ maxL)
    (body : ∀ (p : Program) (e : Env) (s : State) (m : MethodId) (args : Array Value) (below : List Frame) (meth : Method) (c : Code) (Q : State → Prop), p.tables.exec = Jvm.exec → c.code = cc → c.maxLocals = maxL → s.vm.findClass y.cls = some m.cls → (∀ w ∈ ws, w.before args s = true) → va_K G vwCl [(cA, .int)] s → va_P G vwCl w s.heap → va_D (wA g n s.heap.size) w → va_S (wA g n s.heap.size) s.heap s.heap [] → xT tF tC (wA g n s.heap.size) s s.heap →
      (∀ (v : Int32) (u : S) (H : Heap) (locs : List Loc) (pc : Nat) (ls : Array Slot), decode cc pc = .ok (.ireturn, 1) → va_P G vwCl (ww u) H → va_D (wA g n s.heap.size) (ww u) → va_S (wA g n s.heap.size) s.heap H locs → narrow .boolean (.int v) = .int v → postI v u → W p l e { frames := fr, cells := 0, slots := 0, locals := lo } s m args below meth c H locs 0 0 Q (F0 m pc ls [.int v])) →
      ∀ ls : Array Slot, lv_has ls maxL (lv_args 0 av) → W p l e { frames := fr, cells := 0, slots := 0, locals := lo } s m args below meth c s.heap [] 0 0 Q (F0 m 0 ls [])) : CI l y ws fr lo G cA tF tC g n sz w av ww postI := by
  refine Met.ofW (cc := cc) (maxL := maxL) (ret := (some .boolean)) hy hw ?_
  intro p e s m args below meth c s₁ B hml hv
  obtain ⟨rfl, hsz, hP, hK, hD, hT⟩ := hv
  subst hsz
  have hl := lv_entry av (n := maxL) hlen
  rw [lg_entry_eq]
  exact body p e s m _ below meth c _ B.exec B.bytes hml (findClass_of_methodNamed B.named) (atoms_spec (ws := ws) B.pre) hK hP (gA_w hD) va_S.rf hT (fun v u H locs pc ls hd hP hD hS hz hp => x_zret u B.exec B.bytes B.returns B.notSynchronized hK hP hD hS (hg u) hd hz hp) _ hl
theorem x_entryV (hy : plainName y.cls = true) (hw : ws = Cond.code y cc maxL none :: ws') (hg : ∀ u : S, (ww u).map Prod.fst = (List.range n).map g) (hlen : (lg_sl av).length ≤ maxL)
    (body : ∀ (p : Program) (e : Env) (s : State) (m : MethodId) (args : Array Value) (below : List Frame) (meth : Method) (c : Code) (Q : State → Prop), p.tables.exec = Jvm.exec → c.code = cc → c.maxLocals = maxL → s.vm.findClass y.cls = some m.cls → (∀ w ∈ ws, w.before args s = true) → va_K G vwCl [(cA, .int)] s → va_P G vwCl w s.heap → va_D (wA g n s.heap.size) w → va_S (wA g n s.heap.size) s.heap s.heap [] → xT tF tC (wA g n s.heap.size) s s.heap →
      (∀ (u : S) (H : Heap) (locs : List Loc) (pc : Nat) (ls : Array Slot), decode cc pc = .ok (.return_, 1) → va_P G vwCl (ww u) H → va_D (wA g n s.heap.size) (ww u) → va_S (wA g n s.heap.size) s.heap H locs → postV u → W p l e { frames := fr, cells := 0, slots := 0, locals := lo } s m args below meth c H locs 0 0 Q (F0 m pc ls [])) →
      ∀ ls : Array Slot, lv_has ls maxL (lv_args 0 av) → W p l e { frames := fr, cells := 0, slots := 0, locals := lo } s m args below meth c s.heap [] 0 0 Q (F0 m 0 ls [])) : CV l y ws fr lo G cA tF tC g n sz w av ww postV := by
  refine Met.ofW (cc := cc) (maxL := maxL) (ret := none) hy hw ?_
  intro p e s m args below meth c s₁ B hml hv
  obtain ⟨rfl, hsz, hP, hK, hD, hT⟩ := hv
  subst hsz
  have hl := lv_entry av (n := maxL) hlen
  rw [lg_entry_eq]
  exact body p e s m _ below meth c _ B.exec B.bytes hml (findClass_of_methodNamed B.named) (atoms_spec (ws := ws) B.pre) hK hP (gA_w hD) va_S.rf hT (fun u H locs pc ls hd hP hD hS hp => x_vret u B.exec B.bytes B.returns B.notSynchronized hK hP hD hS (hg u) hd hp) _ hl
theorem x_eqi {x y : Int32} (h : x = y) (kk : W p l e R s m args below meth c H locs cells slots Q (F0 m pc ls (.int y :: rest))) : W p l e R s m args below meth c H locs cells slots Q (F0 m pc ls (.int x :: rest)) := h ▸ kk
variable {cl : List vw_C} {A : Nat → Prop} {a : Nat} {tys : List (ClassId × FieldType)} {H0 : Heap}
theorem x_ald (hx : p.tables.exec = Jvm.exec) (hb : c.code = cc) (hK : va_K G cl tys s) (hP : va_P G cl w H) (q0 t0 : Nat) {N : Nat} {f : Nat → Int32} (ha : w[q0]? = some (a, .inl (cA, N, .inl f))) (ht : tys[t0]? = some (cA, .int)) {i : Nat} (hi : i < N) (hN : N < 2 ^ 31) (hdg : decode cc pc = .ok (.iaload, 1))
    (kk : W p l e R s m args below meth c H locs cells slots Q (F0 m (pc + 1) ls (.int (f i) :: rest))) : W p l e R s m args below meth c H locs cells slots Q (F0 m pc ls (.int (nI i) :: .ref a :: rest)) := by
  refine va_iald hx hb hK hP q0 t0 ha ht (vp_in_nI hi hN) hdg ?_
  rw [nI_clamp (by omega)]
  exact kk
theorem x_ast (hx : p.tables.exec = Jvm.exec) (hb : c.code = cc) (hK : va_K G cl tys s) (hP : va_P G cl w H) (hD : va_D A w) (hS : va_S A H0 H locs) (q0 t0 : Nat) {N : Nat} {f : Nat → Int32} (ha : w[q0]? = some (a, .inl (cA, N, .inl f))) (ht : tys[t0]? = some (cA, .int)) {i : Nat} {v : Int32} (hi : i < N) (hN : N < 2 ^ 31) (hdg : decode cc pc = .ok (.iastore, 1))
    (kk : ∀ (H1 : Heap) (locs1 : List Loc), va_P G cl (w.set q0 (a, .inl (cA, N, .inl (upd f i v)))) H1 → va_D A (w.set q0 (a, .inl (cA, N, .inl (upd f i v)))) → va_S A H0 H1 locs1 → W p l e R s m args below meth c H1 locs1 cells slots Q (F0 m (pc + 1) ls rest)) : W p l e R s m args below meth c H locs cells slots Q (F0 m pc ls (.int v :: .int (nI i) :: .ref a :: rest)) := by
  refine va_iast hx hb hK hP hD hS q0 t0 ha ht (vp_in_nI hi hN) hdg (fun H1 locs1 h1 h2 h3 => ?_)
  rw [nI_clamp (show i < 2 ^ 31 by omega)] at h1 h2
  exact kk H1 locs1 h1 h2 h3
theorem x_tld (hx : p.tables.exec = Jvm.exec) (hb : c.code = cc) {t N : Nat} {f : Nat → Int32} (hT : va_T .int t N (fun j => .int (f j)) A s s.heap) (hS : va_S A s.heap H locs) {i : Nat} (hi : i < N) (hN : N < 2 ^ 31) (hdg : decode cc pc = .ok (.iaload, 1))
    (kk : W p l e R s m args below meth c H locs cells slots Q (F0 m (pc + 1) ls (.int (f i) :: rest))) : W p l e R s m args below meth c H locs cells slots Q (F0 m pc ls (.int (nI i) :: .ref t :: rest)) := by
  refine va_ti hx hb hT hS (vp_in_nI hi hN) (v := .int (f i)) ?_ hdg kk
  rw [nI_clamp (by omega)]
/-- System.arraycopy between two rows of the world, places and number as naturals -/
theorem x_cpy (hx : p.tables.exec = Jvm.exec) (hb : c.code = cc) (hml : c.maxLocals = ls.size) (hown : s.vm.findClass own = some m.cls) (hlink : (Cond.methodLink own index arraycopyName).before args s = true) (hnat : (Cond.native arraycopyName).before args s = true) (hstat : (Cond.static arraycopyName).before args s = true) (hini : (Cond.initialized "java/lang/System").before args s = true)
    (hK : va_K G cl tys s) (hP : va_P G cl w H) (hD : va_D A w) (hS : va_S A H0 H locs) (q0 q1 t0 : Nat) {a0 n0 n1 : Nat} {f f1 : Nat → Int32} (ha0 : w[q0]? = some (a0, .inl (cA, n0, .inl f))) (ha1 : w[q1]? = some (a, .inl (cA, n1, .inl f1))) (ht0 : tys[t0]? = some (cA, .int))
    {spN dpN nN : Nat} (h4 : spN + nN ≤ n0) (h5 : dpN + nN ≤ n1) (hsm : n0 < 2 ^ 31 ∧ n1 < 2 ^ 31) (hframes : 1 ≤ R.frames) (hlocals : (rest.map fun v => v.category).sum + (nativeFrameWords "java/lang/System" "arraycopy" 5 + 11) ≤ R.locals) (hdg : decode cc pc = .ok (.invokestatic index, 3))
    (kk : ∀ (H1 : Heap) (locs1 : List Loc), va_P G cl (w.set q1 (a, .inl (cA, n1, .inl (va_cpy f f1 spN dpN nN)))) H1 → va_D A (w.set q1 (a, .inl (cA, n1, .inl (va_cpy f f1 spN dpN nN)))) → va_S A H0 H1 locs1 → W p l e R s m args below meth c H1 locs1 cells slots Q (F0 m (pc + 3) ls rest)) : W p l e R s m args below meth c H locs cells slots Q (F0 m pc ls (.int (nI nN) :: .int (nI dpN) :: .ref a :: .int (nI spN) :: .ref a0 :: rest)) := by
  obtain ⟨s0, s1⟩ := hsm
  have e1 := nI_clamp (n := spN) (by omega)
  have e2 := nI_clamp (n := dpN) (by omega)
  have e3 := nI_clamp (n := nN) (by omega)
  refine va_copyi hx hb hml hown hlink hnat hstat hini hK hP hD hS q0 q1 t0 t0 ha0 ha1 ht0 ht0 rfl (nI_pos (by omega)) (nI_pos (by omega)) (nI_pos (by omega)) (by rw [e1, e3]; exact h4) (by rw [e2, e3]; exact h5) (fun _ _ => rfl) hframes hlocals hdg (fun H1 locs1 g1 g2 g3 => ?_)
  rw [e1, e2, e3] at g1 g2
  exact kk H1 locs1 g1 g2 g3
/-- the same out of a static row -/
theorem x_cpT (hx : p.tables.exec = Jvm.exec) (hb : c.code = cc) (hml : c.maxLocals = ls.size) (hown : s.vm.findClass own = some m.cls) (hlink : (Cond.methodLink own index arraycopyName).before args s = true) (hnat : (Cond.native arraycopyName).before args s = true) (hstat : (Cond.static arraycopyName).before args s = true) (hini : (Cond.initialized "java/lang/System").before args s = true)
    (hK : va_K G cl tys s) (hP : va_P G cl w H) (hD : va_D A w) (hS : va_S A s.heap H locs) {b0 n0 : Nat} {f : Nat → Int32} (hX : va_T .int b0 n0 (fun j => .int (f j)) A s s.heap) (q1 t1 : Nat) {n1 : Nat} {f1 : Nat → Int32} (ha1 : w[q1]? = some (a, .inl (cA, n1, .inl f1))) (ht1 : tys[t1]? = some (cA, .int))
    {spN dpN nN : Nat} (h4 : spN + nN ≤ n0) (h5 : dpN + nN ≤ n1) (hsm : n0 < 2 ^ 31 ∧ n1 < 2 ^ 31) (hframes : 1 ≤ R.frames) (hlocals : (rest.map fun v => v.category).sum + (nativeFrameWords "java/lang/System" "arraycopy" 5 + 11) ≤ R.locals) (hdg : decode cc pc = .ok (.invokestatic index, 3))
    (kk : ∀ (H1 : Heap) (locs1 : List Loc), va_P G cl (w.set q1 (a, .inl (cA, n1, .inl (va_cpy f f1 spN dpN nN)))) H1 → va_D A (w.set q1 (a, .inl (cA, n1, .inl (va_cpy f f1 spN dpN nN)))) → va_S A s.heap H1 locs1 → W p l e R s m args below meth c H1 locs1 cells slots Q (F0 m (pc + 3) ls rest)) : W p l e R s m args below meth c H locs cells slots Q (F0 m pc ls (.int (nI nN) :: .int (nI dpN) :: .ref a :: .int (nI spN) :: .ref b0 :: rest)) := by
  obtain ⟨z0, z1⟩ := hsm
  intro T hT X
  obtain ⟨scr, hs1, hs2, hs3, hs4, -, hs5, hs7⟩ := hX
  have hc0 : H[b0]? = some scr := by rw [hS.2.1 b0 (Array.getElem?_eq_some_iff.mp hs1).1 hs7]; exact hs1
  have hc1 : H[a]? = some (vp_cell cA (n1, .inl f1)) := hP q1 _ ha1
  obtain ⟨hs6, k0, hk0, cm0, hkk0⟩ := hs2
  obtain ⟨-, k1, hk1, cm1, hkk1⟩ := (hK.2 t1 _ ht1).1 n1 (fun j => .int (f1 j))
  have c1 := nI_clamp (n := spN) (by omega)
  have c2 := nI_clamp (n := dpN) (by omega)
  have c3 := nI_clamp (n := nN) (by omega)
  obtain ⟨vm', X', step⟩ := X.arraycopy hx hown hlink hnat hstat hini (src := b0) (dst := a) (cs := scr) (cd := vp_cell cA (n1, .inl f1)) (srcPos := nI spN) (destPos := nI dpN) (n := nI nN) (by rw [hT]; exact hc0) (by rw [hT]; exact hc1)
    hs6 (fun _ h => by cases h) hs3 (fun h => by cases h) hk0 hk1 hkk0 hkk1 (by simp [refKind]) (nI_pos (by omega)) (nI_pos (by omega)) (nI_pos (by omega))
    (by rw [nI_toInt (by omega), nI_toInt (by omega)]; omega)
    (by rw [nI_toInt (by omega), nI_toInt (by omega)]; show ¬ _ > ((arrV cA n1 (fun j => .int (f1 j))).slots.size : Int); rw [arrV_size]; omega)
    (fun vm₁ _ i hi => by
      rw [c3] at hi
      have ee : scr.slots.getD ((nI spN).toNatClampNeg + i) .null = .int (f (spN + i)) := by
        rw [c1, Array.getD_eq_getD_getElem?, hs5 _ (by omega)]
        rfl
      exact ⟨by rw [ee]; rfl, by rw [ee]; exact trivial⟩)
    (g := F0 m pc ls (.int (nI nN) :: .int (nI dpN) :: .ref a :: .int (nI spN) :: .ref b0 :: rest)) rfl (by rw [hml]) (rest := rest) rfl (by rw [hb]; exact hdg) hframes (by show 2 * 0 + _ + _ ≤ _; omega)
  have e1 : copied scr (vp_cell cA (n1, .inl f1)) (nI spN) (nI dpN) (nI nN) = vp_cell cA (n1, .inl (va_cpy f f1 spN dpN nN)) := by
    have := va_copiedX (fun z => .int z) scr cA (n0 := n0) (n1 := n1) (sp := (nI spN).toNatClampNeg) (dp := (nI dpN).toNatClampNeg) (n := (nI nN).toNatClampNeg) f f1 hs5 (by rw [c1, c3]; exact h4)
    rw [c1, c2, c3] at this
    show (arrV cA n1 (fun j => .int (f1 j))).storeRun (nI dpN).toNatClampNeg (scr.stretch (nI spN).toNatClampNeg (nI nN).toNatClampNeg) = _
    rw [c1, c2, c3]
    exact this
  rw [e1] at X' step
  have hl : a < H.size := (Array.getElem?_eq_some_iff.mp hc1).1
  have hheap : ((T.setVm vm').setCell a (vp_cell cA (n1, .inl (va_cpy f f1 spN dpN nN)))).heap = H.setIfInBounds a (vp_cell cA (n1, .inl (va_cpy f f1 spN dpN nN))) := by rw [← hT]; rfl
  have oq : ∀ q : Nat, q ≠ a → (H.setIfInBounds a (vp_cell cA (n1, .inl (va_cpy f f1 spN dpN nN))))[q]? = H[q]? := fun q hq => by simp [Array.getElem?_setIfInBounds, Ne.symm hq]
  obtain ⟨t, a1, b1⟩ := kk _ _ (hP.set hD ha1 (show (H.setIfInBounds a _)[a]? = some _ by simp [Array.getElem?_setIfInBounds, hl]) oq) (hD.set ha1) ⟨by simp; exact hS.1, fun q g1 g2 => by
      rw [oq q (fun e => g2 (by rw [e]; exact hD.2 q1 _ ha1))]
      exact hS.2.1 q g1 g2, fun q hq => by
      rcases List.mem_append.mp hq with h | h
      · exact hS.2.2 q h
      · obtain ⟨z, -, hz⟩ := List.mem_map.mp h
        rw [← hz]
        exact hD.2 q1 _ ha1⟩ _ hheap X'
  exact ⟨t, step t a1, b1⟩
end KX
end
section
/-! the mathematics: one value for the class and for the reference -/
def us (x n : Int32) : Int32 := (x.toUInt32 >>> (n.toUInt32 &&& Int32.toUInt32 31)).toInt32
def sl (x n : Int32) : Int32 := x <<< (n &&& 31)
def lus (x : Int64) (n : Int32) : Int64 := (x.toUInt64 >>> (n.toInt64.toUInt64 &&& Int64.toUInt64 63)).toInt64
def lsl (x : Int64) (n : Int32) : Int64 := x <<< (n.toInt64 &&& 63)
def rot (x n : Int32) : Int32 := us x n ||| sl x (32 - n)
def sg0 (x : Int32) : Int32 := rot x 7 ^^^ rot x 18 ^^^ us x 3
def sg1 (y : Int32) : Int32 := rot y 17 ^^^ rot y 19 ^^^ us y 10
def sprS (w : Nat → Int32) (t : Nat) : Int32 := w (t - 16) + sg0 (w (t - 15)) + w (t - 7) + sg1 (w (t - 2))
def spr (w : Nat → Int32) : Nat → (Nat → Int32)
  | 0 => w
  | k + 1 => upd (spr w k) (16 + k) (sprS (spr w k) (16 + k))
def rT1 (v : Nat → Int32) (k w : Int32) : Int32 := v 7 + (rot (v 4) 6 ^^^ rot (v 4) 11 ^^^ rot (v 4) 25) + ((v 4 &&& v 5) ^^^ ((v 4 ^^^ (-1)) &&& v 6)) + k + w
def rT2 (v : Nat → Int32) : Int32 := (rot (v 0) 2 ^^^ rot (v 0) 13 ^^^ rot (v 0) 22) + ((v 0 &&& v 1) ^^^ (v 0 &&& v 2) ^^^ (v 1 &&& v 2))
def rnd (v : Nat → Int32) (k w : Int32) : Nat → Int32 := fun j => if j = 0 then rT1 v k w + rT2 v else if j = 4 then v 3 + rT1 v k w else v (j - 1)
def rnds (v w : Nat → Int32) : Nat → (Nat → Int32)
  | 0 => v
  | t + 1 => rnd (rnds v w t) (kC t) (w t)
def cmp (su w : Nat → Int32) : Nat → Int32 := fun j => su j + rnds su w 64 j
def wrd (f : Nat → Int32) (b : Nat) : Int32 := sl (f b &&& 255) 24 ||| sl (f (b + 1) &&& 255) 16 ||| sl (f (b + 2) &&& 255) 8 ||| (f (b + 3) &&& 255)
def blk (f : Nat → Int32) : Nat → (Nat → Int32)
  | 0 => hC
  | n + 1 => cmp (blk f n) (spr (fun i => wrd f (64 * n + 4 * i)) 48)
def hby (st : Nat → Int32) (i : Nat) : Int32 := us (st (i / 4)) (nI (24 - 8 * (i % 4))) &&& 255
def nbk (L : Nat) : Nat := (L + 72) / 64
def pad (m : Nat → Int32) (L : Nat) : Nat → Int32 := fun i => if i < L then m i else if i = L then 128 else if i < 64 * nbk L - 8 then 0 else nI (8 * L / 256 ^ (64 * nbk L - 1 - i))
def sha (m : Nat → Int32) (L : Nat) : Nat → Int32 := hby (blk (pad m L) (nbk L))
/-! agreement on the first places -/
def ag (n : Nat) (f h : Nat → Int32) : Prop := ∀ j, j < n → f j = h j
theorem ag_rf {n : Nat} {f : Nat → Int32} : ag n f f := fun _ _ => rfl
theorem ag_sy {n : Nat} {f h : Nat → Int32} (a : ag n f h) : ag n h f := fun j hj => (a j hj).symm
theorem ag_tr {n : Nat} {f h k : Nat → Int32} (a : ag n f h) (b : ag n h k) : ag n f k := fun j hj => (a j hj).trans (b j hj)
theorem ag_le {n m : Nat} {f h : Nat → Int32} (a : ag n f h) (hm : m ≤ n) : ag m f h := fun j hj => a j (Nat.lt_of_lt_of_le hj hm)
theorem spr_ag {w w' : Nat → Int32} (h : ag 16 w w') : ∀ k, ag (16 + k) (spr w k) (spr w' k)
  | 0 => h
  | k + 1 => by
    have ih := spr_ag h k
    intro j hj
    show upd (spr w k) (16 + k) (sprS (spr w k) (16 + k)) j = upd (spr w' k) (16 + k) (sprS (spr w' k) (16 + k)) j
    by_cases e : j = 16 + k
    · subst e
      rw [pk_us, pk_us]
      unfold sprS
      rw [ih _ (show 16 + k - 16 < 16 + k by omega), ih _ (show 16 + k - 15 < 16 + k by omega), ih _ (show 16 + k - 7 < 16 + k by omega), ih _ (show 16 + k - 2 < 16 + k by omega)]
    · rw [pk_un e, pk_un e]
      exact ih j (by omega)
theorem rnd_ag {v v' : Nat → Int32} (h : ag 8 v v') (k w : Int32) : ag 8 (rnd v k w) (rnd v' k w) := by
  have e1 : rT1 v k w = rT1 v' k w := by
    unfold rT1
    rw [h 7 (by omega), h 4 (by omega), h 5 (by omega), h 6 (by omega)]
  have e2 : rT2 v = rT2 v' := by
    unfold rT2
    rw [h 0 (by omega), h 1 (by omega), h 2 (by omega)]
  intro j hj
  unfold rnd
  rw [e1, e2, h 3 (by omega), h (j - 1) (by omega)]
theorem rnds_ag {v v' w w' : Nat → Int32} (hv : ag 8 v v') (hw : ag 64 w w') : ∀ t, t ≤ 64 → ag 8 (rnds v w t) (rnds v' w' t)
  | 0, _ => hv
  | t + 1, ht => by
    show ag 8 (rnd (rnds v w t) (kC t) (w t)) (rnd (rnds v' w' t) (kC t) (w' t))
    rw [hw t (by omega)]
    exact rnd_ag (rnds_ag hv hw t (by omega)) _ _
theorem cmp_ag {v v' w w' : Nat → Int32} (hv : ag 8 v v') (hw : ag 64 w w') : ag 8 (cmp v w) (cmp v' w') := by
  intro j hj
  unfold cmp
  rw [hv j hj, rnds_ag hv hw 64 (Nat.le_refl _) j hj]
theorem wrd_ag {f h : Nat → Int32} {b : Nat} (a : ∀ j, j < 4 → f (b + j) &&& 255 = h (b + j) &&& 255) : wrd f b = wrd h b := by
  have a0 := a 0 (by omega)
  have a1 := a 1 (by omega)
  have a2 := a 2 (by omega)
  have a3 := a 3 (by omega)
  unfold wrd
  rw [Nat.add_zero] at a0
  rw [a0, a1, a2, a3]
/-! a word out of four bytes, pushed in one behind another -/
def prt (old : Int32) (f : Nat → Int32) (b : Nat) : Nat → Int32
  | 0 => old
  | r + 1 => sl (prt old f b r) 8 ||| (f (b + r) &&& 255)
theorem bt_sl (n : Nat) (hn : n < 32) (x : Int32) {i : Nat} (hi : i < 32) : bt (sl x (nI n)) i = (decide (n ≤ i) && bt x (i - n)) := b_shl n hn x hi
theorem prt4 (old : Int32) (f : Nat → Int32) (b : Nat) : prt old f b 4 = wrd f b := by
  show sl (sl (sl (sl old 8 ||| (f (b + 0) &&& 255)) 8 ||| (f (b + 1) &&& 255)) 8 ||| (f (b + 2) &&& 255)) 8 ||| (f (b + 3) &&& 255) = _
  unfold wrd
  apply b_ext
  intro i hi
  have s8 : ∀ (x : Int32) {i : Nat}, i < 32 → bt (sl x 8) i = (decide (8 ≤ i) && bt x (i - 8)) := fun x _ h => bt_sl 8 (by omega) x h
  have s16 : ∀ (x : Int32) {i : Nat}, i < 32 → bt (sl x 16) i = (decide (16 ≤ i) && bt x (i - 16)) := fun x _ h => bt_sl 16 (by omega) x h
  have s24 : ∀ (x : Int32) {i : Nat}, i < 32 → bt (sl x 24) i = (decide (24 ≤ i) && bt x (i - 24)) := fun x _ h => bt_sl 24 (by omega) x h
  rw [b_or, b_or, b_or, b_or, s8 _ hi, s8 _ hi, s16 _ hi, s24 _ hi, b_or, s8 _ (show i - 8 < 32 by omega), b_or, s8 _ (show i - 8 - 8 < 32 by omega), b_or, s8 _ (show i - 8 - 8 - 8 < 32 by omega)]
  simp only [b_and, b_255, Nat.add_zero]
  have e1 : i - 8 - 8 = i - 16 := by omega
  have e2 : i - 16 - 8 = i - 24 := by omega
  rw [e1, e2]
  rcases (show i < 8 ∨ (8 ≤ i ∧ i < 16) ∨ (16 ≤ i ∧ i < 24) ∨ 24 ≤ i by omega) with h | h | h | h
  · simp [show ¬ 8 ≤ i by omega, show ¬ 16 ≤ i by omega, show ¬ 24 ≤ i by omega]
  · simp [show 8 ≤ i by omega, show ¬ 16 ≤ i by omega, show ¬ 24 ≤ i by omega, show ¬ i < 8 by omega, show ¬ 8 ≤ i - 8 by omega]
  · simp [show 8 ≤ i by omega, show 16 ≤ i by omega, show ¬ 24 ≤ i by omega, show ¬ i < 8 by omega, show 8 ≤ i - 8 by omega, show ¬ i - 8 < 8 by omega, show ¬ 8 ≤ i - 16 by omega]
  · simp [show 8 ≤ i by omega, show 16 ≤ i by omega, show 24 ≤ i by omega, show ¬ i < 8 by omega, show 8 ≤ i - 8 by omega, show ¬ i - 8 < 8 by omega, show 8 ≤ i - 16 by omega, show ¬ i - 16 < 8 by omega, show ¬ i - 24 - 8 = 99 by omega, show ¬ 8 ≤ i - 24 by omega]
/-- the class's hasher behind L bytes of f -/
def Str (f SU WO : Nat → Int32) (L : Nat) : Prop := ag 8 SU (blk f (L / 64)) ∧ (∀ i, i < L % 64 / 4 → WO i = wrd f (64 * (L / 64) + 4 * i)) ∧ ∃ old, WO (L % 64 / 4) = prt old f (64 * (L / 64) + 4 * (L % 64 / 4)) (L % 4)
theorem Str0 {f SU WO : Nat → Int32} (h : ag 8 SU hC) : Str f SU WO 0 := ⟨h, fun i hi => absurd hi (by omega), WO 0, rfl⟩
theorem Str_word {f SU WO : Nat → Int32} {L : Nat} {b : Int32} (h : Str f SU WO L) (hb : b &&& 255 = f L &&& 255) : ∃ old, sl (WO (L % 64 / 4)) 8 ||| (b &&& 255) = prt old f (64 * (L / 64) + 4 * (L % 64 / 4)) (L % 4 + 1) := by
  obtain ⟨-, -, old, ho⟩ := h
  refine ⟨old, ?_⟩
  show _ = sl (prt old f _ (L % 4)) 8 ||| (f (64 * (L / 64) + 4 * (L % 64 / 4) + L % 4) &&& 255)
  rw [ho, hb, show 64 * (L / 64) + 4 * (L % 64 / 4) + L % 4 = L by omega]
/-- a byte that doesn't fill the block -/
theorem Str_in {f SU WO : Nat → Int32} {L : Nat} {b : Int32} (h : Str f SU WO L) (hb : b &&& 255 = f L &&& 255) (hL : ¬ (L + 1) % 64 = 0) : Str f SU (upd WO (L % 64 / 4) (sl (WO (L % 64 / 4)) 8 ||| (b &&& 255))) (L + 1) := by
  obtain ⟨old, ho⟩ := Str_word h hb
  have ed : (L + 1) / 64 = L / 64 := by omega
  refine ⟨by rw [ed]; exact h.1, fun i hi => ?_, ?_⟩
  · rw [ed]
    by_cases e : i = L % 64 / 4
    · subst e
      rw [pk_us, ho, show L % 4 + 1 = 4 by omega, prt4]
    · rw [pk_un e]
      exact h.2.1 i (by omega)
  · rw [ed]
    rcases (show L % 4 = 3 ∨ L % 4 < 3 by omega) with q | q
    · rw [show (L + 1) % 4 = 0 by omega]
      exact ⟨_, rfl⟩
    · rw [show (L + 1) % 64 / 4 = L % 64 / 4 by omega, pk_us, ho, show (L + 1) % 4 = L % 4 + 1 by omega]
      exact ⟨old, rfl⟩
/-- a byte that fills it -/
theorem Str_full {f SU WO : Nat → Int32} {L : Nat} {b : Int32} (h : Str f SU WO L) (hb : b &&& 255 = f L &&& 255) (hL : (L + 1) % 64 = 0) : ag 16 (upd WO (L % 64 / 4) (sl (WO (L % 64 / 4)) 8 ||| (b &&& 255))) (fun i => wrd f (64 * (L / 64) + 4 * i)) := by
  obtain ⟨old, ho⟩ := Str_word h hb
  intro i hi
  by_cases e : i = L % 64 / 4
  · subst e
    rw [pk_us, ho, show L % 4 + 1 = 4 by omega, prt4]
  · rw [pk_un e]
    exact h.2.1 i (by omega)
theorem Str_next {f SU WO : Nat → Int32} {L : Nat} {b : Int32} (h : Str f SU WO L) (hb : b &&& 255 = f L &&& 255) (hL : (L + 1) % 64 = 0) {SU2 WO2 : Nat → Int32} (hs : ag 8 SU2 (cmp SU (spr (upd WO (L % 64 / 4) (sl (WO (L % 64 / 4)) 8 ||| (b &&& 255))) 48))) : Str f SU2 WO2 (L + 1) := by
  refine ⟨?_, fun i hi => absurd hi (by omega), ?_⟩
  · rw [show (L + 1) / 64 = L / 64 + 1 by omega]
    exact ag_tr hs (cmp_ag h.1 (spr_ag (Str_full h hb hL) 48))
  · rw [show (L + 1) % 4 = 0 by omega]
    exact ⟨_, rfl⟩
end
section
/-! the tree's numbers; what is asked and done, as functions -/
def nod (N : Nat) : Nat → Nat
  | 0 => N
  | l + 1 => (nod N l + 1) / 2
def lvs (N : Nat) : Nat := if N ≤ 1 then 1 else if N ≤ 2 then 2 else if N ≤ 4 then 3 else if N ≤ 8 then 4 else if N ≤ 16 then 5 else if N ≤ 32 then 6 else 7
def ahd (N : Nat) : Nat → Nat
  | 0 => 0
  | l + 1 => ahd N l + nod N l
def nds (N : Nat) : Nat := ahd N (lvs N)
def siz (N : Nat) : Nat := 8 + 64 * N + 32 * nds N
def plc (N l k : Nat) : Nat := 8 + 64 * N + 32 * (ahd N l + k)
def wid (N l : Nat) : Int32 := nI (if l < lvs N then nod N l else 0)
def ahA (N l : Nat) : Int32 := nI (if l < lvs N then ahd N l else 0)
theorem nd_t1 : ∀ N, N < 65 → 1 ≤ N → 1 ≤ lvs N ∧ lvs N ≤ 7 ∧ nds N ≤ 127 ∧ nod N (lvs N - 1) = 1 := by decide +kernel
theorem nd_t2 : ∀ N, N < 65 → 1 ≤ N → ∀ l, l < 7 → l < lvs N → ahd N l + nod N l ≤ nds N ∧ 1 ≤ nod N l := by decide +kernel
theorem nd_t3 : ∀ N, N < 65 → 1 ≤ N → ∀ l, l < 7 → l + 1 < lvs N → 2 ≤ nod N l := by decide +kernel
theorem lvs_in {N : Nat} (hN : 1 ≤ N ∧ N ≤ 64) : 1 ≤ lvs N ∧ lvs N ≤ 7 := ⟨(nd_t1 N (by omega) hN.1).1, (nd_t1 N (by omega) hN.1).2.1⟩
theorem nds_le {N : Nat} (hN : 1 ≤ N ∧ N ≤ 64) : nds N ≤ 127 := (nd_t1 N (by omega) hN.1).2.2.1
theorem siz_le {N : Nat} (hN : 1 ≤ N ∧ N ≤ 64) : siz N ≤ 8200 := by
  have := nds_le hN
  unfold siz
  omega
theorem siz_eq (N : Nat) : siz N = 8 + 64 * N + 32 * nds N := rfl
theorem nod_last {N : Nat} (hN : 1 ≤ N ∧ N ≤ 64) : nod N (lvs N - 1) = 1 := (nd_t1 N (by omega) hN.1).2.2.2
theorem nod_in {N l : Nat} (hN : 1 ≤ N ∧ N ≤ 64) (hl : l < lvs N) : ahd N l + nod N l ≤ nds N ∧ 1 ≤ nod N l := nd_t2 N (by omega) hN.1 l (by have := lvs_in hN; omega) hl
theorem nod_two {N l : Nat} (hN : 1 ≤ N ∧ N ≤ 64) (hl : l + 1 < lvs N) : 2 ≤ nod N l := nd_t3 N (by omega) hN.1 l (by have := lvs_in hN; omega) hl
theorem nod_le (N : Nat) (h : 1 ≤ N) : ∀ l, 1 ≤ nod N l ∧ nod N l ≤ N
  | 0 => ⟨h, Nat.le_refl _⟩
  | l + 1 => by
    have := nod_le N h l
    show 1 ≤ (nod N l + 1) / 2 ∧ (nod N l + 1) / 2 ≤ N
    omega
theorem nod_s (N l : Nat) : nod N (l + 1) = (nod N l + 1) / 2 := rfl
theorem ahd_s (N l : Nat) : ahd N (l + 1) = ahd N l + nod N l := rfl
theorem plc_in {N l k : Nat} (hN : 1 ≤ N ∧ N ≤ 64) (hl : l < lvs N) (hk : k < nod N l) : plc N l k + 32 ≤ siz N := by
  have := nod_in hN hl
  unfold plc siz
  omega
theorem way_in {N p : Nat} (hp : p < N) : ∀ l, p / 2 ^ l < nod N l
  | 0 => by rw [Nat.pow_zero, Nat.div_one]; exact hp
  | l + 1 => by
    have := way_in hp l
    rw [Nat.pow_succ, ← Nat.div_div_eq_div_mul, nod_s]
    omega
theorem wid_at {N l : Nat} (hl : l < lvs N) : wid N l = nI (nod N l) := by unfold wid; rw [if_pos hl]
theorem ahA_at {N l : Nat} (hl : l < lvs N) : ahA N l = nI (ahd N l) := by unfold ahA; rw [if_pos hl]
def hed (N i : Nat) : Int32 := if i = 0 then 83 else if i = 1 then 73 else if i = 2 then nI N else if i = 3 then 64 else 0
def nmsg (D : Nat → Int32) (l k b : Nat) : Nat → Int32 := fun i => if i = 0 then nI l else if i = 1 then nI k else D (b + (i - 2))
def nbas (N l k : Nat) : Nat := if l = 0 then 8 + 64 * k else plc N (l - 1) (2 * k)
def nlen (N l k : Nat) : Nat := if l = 0 then 66 else if 2 * k + 1 < nod N (l - 1) then 66 else 34
def nsha (N : Nat) (D : Nat → Int32) (l k : Nat) : Nat → Int32 := sha (nmsg D l k (nbas N l k)) (nlen N l k)
def rmsg (N : Nat) (D : Nat → Int32) : Nat → Int32 := fun i => if i < 8 then D i else D (plc N (lvs N - 1) 0 + (i - 8))
def rsha (N : Nat) (D : Nat → Int32) : Nat → Int32 := sha (rmsg N D) 40
def eqN (f h : Nat → Int32) : Nat → Bool
  | 0 => true
  | n + 1 => eqN f h n && (f n == h n)
theorem eqN_s (f h : Nat → Int32) (n : Nat) : eqN f h (n + 1) = (eqN f h n && (f n == h n)) := rfl
theorem eqN_no {f h : Nat → Int32} {i : Nat} (hne : ¬ f i = h i) : ∀ {n : Nat}, i < n → eqN f h n = false
  | 0, hi => absurd hi (Nat.not_lt_zero _)
  | n + 1, hi => by
    rw [eqN_s]
    by_cases e : i = n
    · subst e
      rw [beq_eq_false_iff_ne.mpr hne, Bool.and_false]
    · rw [eqN_no hne (show i < n by omega), Bool.false_and]
theorem eqN_cong {f f' h h' : Nat → Int32} : ∀ {n : Nat}, ag n f f' → ag n h h' → eqN f h n = eqN f' h' n
  | 0, _, _ => rfl
  | n + 1, a, b => by rw [eqN_s, eqN_s, eqN_cong (ag_le a (Nat.le_succ n)) (ag_le b (Nat.le_succ n)), a n (Nat.lt_succ_self n), b n (Nat.lt_succ_self n)]
def bI (b : Bool) : Int32 := if b then 1 else 0
def nok (N : Nat) (D : Nat → Int32) (l k : Nat) : Bool := eqN (fun i => D (plc N l k + i)) (nsha N D l k) 32
def hok (N : Nat) (D : Nat → Int32) : Bool := eqN D (hed N) 8
def rok (N : Nat) (D R : Nat → Int32) : Bool := eqN R (rsha N D) 32
def fltL (N : Nat) (D : Nat → Int32) (p : Nat) : Nat → Nat
  | 0 => 0
  | l + 1 => if nok N D l (p / 2 ^ l) then fltL N D p l else 3 + l
def fltA (N : Nat) (D R : Nat → Int32) : Nat := if hok N D then (if rok N D R then 0 else 2) else 1
def flt (N : Nat) (D R : Nat → Int32) (p : Nat) : Nat := if fltA N D R = 0 then fltL N D p (lvs N) else fltA N D R
theorem fltL_le (N : Nat) (D : Nat → Int32) (p : Nat) : ∀ l, fltL N D p l ≤ 3 + l
  | 0 => Nat.zero_le _
  | l + 1 => by
    have := fltL_le N D p l
    show (if nok N D l (p / 2 ^ l) then fltL N D p l else 3 + l) ≤ 3 + (l + 1)
    split <;> omega
theorem fltA_le (N : Nat) (D R : Nat → Int32) : fltA N D R ≤ 2 := by
  unfold fltA
  split
  · split <;> omega
  · omega
theorem flt_le {N : Nat} (hN : 1 ≤ N ∧ N ≤ 64) (D R : Nat → Int32) (p : Nat) : flt N D R p ≤ 10 := by
  have h1 := fltL_le N D p (lvs N)
  have h2 := fltA_le N D R
  have h3 := lvs_in hN
  unfold flt
  split <;> omega
def sNode (N : Nat) (D : Nat → Int32) (l k : Nat) : Nat → Int32 := va_cpy (nsha N D l k) D 0 (plc N l k) 32
def sWay (N : Nat) (D : Nat → Int32) (p : Nat) : Nat → (Nat → Int32)
  | 0 => D
  | l + 1 => sNode N (sWay N D p l) l (p / 2 ^ l)
def sLev (N l : Nat) (D : Nat → Int32) : Nat → (Nat → Int32)
  | 0 => D
  | k + 1 => sNode N (sLev N l D k) l k
def sTree (N : Nat) (D : Nat → Int32) : Nat → (Nat → Int32)
  | 0 => D
  | l + 1 => sLev N l (sTree N D l) (nod N l)
def sAll (N : Nat) (D : Nat → Int32) : Nat → Int32 := sTree N (va_cpy (hed N) D 0 0 8) (lvs N)
def sRoot (N : Nat) (D R : Nat → Int32) : Nat → Int32 := va_cpy (rsha N D) R 0 0 32
/-! rows copied place by place -/
theorem cpy_0 (f h : Nat → Int32) (a b : Nat) : va_cpy f h a b 0 = h := by
  funext k
  unfold va_cpy
  rw [if_neg (by omega)]
theorem cpy_s (f h : Nat → Int32) (a b n : Nat) : upd (va_cpy f h a b n) (b + n) (f (a + n)) = va_cpy f h a b (n + 1) := by
  funext k
  unfold upd va_cpy
  by_cases e : k = b + n
  · rw [if_pos e, if_pos (by omega), e, show b + n - b = n by omega]
  · rw [if_neg e]
    by_cases q : b ≤ k ∧ k < b + n
    · rw [if_pos q, if_pos (by omega)]
    · rw [if_neg q, if_neg (by omega)]
theorem cpy_ag {f f' h : Nat → Int32} {a a' b n : Nat} (e : ∀ j, j < n → f (a + j) = f' (a' + j)) : va_cpy f h a b n = va_cpy f' h a' b n := by
  funext k
  unfold va_cpy
  by_cases q : b ≤ k ∧ k < b + n
  · rw [if_pos q, if_pos q]
    exact e _ (by omega)
  · rw [if_neg q, if_neg q]
theorem cpy_skip {f h : Nat → Int32} {n : Nat} (e : h n = f n) : va_cpy f h 0 0 (n + 1) = va_cpy f h 0 0 n := by
  rw [← cpy_s, Nat.zero_add, ← e]
  funext k
  unfold upd
  by_cases q : k = n
  · rw [if_pos q, q, pk_cpy_out (by omega)]
  · rw [if_neg q]
def difN (f h : Nat → Int32) : Nat → Nat
  | 0 => 0
  | n + 1 => difN f h n + if f n = h n then 0 else 1
theorem difN_le (f h : Nat → Int32) : ∀ n, difN f h n ≤ n
  | 0 => Nat.le_refl _
  | n + 1 => by
    have := difN_le f h n
    show difN f h n + (if f n = h n then 0 else 1) ≤ n + 1
    split <;> omega
def heldN (N : Nat) (D R : Nat → Int32) : Nat → Nat
  | 0 => 0
  | p + 1 => heldN N D R p + if flt N D R p = 0 then 1 else 0
def fstN (N : Nat) (D R : Nat → Int32) : Nat → Nat → Int32
  | 0, _ => -1
  | k + 1, p => if flt N D R p = 0 then fstN N D R k (p + 1) else nI p
def bsd (p l : Nat) : Nat := if p / 2 ^ l % 2 = 0 then p / 2 ^ l + 1 else p / 2 ^ l - 1
def prfN (N p : Nat) : Nat → Nat
  | 0 => 0
  | l + 1 => prfN N p l + if bsd p l < nod N l then 1 else 0
def besN (N : Nat) (D : Nat → Int32) (p i : Nat) : Nat → Nat → Nat → Int32
  | 0, _, _ => -1
  | f + 1, l, k => if bsd p l < nod N l then (if k = 0 then D (plc N l (bsd p l) + i) else besN N D p i f (l + 1) (k - 1)) else besN N D p i f (l + 1) k
def filN (F : Nat → Int32) (k : Nat) (v : Int64) : Nat → (Nat → Int32)
  | 0 => F
  | i + 1 => upd (filN F k v i) (8 * k + i) ((lus v (nI (56 - 8 * i))).toInt32 &&& 255)
/-! the worlds: the class's thirteen cells, the reference's fourteen -/
abbrev xW (g : Nat → Nat) (cA : ClassId) (N : Nat) (D R F KD KR FL SU WO : Nat → Int32) (ln kp rd wr ft : Int32) : va_W := [(g 0, .inr (2, [.ref (g 1), .ref (g 2), .ref (g 3), .ref (g 4), .ref (g 5), .ref (g 6), .ref (g 7), .ref (g 8), .int kp, .int rd, .int wr, .int ft])), (g 1, .inr (1, [.int (nI N), .int (nI (lvs N)), .int (nI (nds N)), .int (nI (siz N)), .ref (g 9), .ref (g 10)])), (g 2, .inr (0, [.ref (g 11), .ref (g 12), .int ln])), (g 3, .inl (cA, siz N, .inl D)), (g 4, .inl (cA, 32, .inl R)), (g 5, .inl (cA, 64, .inl F)), (g 6, .inl (cA, siz N, .inl KD)), (g 7, .inl (cA, 32, .inl KR)), (g 8, .inl (cA, nds N, .inl FL)), (g 9, .inl (cA, 7, .inl (wid N))), (g 10, .inl (cA, 7, .inl (ahA N))), (g 11, .inl (cA, 8, .inl SU)), (g 12, .inl (cA, 64, .inl WO))]
abbrev mW (g : Nat → Nat) (cA : ClassId) (N : Nat) (zz : Int32) (D R F KD KR RW OU WO ST WK CA : Nat → Int32) (ln kp rd wr ft : Int32) : va_W := [(g 0, .inr (3, [.ref (g 1), .ref (g 2), .int (nI N), .int zz, .ref (g 3), .ref (g 4), .ref (g 5), .ref (g 6), .ref (g 7), .int kp, .int rd, .int wr, .int ft, .ref (g 8), .int ln, .ref (g 9), .ref (g 10), .ref (g 11), .ref (g 12), .ref (g 13)])), (g 1, .inl (cA, 64, .inl kC)), (g 2, .inl (cA, 8, .inl hC)), (g 3, .inl (cA, 8200, .inl D)), (g 4, .inl (cA, 32, .inl R)), (g 5, .inl (cA, 64, .inl F)), (g 6, .inl (cA, 8200, .inl KD)), (g 7, .inl (cA, 32, .inl KR)), (g 8, .inl (cA, 256, .inl RW)), (g 9, .inl (cA, 32, .inl OU)), (g 10, .inl (cA, 64, .inl WO)), (g 11, .inl (cA, 8, .inl ST)), (g 12, .inl (cA, 8, .inl WK)), (g 13, .inl (cA, 8200, .inl CA))]
end
section
/-! the class's hasher: rows for its walk -/
theorem r_7 (x : Int32) : rot x 7 = us x 7 ||| sl x 25 := by unfold rot; rw [show (32 : Int32) - 7 = 25 from by decide]
theorem r_18 (x : Int32) : rot x 18 = us x 18 ||| sl x 14 := by unfold rot; rw [show (32 : Int32) - 18 = 14 from by decide]
theorem r_17 (x : Int32) : rot x 17 = us x 17 ||| sl x 15 := by unfold rot; rw [show (32 : Int32) - 17 = 15 from by decide]
theorem r_19 (x : Int32) : rot x 19 = us x 19 ||| sl x 13 := by unfold rot; rw [show (32 : Int32) - 19 = 13 from by decide]
theorem r_6 (x : Int32) : rot x 6 = us x 6 ||| sl x 26 := by unfold rot; rw [show (32 : Int32) - 6 = 26 from by decide]
theorem r_11 (x : Int32) : rot x 11 = us x 11 ||| sl x 21 := by unfold rot; rw [show (32 : Int32) - 11 = 21 from by decide]
theorem r_25 (x : Int32) : rot x 25 = us x 25 ||| sl x 7 := by unfold rot; rw [show (32 : Int32) - 25 = 7 from by decide]
theorem r_2 (x : Int32) : rot x 2 = us x 2 ||| sl x 30 := by unfold rot; rw [show (32 : Int32) - 2 = 30 from by decide]
theorem r_13 (x : Int32) : rot x 13 = us x 13 ||| sl x 19 := by unfold rot; rw [show (32 : Int32) - 13 = 19 from by decide]
theorem r_22 (x : Int32) : rot x 22 = us x 22 ||| sl x 10 := by unfold rot; rw [show (32 : Int32) - 22 = 10 from by decide]
theorem spr_s (w : Nat → Int32) (k : Nat) : spr w (k + 1) = upd (spr w k) (16 + k) (sprS (spr w k) (16 + k)) := rfl
def zrs (L : Nat) : Nat := 64 * nbk L - 9 - L
theorem zrs_eq : ∀ L, L < 67 → (56 - nI (L + 1)) &&& 63 = nI (zrs L) := by decide +kernel
theorem zrs_lt : ∀ L, L < 67 → zrs L < 64 ∧ L + 1 + zrs L + 8 = 64 * nbk L := by decide +kernel
theorem fin_b : ∀ L, L < 67 → ∀ i, i < 8 → (lus (8 * (nI L).toInt64) (nI (56 - 8 * i))).toInt32 &&& 255 = nI (8 * L / 256 ^ (7 - i)) &&& 255 := by decide +kernel
theorem pad_128 (m : Nat → Int32) (L : Nat) : pad m L L = 128 := by unfold pad; rw [if_neg (by omega), if_pos rfl]
theorem pad_0 (m : Nat → Int32) {L i : Nat} (h1 : L < i) (h2 : i < 64 * nbk L - 8) : pad m L i = 0 := by unfold pad; rw [if_neg (by omega), if_neg (by omega), if_pos h2]
theorem pad_e (m : Nat → Int32) {L i : Nat} (hL : L < 67) (hi : i < 8) : pad m L (L + 1 + zrs L + i) = nI (8 * L / 256 ^ (7 - i)) := by
  have h := zrs_lt L hL
  unfold pad
  rw [if_neg (by omega), if_neg (by omega), if_neg (by omega), show 64 * nbk L - 1 - (L + 1 + zrs L + i) = 7 - i by omega]
theorem pad_in (m : Nat → Int32) {L i : Nat} (h : i < L) : pad m L i = m i := by unfold pad; rw [if_pos h]
end
section
set_option maxHeartbeats 4000000 in
set_option maxRecDepth 100000 in
/-- the block is spread to 64 words -/
theorem c_X0_spreadWords (l : Launch) (G : va_G) (cA : ClassId) (tF tC : Nat) (g : Nat → Nat) (sz N : Nat) (hN : 1 ≤ N ∧ N ≤ 64) (D R F KD KR FL SU WO : Nat → Int32) (ln kp rd wr ft : Int32)  : CV l yX0_spreadWords wsX0_spreadWords 0 0 G cA tF tC g 13 sz (xW g cA N D R F KD KR FL SU WO ln kp rd wr ft) [.ref (g 2)] (fun (u : Unit) => xW g cA N D R F KD KR FL SU (spr WO 48) ln kp rd wr ft) (fun _ => True) := by
  refine x_entryV (cc := cX0_spreadWords) (maxL := 6) (by decide) rfl (fun _ => rfl) (Nat.le_of_ble_eq_true rfl) ?_
  intro p e s m args below meth c Q hx hb hml hown hts hK hP hD hS hT hret ls hl
  have hown : s.vm.findClass RX0 = some m.cls := hown
  have hl : lv_has ls 6 [(0, .ref (g 2))] := hl
  have hinX0 : ∀ w ∈ wsX00, w ∈ wsX0_spreadWords := by decide +kernel
  refine lv_bipush (v := 16) hx hb dX0_spreadWords_0 (by decide) ?_
  refine lv_istore_n (lv' := [(1, .int 16), (0, .ref (g 2))]) hx hb dX0_spreadWords_2 rfl hl (by decide) rfl (fun ls hl => ?_)
  have loop_3 : ∀ (n_3 : Nat) (zj : Nat), (48 - zj) < n_3 → zj ≤ 48 → ∀ (H : Heap) (locs : List Loc) (ls : Array Slot), va_P G vwCl (xW g cA N D R F KD KR FL SU (spr WO zj) ln kp rd wr ft) H → va_D (wA g 13 s.heap.size) (xW g cA N D R F KD KR FL SU (spr WO zj) ln kp rd wr ft) → va_S (wA g 13 s.heap.size) s.heap H locs → lv_has ls 6 [(0, .ref (g 2)), (1, .int (nI (16 + zj)))] → W p l e { frames := 0, cells := 0, slots := 0, locals := 0 } s m args below meth c H locs 0 0 Q (F0 m 3 ls []) := by
    intro n_3
    induction n_3 with
    | zero => intro zj hm_3; exact absurd hm_3 (Nat.not_lt_zero _)
    | succ n_3 ih_3 =>
      intro zj hm_3 hj H locs ls hP hD hS hl
      refine lv_iload_n hx hb dX0_spreadWords_3 rfl (lv_at hl 1 rfl) ?_
      refine lv_bipush (v := 64) hx hb dX0_spreadWords_4 (by decide) ?_
      refine lv_icmp_ge (tgt := 116) hx hb dX0_spreadWords_6 (by decide) (fun c_1 => ?_) (fun c_1 => ?_)
      · skip
        have c_1 : 64 ≤ (16 + zj) := (nI_leI (a := 64) (b := (16 + zj)) (by omega) (by omega)).mp c_1
        obtain rfl : zj = 48 := by omega
        have hl : lv_has ls 6 [(0, .ref (g 2)), (1, .int (nI (16 + 48)))] := hl
        exact hret () _ _ _ _ dX0_spreadWords_116 hP hD hS trivial
      · skip
        have c_1 : ¬ 64 ≤ (16 + zj) := fun z => c_1 ((nI_leI (a := 64) (b := (16 + zj)) (by omega) (by omega)).mpr z)
        refine lv_aload_n hx hb dX0_spreadWords_9 rfl (lv_at hl 0 rfl) ?_
        refine va_get (D := G) (ci := 0) (v := .ref (g 12)) (C := RX0) (T := TX0) (N := 3) hx hb hts hinX0 hown hK hP 2 rfl rfl 1 (by decide) (hts (.fieldLink RX0 15 "SealedPages$Hasher" "words" "[I") (by decide +kernel)) (fun _ h => h) rfl dX0_spreadWords_10 ?_
        refine lv_iload_n hx hb dX0_spreadWords_13 rfl (lv_at hl 1 rfl) ?_
        refine lv_bipush (v := 15) hx hb dX0_spreadWords_14 (by decide) ?_
        refine lv_isub hx hb dX0_spreadWords_16 ?_
        refine x_eqi (y := nI ((16 + zj) - 15)) (pk_sub (a := 16 + zj) (b := 15) (by omega)) ?_
        refine x_ald (i := (16 + zj) - 15) hx hb hK hP 12 0 rfl rfl (by omega) (by decide) dX0_spreadWords_17 ?_
        refine lv_topi (fun x2_2 ex2_2 => ?_)
        refine lv_istore_n (lv' := [(2, .int x2_2), (0, .ref (g 2)), (1, .int (nI (16 + zj)))]) hx hb dX0_spreadWords_18 rfl hl (by decide) rfl (fun ls hl => ?_)
        refine lv_aload_n hx hb dX0_spreadWords_19 rfl (lv_at hl 1 rfl) ?_
        refine va_get (D := G) (ci := 0) (v := .ref (g 12)) (C := RX0) (T := TX0) (N := 3) hx hb hts hinX0 hown hK hP 2 rfl rfl 1 (by decide) (hts (.fieldLink RX0 15 "SealedPages$Hasher" "words" "[I") (by decide +kernel)) (fun _ h => h) rfl dX0_spreadWords_20 ?_
        refine lv_iload_n hx hb dX0_spreadWords_23 rfl (lv_at hl 2 rfl) ?_
        refine lv_iconst (v := 2) hx hb dX0_spreadWords_24 (by decide) ?_
        refine lv_isub hx hb dX0_spreadWords_25 ?_
        refine x_eqi (y := nI ((16 + zj) - 2)) (pk_sub (a := 16 + zj) (b := 2) (by omega)) ?_
        refine x_ald (i := (16 + zj) - 2) hx hb hK hP 12 0 rfl rfl (by omega) (by decide) dX0_spreadWords_26 ?_
        refine lv_topi (fun x3_3 ex3_3 => ?_)
        refine lv_istore_n (lv' := [(3, .int x3_3), (2, .int x2_2), (0, .ref (g 2)), (1, .int (nI (16 + zj)))]) hx hb dX0_spreadWords_27 rfl hl (by decide) rfl (fun ls hl => ?_)
        refine lv_iload_n hx hb dX0_spreadWords_28 rfl (lv_at hl 1 rfl) ?_
        refine lv_bipush (v := 7) hx hb dX0_spreadWords_29 (by decide) ?_
        refine lv_iushr (v := us x2_2 7) hx hb dX0_spreadWords_31 rfl ?_
        refine lv_iload_n hx hb dX0_spreadWords_32 rfl (lv_at hl 1 rfl) ?_
        refine lv_bipush (v := 25) hx hb dX0_spreadWords_33 (by decide) ?_
        refine lv_ishl hx hb dX0_spreadWords_35 ?_
        refine x_eqi (y := sl x2_2 25) rfl ?_
        refine lv_ior hx hb dX0_spreadWords_36 ?_
        refine lv_iload_n hx hb dX0_spreadWords_37 rfl (lv_at hl 1 rfl) ?_
        refine lv_bipush (v := 18) hx hb dX0_spreadWords_38 (by decide) ?_
        refine lv_iushr (v := us x2_2 18) hx hb dX0_spreadWords_40 rfl ?_
        refine lv_iload_n hx hb dX0_spreadWords_41 rfl (lv_at hl 1 rfl) ?_
        refine lv_bipush (v := 14) hx hb dX0_spreadWords_42 (by decide) ?_
        refine lv_ishl hx hb dX0_spreadWords_44 ?_
        refine x_eqi (y := sl x2_2 14) rfl ?_
        refine lv_ior hx hb dX0_spreadWords_45 ?_
        refine lv_ixor hx hb dX0_spreadWords_46 ?_
        refine lv_iload_n hx hb dX0_spreadWords_47 rfl (lv_at hl 1 rfl) ?_
        refine lv_iconst (v := 3) hx hb dX0_spreadWords_48 (by decide) ?_
        refine lv_iushr (v := us x2_2 3) hx hb dX0_spreadWords_49 rfl ?_
        refine lv_ixor hx hb dX0_spreadWords_50 ?_
        refine lv_topi (fun x4_4 ex4_4 => ?_)
        refine lv_istore (lv' := [(4, .int x4_4), (3, .int x3_3), (2, .int x2_2), (0, .ref (g 2)), (1, .int (nI (16 + zj)))]) hx hb dX0_spreadWords_51 hl (by decide) rfl (fun ls hl => ?_)
        refine lv_iload_n hx hb dX0_spreadWords_53 rfl (lv_at hl 1 rfl) ?_
        refine lv_bipush (v := 17) hx hb dX0_spreadWords_54 (by decide) ?_
        refine lv_iushr (v := us x3_3 17) hx hb dX0_spreadWords_56 rfl ?_
        refine lv_iload_n hx hb dX0_spreadWords_57 rfl (lv_at hl 1 rfl) ?_
        refine lv_bipush (v := 15) hx hb dX0_spreadWords_58 (by decide) ?_
        refine lv_ishl hx hb dX0_spreadWords_60 ?_
        refine x_eqi (y := sl x3_3 15) rfl ?_
        refine lv_ior hx hb dX0_spreadWords_61 ?_
        refine lv_iload_n hx hb dX0_spreadWords_62 rfl (lv_at hl 1 rfl) ?_
        refine lv_bipush (v := 19) hx hb dX0_spreadWords_63 (by decide) ?_
        refine lv_iushr (v := us x3_3 19) hx hb dX0_spreadWords_65 rfl ?_
        refine lv_iload_n hx hb dX0_spreadWords_66 rfl (lv_at hl 1 rfl) ?_
        refine lv_bipush (v := 13) hx hb dX0_spreadWords_67 (by decide) ?_
        refine lv_ishl hx hb dX0_spreadWords_69 ?_
        refine x_eqi (y := sl x3_3 13) rfl ?_
        refine lv_ior hx hb dX0_spreadWords_70 ?_
        refine lv_ixor hx hb dX0_spreadWords_71 ?_
        refine lv_iload_n hx hb dX0_spreadWords_72 rfl (lv_at hl 1 rfl) ?_
        refine lv_bipush (v := 10) hx hb dX0_spreadWords_73 (by decide) ?_
        refine lv_iushr (v := us x3_3 10) hx hb dX0_spreadWords_75 rfl ?_
        refine lv_ixor hx hb dX0_spreadWords_76 ?_
        refine lv_topi (fun x5_5 ex5_5 => ?_)
        refine lv_istore (lv' := [(5, .int x5_5), (4, .int x4_4), (3, .int x3_3), (2, .int x2_2), (0, .ref (g 2)), (1, .int (nI (16 + zj)))]) hx hb dX0_spreadWords_77 hl (by decide) rfl (fun ls hl => ?_)
        refine lv_aload_n hx hb dX0_spreadWords_79 rfl (lv_at hl 4 rfl) ?_
        refine va_get (D := G) (ci := 0) (v := .ref (g 12)) (C := RX0) (T := TX0) (N := 3) hx hb hts hinX0 hown hK hP 2 rfl rfl 1 (by decide) (hts (.fieldLink RX0 15 "SealedPages$Hasher" "words" "[I") (by decide +kernel)) (fun _ h => h) rfl dX0_spreadWords_80 ?_
        refine lv_iload_n hx hb dX0_spreadWords_83 rfl (lv_at hl 5 rfl) ?_
        refine lv_aload_n hx hb dX0_spreadWords_84 rfl (lv_at hl 4 rfl) ?_
        refine va_get (D := G) (ci := 0) (v := .ref (g 12)) (C := RX0) (T := TX0) (N := 3) hx hb hts hinX0 hown hK hP 2 rfl rfl 1 (by decide) (hts (.fieldLink RX0 15 "SealedPages$Hasher" "words" "[I") (by decide +kernel)) (fun _ h => h) rfl dX0_spreadWords_85 ?_
        refine lv_iload_n hx hb dX0_spreadWords_88 rfl (lv_at hl 5 rfl) ?_
        refine lv_bipush (v := 16) hx hb dX0_spreadWords_89 (by decide) ?_
        refine lv_isub hx hb dX0_spreadWords_91 ?_
        refine x_eqi (y := nI ((16 + zj) - 16)) (pk_sub (a := 16 + zj) (b := 16) (by omega)) ?_
        refine x_ald (i := (16 + zj) - 16) hx hb hK hP 12 0 rfl rfl (by omega) (by decide) dX0_spreadWords_92 ?_
        refine lv_iload hx hb dX0_spreadWords_93 (lv_at hl 1 rfl) ?_
        refine lv_iadd hx hb dX0_spreadWords_95 ?_
        refine lv_aload_n hx hb dX0_spreadWords_96 rfl (lv_at hl 4 rfl) ?_
        refine va_get (D := G) (ci := 0) (v := .ref (g 12)) (C := RX0) (T := TX0) (N := 3) hx hb hts hinX0 hown hK hP 2 rfl rfl 1 (by decide) (hts (.fieldLink RX0 15 "SealedPages$Hasher" "words" "[I") (by decide +kernel)) (fun _ h => h) rfl dX0_spreadWords_97 ?_
        refine lv_iload_n hx hb dX0_spreadWords_100 rfl (lv_at hl 5 rfl) ?_
        refine lv_bipush (v := 7) hx hb dX0_spreadWords_101 (by decide) ?_
        refine lv_isub hx hb dX0_spreadWords_103 ?_
        refine x_eqi (y := nI ((16 + zj) - 7)) (pk_sub (a := 16 + zj) (b := 7) (by omega)) ?_
        refine x_ald (i := (16 + zj) - 7) hx hb hK hP 12 0 rfl rfl (by omega) (by decide) dX0_spreadWords_104 ?_
        refine lv_iadd hx hb dX0_spreadWords_105 ?_
        refine lv_iload hx hb dX0_spreadWords_106 (lv_at hl 0 rfl) ?_
        refine lv_iadd hx hb dX0_spreadWords_108 ?_
        refine x_ast (i := 16 + zj) hx hb hK hP hD hS 12 0 rfl rfl (by omega) (by decide) dX0_spreadWords_109 (fun H locs hP hD hS => ?_)
        have hP : va_P G vwCl (xW g cA N D R F KD KR FL SU (upd (spr WO zj) (16 + zj) (((((spr WO zj) ((16 + zj) - 16)) + x4_4) + ((spr WO zj) ((16 + zj) - 7))) + x5_5)) ln kp rd wr ft) _ := hP
        have hD : va_D _ (xW g cA N D R F KD KR FL SU (upd (spr WO zj) (16 + zj) (((((spr WO zj) ((16 + zj) - 16)) + x4_4) + ((spr WO zj) ((16 + zj) - 7))) + x5_5)) ln kp rd wr ft) := hD
        have ec_6 : upd (spr WO zj) (16 + zj) (((((spr WO zj) ((16 + zj) - 16)) + x4_4) + ((spr WO zj) ((16 + zj) - 7))) + x5_5) = spr WO (zj + 1) := by subst_vars; rw [spr_s]; unfold sprS sg0 sg1; rw [r_7, r_18, r_17, r_19]
        rw [ec_6] at hP hD
        refine lv_iinc (v := nI (16 + (zj + 1))) (lv' := [(1, .int (nI (16 + (zj + 1)))), (5, .int x5_5), (4, .int x4_4), (3, .int x3_3), (2, .int x2_2), (0, .ref (g 2))]) hx hb dX0_spreadWords_110 hl (k := 5) rfl (nI_1 _) (by decide) rfl (fun ls hl => ?_)
        refine lv_goto (tgt := 3) hx hb dX0_spreadWords_113 (by decide) ?_
        exact ih_3 (zj + 1) (by omega) (by omega) _ _ _ hP hD hS (lv_sub hl [5, 0] rfl)
  exact loop_3 _ 0 (Nat.lt_succ_self _) (by omega) _ _ _ hP hD hS (lv_sub hl [1, 0] rfl)

set_option maxHeartbeats 4000000 in
set_option maxRecDepth 100000 in
/-- the spread block is mixed into the sums -/
theorem c_X0_mixBlock (l : Launch) (G : va_G) (cA : ClassId) (tF tC : Nat) (g : Nat → Nat) (sz N : Nat) (hN : 1 ≤ N ∧ N ≤ 64) (D R F KD KR FL SU WO : Nat → Int32) (ln kp rd wr ft : Int32)  : CV l yX0_mixBlock wsX0_mixBlock 0 0 G cA tF tC g 13 sz (xW g cA N D R F KD KR FL SU WO ln kp rd wr ft) [.ref (g 2)] (fun (u : Nat → Int32) => xW g cA N D R F KD KR FL u WO ln kp rd wr ft) (fun u => ag 8 u (cmp SU WO)) := by
  refine x_entryV (cc := cX0_mixBlock) (maxL := 14) (by decide) rfl (fun _ => rfl) (Nat.le_of_ble_eq_true rfl) ?_
  intro p e s m args below meth c Q hx hb hml hown hts hK hP hD hS hT hret ls hl
  have hown : s.vm.findClass RX0 = some m.cls := hown
  have hl : lv_has ls 14 [(0, .ref (g 2))] := hl
  have hinX0 : ∀ w ∈ wsX00, w ∈ wsX0_mixBlock := by decide +kernel
  refine lv_aload_n hx hb dX0_mixBlock_0 rfl (lv_at hl 0 rfl) ?_
  refine va_get (D := G) (ci := 0) (v := .ref (g 11)) (C := RX0) (T := TX0) (N := 3) hx hb hts hinX0 hown hK hP 2 rfl rfl 0 (by decide) (hts (.fieldLink RX0 9 "SealedPages$Hasher" "sums" "[I") (by decide +kernel)) (fun _ h => h) rfl dX0_mixBlock_1 ?_
  refine lv_iconst (v := 0) hx hb dX0_mixBlock_4 (by decide) ?_
  refine x_ald (i := 0) hx hb hK hP 11 0 rfl rfl (by omega) (by decide) dX0_mixBlock_5 ?_
  refine lv_istore_n (lv' := [(1, .int (SU 0)), (0, .ref (g 2))]) hx hb dX0_mixBlock_6 rfl hl (by decide) rfl (fun ls hl => ?_)
  refine lv_aload_n hx hb dX0_mixBlock_7 rfl (lv_at hl 1 rfl) ?_
  refine va_get (D := G) (ci := 0) (v := .ref (g 11)) (C := RX0) (T := TX0) (N := 3) hx hb hts hinX0 hown hK hP 2 rfl rfl 0 (by decide) (hts (.fieldLink RX0 9 "SealedPages$Hasher" "sums" "[I") (by decide +kernel)) (fun _ h => h) rfl dX0_mixBlock_8 ?_
  refine lv_iconst (v := 1) hx hb dX0_mixBlock_11 (by decide) ?_
  refine x_ald (i := 1) hx hb hK hP 11 0 rfl rfl (by omega) (by decide) dX0_mixBlock_12 ?_
  refine lv_istore_n (lv' := [(2, .int (SU 1)), (1, .int (SU 0)), (0, .ref (g 2))]) hx hb dX0_mixBlock_13 rfl hl (by decide) rfl (fun ls hl => ?_)
  refine lv_aload_n hx hb dX0_mixBlock_14 rfl (lv_at hl 2 rfl) ?_
  refine va_get (D := G) (ci := 0) (v := .ref (g 11)) (C := RX0) (T := TX0) (N := 3) hx hb hts hinX0 hown hK hP 2 rfl rfl 0 (by decide) (hts (.fieldLink RX0 9 "SealedPages$Hasher" "sums" "[I") (by decide +kernel)) (fun _ h => h) rfl dX0_mixBlock_15 ?_
  refine lv_iconst (v := 2) hx hb dX0_mixBlock_18 (by decide) ?_
  refine x_ald (i := 2) hx hb hK hP 11 0 rfl rfl (by omega) (by decide) dX0_mixBlock_19 ?_
  refine lv_istore_n (lv' := [(3, .int (SU 2)), (2, .int (SU 1)), (1, .int (SU 0)), (0, .ref (g 2))]) hx hb dX0_mixBlock_20 rfl hl (by decide) rfl (fun ls hl => ?_)
  refine lv_aload_n hx hb dX0_mixBlock_21 rfl (lv_at hl 3 rfl) ?_
  refine va_get (D := G) (ci := 0) (v := .ref (g 11)) (C := RX0) (T := TX0) (N := 3) hx hb hts hinX0 hown hK hP 2 rfl rfl 0 (by decide) (hts (.fieldLink RX0 9 "SealedPages$Hasher" "sums" "[I") (by decide +kernel)) (fun _ h => h) rfl dX0_mixBlock_22 ?_
  refine lv_iconst (v := 3) hx hb dX0_mixBlock_25 (by decide) ?_
  refine x_ald (i := 3) hx hb hK hP 11 0 rfl rfl (by omega) (by decide) dX0_mixBlock_26 ?_
  refine lv_istore (lv' := [(4, .int (SU 3)), (3, .int (SU 2)), (2, .int (SU 1)), (1, .int (SU 0)), (0, .ref (g 2))]) hx hb dX0_mixBlock_27 hl (by decide) rfl (fun ls hl => ?_)
  refine lv_aload_n hx hb dX0_mixBlock_29 rfl (lv_at hl 4 rfl) ?_
  refine va_get (D := G) (ci := 0) (v := .ref (g 11)) (C := RX0) (T := TX0) (N := 3) hx hb hts hinX0 hown hK hP 2 rfl rfl 0 (by decide) (hts (.fieldLink RX0 9 "SealedPages$Hasher" "sums" "[I") (by decide +kernel)) (fun _ h => h) rfl dX0_mixBlock_30 ?_
  refine lv_iconst (v := 4) hx hb dX0_mixBlock_33 (by decide) ?_
  refine x_ald (i := 4) hx hb hK hP 11 0 rfl rfl (by omega) (by decide) dX0_mixBlock_34 ?_
  refine lv_istore (lv' := [(5, .int (SU 4)), (4, .int (SU 3)), (3, .int (SU 2)), (2, .int (SU 1)), (1, .int (SU 0)), (0, .ref (g 2))]) hx hb dX0_mixBlock_35 hl (by decide) rfl (fun ls hl => ?_)
  refine lv_aload_n hx hb dX0_mixBlock_37 rfl (lv_at hl 5 rfl) ?_
  refine va_get (D := G) (ci := 0) (v := .ref (g 11)) (C := RX0) (T := TX0) (N := 3) hx hb hts hinX0 hown hK hP 2 rfl rfl 0 (by decide) (hts (.fieldLink RX0 9 "SealedPages$Hasher" "sums" "[I") (by decide +kernel)) (fun _ h => h) rfl dX0_mixBlock_38 ?_
  refine lv_iconst (v := 5) hx hb dX0_mixBlock_41 (by decide) ?_
  refine x_ald (i := 5) hx hb hK hP 11 0 rfl rfl (by omega) (by decide) dX0_mixBlock_42 ?_
  refine lv_istore (lv' := [(6, .int (SU 5)), (5, .int (SU 4)), (4, .int (SU 3)), (3, .int (SU 2)), (2, .int (SU 1)), (1, .int (SU 0)), (0, .ref (g 2))]) hx hb dX0_mixBlock_43 hl (by decide) rfl (fun ls hl => ?_)
  refine lv_aload_n hx hb dX0_mixBlock_45 rfl (lv_at hl 6 rfl) ?_
  refine va_get (D := G) (ci := 0) (v := .ref (g 11)) (C := RX0) (T := TX0) (N := 3) hx hb hts hinX0 hown hK hP 2 rfl rfl 0 (by decide) (hts (.fieldLink RX0 9 "SealedPages$Hasher" "sums" "[I") (by decide +kernel)) (fun _ h => h) rfl dX0_mixBlock_46 ?_
  refine lv_bipush (v := 6) hx hb dX0_mixBlock_49 (by decide) ?_
  refine x_ald (i := 6) hx hb hK hP 11 0 rfl rfl (by omega) (by decide) dX0_mixBlock_51 ?_
  refine lv_istore (lv' := [(7, .int (SU 6)), (6, .int (SU 5)), (5, .int (SU 4)), (4, .int (SU 3)), (3, .int (SU 2)), (2, .int (SU 1)), (1, .int (SU 0)), (0, .ref (g 2))]) hx hb dX0_mixBlock_52 hl (by decide) rfl (fun ls hl => ?_)
  refine lv_aload_n hx hb dX0_mixBlock_54 rfl (lv_at hl 7 rfl) ?_
  refine va_get (D := G) (ci := 0) (v := .ref (g 11)) (C := RX0) (T := TX0) (N := 3) hx hb hts hinX0 hown hK hP 2 rfl rfl 0 (by decide) (hts (.fieldLink RX0 9 "SealedPages$Hasher" "sums" "[I") (by decide +kernel)) (fun _ h => h) rfl dX0_mixBlock_55 ?_
  refine lv_bipush (v := 7) hx hb dX0_mixBlock_58 (by decide) ?_
  refine x_ald (i := 7) hx hb hK hP 11 0 rfl rfl (by omega) (by decide) dX0_mixBlock_60 ?_
  refine lv_istore (lv' := [(8, .int (SU 7)), (7, .int (SU 6)), (6, .int (SU 5)), (5, .int (SU 4)), (4, .int (SU 3)), (3, .int (SU 2)), (2, .int (SU 1)), (1, .int (SU 0)), (0, .ref (g 2))]) hx hb dX0_mixBlock_61 hl (by decide) rfl (fun ls hl => ?_)
  refine lv_iconst (v := 0) hx hb dX0_mixBlock_63 (by decide) ?_
  refine lv_istore (lv' := [(9, .int 0), (8, .int (SU 7)), (7, .int (SU 6)), (6, .int (SU 5)), (5, .int (SU 4)), (4, .int (SU 3)), (3, .int (SU 2)), (2, .int (SU 1)), (1, .int (SU 0)), (0, .ref (g 2))]) hx hb dX0_mixBlock_64 hl (by decide) rfl (fun ls hl => ?_)
  have loop_66 : ∀ (n_66 : Nat) (zt : Nat), (64 - zt) < n_66 → zt ≤ 64 → ∀ (H : Heap) (locs : List Loc) (ls : Array Slot), va_P G vwCl (xW g cA N D R F KD KR FL SU WO ln kp rd wr ft) H → va_D (wA g 13 s.heap.size) (xW g cA N D R F KD KR FL SU WO ln kp rd wr ft) → va_S (wA g 13 s.heap.size) s.heap H locs → lv_has ls 14 [(0, .ref (g 2)), (1, .int (rnds SU WO zt 0)), (2, .int (rnds SU WO zt 1)), (3, .int (rnds SU WO zt 2)), (4, .int (rnds SU WO zt 3)), (5, .int (rnds SU WO zt 4)), (6, .int (rnds SU WO zt 5)), (7, .int (rnds SU WO zt 6)), (8, .int (rnds SU WO zt 7)), (9, .int (nI zt))] → W p l e { frames := 0, cells := 0, slots := 0, locals := 0 } s m args below meth c H locs 0 0 Q (F0 m 66 ls []) := by
    intro n_66
    induction n_66 with
    | zero => intro zt hm_66; exact absurd hm_66 (Nat.not_lt_zero _)
    | succ n_66 ih_66 =>
      intro zt hm_66 ht H locs ls hP hD hS hl
      refine lv_iload hx hb dX0_mixBlock_66 (lv_at hl 9 rfl) ?_
      refine lv_bipush (v := 64) hx hb dX0_mixBlock_68 (by decide) ?_
      refine lv_icmp_ge (tgt := 230) hx hb dX0_mixBlock_70 (by decide) (fun c_1 => ?_) (fun c_1 => ?_)
      · skip
        have c_1 : 64 ≤ zt := (nI_leI (a := 64) (b := zt) (by omega) (by omega)).mp c_1
        obtain rfl : zt = 64 := by omega
        have hl : lv_has ls 14 [(0, .ref (g 2)), (1, .int (rnds SU WO 64 0)), (2, .int (rnds SU WO 64 1)), (3, .int (rnds SU WO 64 2)), (4, .int (rnds SU WO 64 3)), (5, .int (rnds SU WO 64 4)), (6, .int (rnds SU WO 64 5)), (7, .int (rnds SU WO 64 6)), (8, .int (rnds SU WO 64 7)), (9, .int (nI 64))] := hl
        refine lv_aload_n hx hb dX0_mixBlock_230 rfl (lv_at hl 0 rfl) ?_
        refine va_get (D := G) (ci := 0) (v := .ref (g 11)) (C := RX0) (T := TX0) (N := 3) hx hb hts hinX0 hown hK hP 2 rfl rfl 0 (by decide) (hts (.fieldLink RX0 9 "SealedPages$Hasher" "sums" "[I") (by decide +kernel)) (fun _ h => h) rfl dX0_mixBlock_231 ?_
        refine lv_iconst (v := 0) hx hb dX0_mixBlock_234 (by decide) ?_
        refine lv_dup2_11 hx hb dX0_mixBlock_235 rfl rfl ?_
        refine x_ald (i := 0) hx hb hK hP 11 0 rfl rfl (by omega) (by decide) dX0_mixBlock_236 ?_
        refine lv_iload_n hx hb dX0_mixBlock_237 rfl (lv_at hl 1 rfl) ?_
        refine lv_iadd hx hb dX0_mixBlock_238 ?_
        refine x_ast (i := 0) hx hb hK hP hD hS 11 0 rfl rfl (by omega) (by decide) dX0_mixBlock_239 (fun H locs hP hD hS => ?_)
        have hP : va_P G vwCl (xW g cA N D R F KD KR FL (upd SU 0 ((SU 0) + (rnds SU WO 64 0))) WO ln kp rd wr ft) _ := hP
        have hD : va_D _ (xW g cA N D R F KD KR FL (upd SU 0 ((SU 0) + (rnds SU WO 64 0))) WO ln kp rd wr ft) := hD
        refine lv_aload_n hx hb dX0_mixBlock_240 rfl (lv_at hl 0 rfl) ?_
        refine va_get (D := G) (ci := 0) (v := .ref (g 11)) (C := RX0) (T := TX0) (N := 3) hx hb hts hinX0 hown hK hP 2 rfl rfl 0 (by decide) (hts (.fieldLink RX0 9 "SealedPages$Hasher" "sums" "[I") (by decide +kernel)) (fun _ h => h) rfl dX0_mixBlock_241 ?_
        refine lv_iconst (v := 1) hx hb dX0_mixBlock_244 (by decide) ?_
        refine lv_dup2_11 hx hb dX0_mixBlock_245 rfl rfl ?_
        refine x_ald (i := 1) hx hb hK hP 11 0 rfl rfl (by omega) (by decide) dX0_mixBlock_246 ?_
        refine lv_iload_n hx hb dX0_mixBlock_247 rfl (lv_at hl 2 rfl) ?_
        refine lv_iadd hx hb dX0_mixBlock_248 ?_
        refine x_ast (i := 1) hx hb hK hP hD hS 11 0 rfl rfl (by omega) (by decide) dX0_mixBlock_249 (fun H locs hP hD hS => ?_)
        have hP : va_P G vwCl (xW g cA N D R F KD KR FL (upd (upd SU 0 ((SU 0) + (rnds SU WO 64 0))) 1 (((upd SU 0 ((SU 0) + (rnds SU WO 64 0))) 1) + (rnds SU WO 64 1))) WO ln kp rd wr ft) _ := hP
        have hD : va_D _ (xW g cA N D R F KD KR FL (upd (upd SU 0 ((SU 0) + (rnds SU WO 64 0))) 1 (((upd SU 0 ((SU 0) + (rnds SU WO 64 0))) 1) + (rnds SU WO 64 1))) WO ln kp rd wr ft) := hD
        refine lv_aload_n hx hb dX0_mixBlock_250 rfl (lv_at hl 0 rfl) ?_
        refine va_get (D := G) (ci := 0) (v := .ref (g 11)) (C := RX0) (T := TX0) (N := 3) hx hb hts hinX0 hown hK hP 2 rfl rfl 0 (by decide) (hts (.fieldLink RX0 9 "SealedPages$Hasher" "sums" "[I") (by decide +kernel)) (fun _ h => h) rfl dX0_mixBlock_251 ?_
        refine lv_iconst (v := 2) hx hb dX0_mixBlock_254 (by decide) ?_
        refine lv_dup2_11 hx hb dX0_mixBlock_255 rfl rfl ?_
        refine x_ald (i := 2) hx hb hK hP 11 0 rfl rfl (by omega) (by decide) dX0_mixBlock_256 ?_
        refine lv_iload_n hx hb dX0_mixBlock_257 rfl (lv_at hl 3 rfl) ?_
        refine lv_iadd hx hb dX0_mixBlock_258 ?_
        refine x_ast (i := 2) hx hb hK hP hD hS 11 0 rfl rfl (by omega) (by decide) dX0_mixBlock_259 (fun H locs hP hD hS => ?_)
        have hP : va_P G vwCl (xW g cA N D R F KD KR FL (upd (upd (upd SU 0 ((SU 0) + (rnds SU WO 64 0))) 1 (((upd SU 0 ((SU 0) + (rnds SU WO 64 0))) 1) + (rnds SU WO 64 1))) 2 (((upd (upd SU 0 ((SU 0) + (rnds SU WO 64 0))) 1 (((upd SU 0 ((SU 0) + (rnds SU WO 64 0))) 1) + (rnds SU WO 64 1))) 2) + (rnds SU WO 64 2))) WO ln kp rd wr ft) _ := hP
        have hD : va_D _ (xW g cA N D R F KD KR FL (upd (upd (upd SU 0 ((SU 0) + (rnds SU WO 64 0))) 1 (((upd SU 0 ((SU 0) + (rnds SU WO 64 0))) 1) + (rnds SU WO 64 1))) 2 (((upd (upd SU 0 ((SU 0) + (rnds SU WO 64 0))) 1 (((upd SU 0 ((SU 0) + (rnds SU WO 64 0))) 1) + (rnds SU WO 64 1))) 2) + (rnds SU WO 64 2))) WO ln kp rd wr ft) := hD
        refine lv_aload_n hx hb dX0_mixBlock_260 rfl (lv_at hl 0 rfl) ?_
        refine va_get (D := G) (ci := 0) (v := .ref (g 11)) (C := RX0) (T := TX0) (N := 3) hx hb hts hinX0 hown hK hP 2 rfl rfl 0 (by decide) (hts (.fieldLink RX0 9 "SealedPages$Hasher" "sums" "[I") (by decide +kernel)) (fun _ h => h) rfl dX0_mixBlock_261 ?_
        refine lv_iconst (v := 3) hx hb dX0_mixBlock_264 (by decide) ?_
        refine lv_dup2_11 hx hb dX0_mixBlock_265 rfl rfl ?_
        refine x_ald (i := 3) hx hb hK hP 11 0 rfl rfl (by omega) (by decide) dX0_mixBlock_266 ?_
        refine lv_iload hx hb dX0_mixBlock_267 (lv_at hl 4 rfl) ?_
        refine lv_iadd hx hb dX0_mixBlock_269 ?_
        refine x_ast (i := 3) hx hb hK hP hD hS 11 0 rfl rfl (by omega) (by decide) dX0_mixBlock_270 (fun H locs hP hD hS => ?_)
        have hP : va_P G vwCl (xW g cA N D R F KD KR FL (upd (upd (upd (upd SU 0 ((SU 0) + (rnds SU WO 64 0))) 1 (((upd SU 0 ((SU 0) + (rnds SU WO 64 0))) 1) + (rnds SU WO 64 1))) 2 (((upd (upd SU 0 ((SU 0) + (rnds SU WO 64 0))) 1 (((upd SU 0 ((SU 0) + (rnds SU WO 64 0))) 1) + (rnds SU WO 64 1))) 2) + (rnds SU WO 64 2))) 3 (((upd (upd (upd SU 0 ((SU 0) + (rnds SU WO 64 0))) 1 (((upd SU 0 ((SU 0) + (rnds SU WO 64 0))) 1) + (rnds SU WO 64 1))) 2 (((upd (upd SU 0 ((SU 0) + (rnds SU WO 64 0))) 1 (((upd SU 0 ((SU 0) + (rnds SU WO 64 0))) 1) + (rnds SU WO 64 1))) 2) + (rnds SU WO 64 2))) 3) + (rnds SU WO 64 3))) WO ln kp rd wr ft) _ := hP
        have hD : va_D _ (xW g cA N D R F KD KR FL (upd (upd (upd (upd SU 0 ((SU 0) + (rnds SU WO 64 0))) 1 (((upd SU 0 ((SU 0) + (rnds SU WO 64 0))) 1) + (rnds SU WO 64 1))) 2 (((upd (upd SU 0 ((SU 0) + (rnds SU WO 64 0))) 1 (((upd SU 0 ((SU 0) + (rnds SU WO 64 0))) 1) + (rnds SU WO 64 1))) 2) + (rnds SU WO 64 2))) 3 (((upd (upd (upd SU 0 ((SU 0) + (rnds SU WO 64 0))) 1 (((upd SU 0 ((SU 0) + (rnds SU WO 64 0))) 1) + (rnds SU WO 64 1))) 2 (((upd (upd SU 0 ((SU 0) + (rnds SU WO 64 0))) 1 (((upd SU 0 ((SU 0) + (rnds SU WO 64 0))) 1) + (rnds SU WO 64 1))) 2) + (rnds SU WO 64 2))) 3) + (rnds SU WO 64 3))) WO ln kp rd wr ft) := hD
        refine lv_aload_n hx hb dX0_mixBlock_271 rfl (lv_at hl 0 rfl) ?_
        refine va_get (D := G) (ci := 0) (v := .ref (g 11)) (C := RX0) (T := TX0) (N := 3) hx hb hts hinX0 hown hK hP 2 rfl rfl 0 (by decide) (hts (.fieldLink RX0 9 "SealedPages$Hasher" "sums" "[I") (by decide +kernel)) (fun _ h => h) rfl dX0_mixBlock_272 ?_
        refine lv_iconst (v := 4) hx hb dX0_mixBlock_275 (by decide) ?_
        refine lv_dup2_11 hx hb dX0_mixBlock_276 rfl rfl ?_
        refine x_ald (i := 4) hx hb hK hP 11 0 rfl rfl (by omega) (by decide) dX0_mixBlock_277 ?_
        refine lv_iload hx hb dX0_mixBlock_278 (lv_at hl 5 rfl) ?_
        refine lv_iadd hx hb dX0_mixBlock_280 ?_
        refine x_ast (i := 4) hx hb hK hP hD hS 11 0 rfl rfl (by omega) (by decide) dX0_mixBlock_281 (fun H locs hP hD hS => ?_)
        have hP : va_P G vwCl (xW g cA N D R F KD KR FL (upd (upd (upd (upd (upd SU 0 ((SU 0) + (rnds SU WO 64 0))) 1 (((upd SU 0 ((SU 0) + (rnds SU WO 64 0))) 1) + (rnds SU WO 64 1))) 2 (((upd (upd SU 0 ((SU 0) + (rnds SU WO 64 0))) 1 (((upd SU 0 ((SU 0) + (rnds SU WO 64 0))) 1) + (rnds SU WO 64 1))) 2) + (rnds SU WO 64 2))) 3 (((upd (upd (upd SU 0 ((SU 0) + (rnds SU WO 64 0))) 1 (((upd SU 0 ((SU 0) + (rnds SU WO 64 0))) 1) + (rnds SU WO 64 1))) 2 (((upd (upd SU 0 ((SU 0) + (rnds SU WO 64 0))) 1 (((upd SU 0 ((SU 0) + (rnds SU WO 64 0))) 1) + (rnds SU WO 64 1))) 2) + (rnds SU WO 64 2))) 3) + (rnds SU WO 64 3))) 4 (((upd (upd (upd (upd SU 0 ((SU 0) + (rnds SU WO 64 0))) 1 (((upd SU 0 ((SU 0) + (rnds SU WO 64 0))) 1) + (rnds SU WO 64 1))) 2 (((upd (upd SU 0 ((SU 0) + (rnds SU WO 64 0))) 1 (((upd SU 0 ((SU 0) + (rnds SU WO 64 0))) 1) + (rnds SU WO 64 1))) 2) + (rnds SU WO 64 2))) 3 (((upd (upd (upd SU 0 ((SU 0) + (rnds SU WO 64 0))) 1 (((upd SU 0 ((SU 0) + (rnds SU WO 64 0))) 1) + (rnds SU WO 64 1))) 2 (((upd (upd SU 0 ((SU 0) + (rnds SU WO 64 0))) 1 (((upd SU 0 ((SU 0) + (rnds SU WO 64 0))) 1) + (rnds SU WO 64 1))) 2) + (rnds SU WO 64 2))) 3) + (rnds SU WO 64 3))) 4) + (rnds SU WO 64 4))) WO ln kp rd wr ft) _ := hP
        have hD : va_D _ (xW g cA N D R F KD KR FL (upd (upd (upd (upd (upd SU 0 ((SU 0) + (rnds SU WO 64 0))) 1 (((upd SU 0 ((SU 0) + (rnds SU WO 64 0))) 1) + (rnds SU WO 64 1))) 2 (((upd (upd SU 0 ((SU 0) + (rnds SU WO 64 0))) 1 (((upd SU 0 ((SU 0) + (rnds SU WO 64 0))) 1) + (rnds SU WO 64 1))) 2) + (rnds SU WO 64 2))) 3 (((upd (upd (upd SU 0 ((SU 0) + (rnds SU WO 64 0))) 1 (((upd SU 0 ((SU 0) + (rnds SU WO 64 0))) 1) + (rnds SU WO 64 1))) 2 (((upd (upd SU 0 ((SU 0) + (rnds SU WO 64 0))) 1 (((upd SU 0 ((SU 0) + (rnds SU WO 64 0))) 1) + (rnds SU WO 64 1))) 2) + (rnds SU WO 64 2))) 3) + (rnds SU WO 64 3))) 4 (((upd (upd (upd (upd SU 0 ((SU 0) + (rnds SU WO 64 0))) 1 (((upd SU 0 ((SU 0) + (rnds SU WO 64 0))) 1) + (rnds SU WO 64 1))) 2 (((upd (upd SU 0 ((SU 0) + (rnds SU WO 64 0))) 1 (((upd SU 0 ((SU 0) + (rnds SU WO 64 0))) 1) + (rnds SU WO 64 1))) 2) + (rnds SU WO 64 2))) 3 (((upd (upd (upd SU 0 ((SU 0) + (rnds SU WO 64 0))) 1 (((upd SU 0 ((SU 0) + (rnds SU WO 64 0))) 1) + (rnds SU WO 64 1))) 2 (((upd (upd SU 0 ((SU 0) + (rnds SU WO 64 0))) 1 (((upd SU 0 ((SU 0) + (rnds SU WO 64 0))) 1) + (rnds SU WO 64 1))) 2) + (rnds SU WO 64 2))) 3) + (rnds SU WO 64 3))) 4) + (rnds SU WO 64 4))) WO ln kp rd wr ft) := hD
        refine lv_aload_n hx hb dX0_mixBlock_282 rfl (lv_at hl 0 rfl) ?_
        refine va_get (D := G) (ci := 0) (v := .ref (g 11)) (C := RX0) (T := TX0) (N := 3) hx hb hts hinX0 hown hK hP 2 rfl rfl 0 (by decide) (hts (.fieldLink RX0 9 "SealedPages$Hasher" "sums" "[I") (by decide +kernel)) (fun _ h => h) rfl dX0_mixBlock_283 ?_
        refine lv_iconst (v := 5) hx hb dX0_mixBlock_286 (by decide) ?_
        refine lv_dup2_11 hx hb dX0_mixBlock_287 rfl rfl ?_
        refine x_ald (i := 5) hx hb hK hP 11 0 rfl rfl (by omega) (by decide) dX0_mixBlock_288 ?_
        refine lv_iload hx hb dX0_mixBlock_289 (lv_at hl 6 rfl) ?_
        refine lv_iadd hx hb dX0_mixBlock_291 ?_
        refine x_ast (i := 5) hx hb hK hP hD hS 11 0 rfl rfl (by omega) (by decide) dX0_mixBlock_292 (fun H locs hP hD hS => ?_)
        have hP : va_P G vwCl (xW g cA N D R F KD KR FL (upd (upd (upd (upd (upd (upd SU 0 ((SU 0) + (rnds SU WO 64 0))) 1 (((upd SU 0 ((SU 0) + (rnds SU WO 64 0))) 1) + (rnds SU WO 64 1))) 2 (((upd (upd SU 0 ((SU 0) + (rnds SU WO 64 0))) 1 (((upd SU 0 ((SU 0) + (rnds SU WO 64 0))) 1) + (rnds SU WO 64 1))) 2) + (rnds SU WO 64 2))) 3 (((upd (upd (upd SU 0 ((SU 0) + (rnds SU WO 64 0))) 1 (((upd SU 0 ((SU 0) + (rnds SU WO 64 0))) 1) + (rnds SU WO 64 1))) 2 (((upd (upd SU 0 ((SU 0) + (rnds SU WO 64 0))) 1 (((upd SU 0 ((SU 0) + (rnds SU WO 64 0))) 1) + (rnds SU WO 64 1))) 2) + (rnds SU WO 64 2))) 3) + (rnds SU WO 64 3))) 4 (((upd (upd (upd (upd SU 0 ((SU 0) + (rnds SU WO 64 0))) 1 (((upd SU 0 ((SU 0) + (rnds SU WO 64 0))) 1) + (rnds SU WO 64 1))) 2 (((upd (upd SU 0 ((SU 0) + (rnds SU WO 64 0))) 1 (((upd SU 0 ((SU 0) + (rnds SU WO 64 0))) 1) + (rnds SU WO 64 1))) 2) + (rnds SU WO 64 2))) 3 (((upd (upd (upd SU 0 ((SU 0) + (rnds SU WO 64 0))) 1 (((upd SU 0 ((SU 0) + (rnds SU WO 64 0))) 1) + (rnds SU WO 64 1))) 2 (((upd (upd SU 0 ((SU 0) + (rnds SU WO 64 0))) 1 (((upd SU 0 ((SU 0) + (rnds SU WO 64 0))) 1) + (rnds SU WO 64 1))) 2) + (rnds SU WO 64 2))) 3) + (rnds SU WO 64 3))) 4) + (rnds SU WO 64 4))) 5 (((upd (upd (upd (upd (upd SU 0 ((SU 0) + (rnds SU WO 64 0))) 1 (((upd SU 0 ((SU 0) + (rnds SU WO 64 0))) 1) + (rnds SU WO 64 1))) 2 (((upd (upd SU 0 ((SU 0) + (rnds SU WO 64 0))) 1 (((upd SU 0 ((SU 0) + (rnds SU WO 64 0))) 1) + (rnds SU WO 64 1))) 2) + (rnds SU WO 64 2))) 3 (((upd (upd (upd SU 0 ((SU 0) + (rnds SU WO 64 0))) 1 (((upd SU 0 ((SU 0) + (rnds SU WO 64 0))) 1) + (rnds SU WO 64 1))) 2 (((upd (upd SU 0 ((SU 0) + (rnds SU WO 64 0))) 1 (((upd SU 0 ((SU 0) + (rnds SU WO 64 0))) 1) + (rnds SU WO 64 1))) 2) + (rnds SU WO 64 2))) 3) + (rnds SU WO 64 3))) 4 (((upd (upd (upd (upd SU 0 ((SU 0) + (rnds SU WO 64 0))) 1 (((upd SU 0 ((SU 0) + (rnds SU WO 64 0))) 1) + (rnds SU WO 64 1))) 2 (((upd (upd SU 0 ((SU 0) + (rnds SU WO 64 0))) 1 (((upd SU 0 ((SU 0) + (rnds SU WO 64 0))) 1) + (rnds SU WO 64 1))) 2) + (rnds SU WO 64 2))) 3 (((upd (upd (upd SU 0 ((SU 0) + (rnds SU WO 64 0))) 1 (((upd SU 0 ((SU 0) + (rnds SU WO 64 0))) 1) + (rnds SU WO 64 1))) 2 (((upd (upd SU 0 ((SU 0) + (rnds SU WO 64 0))) 1 (((upd SU 0 ((SU 0) + (rnds SU WO 64 0))) 1) + (rnds SU WO 64 1))) 2) + (rnds SU WO 64 2))) 3) + (rnds SU WO 64 3))) 4) + (rnds SU WO 64 4))) 5) + (rnds SU WO 64 5))) WO ln kp rd wr ft) _ := hP
        have hD : va_D _ (xW g cA N D R F KD KR FL (upd (upd (upd (upd (upd (upd SU 0 ((SU 0) + (rnds SU WO 64 0))) 1 (((upd SU 0 ((SU 0) + (rnds SU WO 64 0))) 1) + (rnds SU WO 64 1))) 2 (((upd (upd SU 0 ((SU 0) + (rnds SU WO 64 0))) 1 (((upd SU 0 ((SU 0) + (rnds SU WO 64 0))) 1) + (rnds SU WO 64 1))) 2) + (rnds SU WO 64 2))) 3 (((upd (upd (upd SU 0 ((SU 0) + (rnds SU WO 64 0))) 1 (((upd SU 0 ((SU 0) + (rnds SU WO 64 0))) 1) + (rnds SU WO 64 1))) 2 (((upd (upd SU 0 ((SU 0) + (rnds SU WO 64 0))) 1 (((upd SU 0 ((SU 0) + (rnds SU WO 64 0))) 1) + (rnds SU WO 64 1))) 2) + (rnds SU WO 64 2))) 3) + (rnds SU WO 64 3))) 4 (((upd (upd (upd (upd SU 0 ((SU 0) + (rnds SU WO 64 0))) 1 (((upd SU 0 ((SU 0) + (rnds SU WO 64 0))) 1) + (rnds SU WO 64 1))) 2 (((upd (upd SU 0 ((SU 0) + (rnds SU WO 64 0))) 1 (((upd SU 0 ((SU 0) + (rnds SU WO 64 0))) 1) + (rnds SU WO 64 1))) 2) + (rnds SU WO 64 2))) 3 (((upd (upd (upd SU 0 ((SU 0) + (rnds SU WO 64 0))) 1 (((upd SU 0 ((SU 0) + (rnds SU WO 64 0))) 1) + (rnds SU WO 64 1))) 2 (((upd (upd SU 0 ((SU 0) + (rnds SU WO 64 0))) 1 (((upd SU 0 ((SU 0) + (rnds SU WO 64 0))) 1) + (rnds SU WO 64 1))) 2) + (rnds SU WO 64 2))) 3) + (rnds SU WO 64 3))) 4) + (rnds SU WO 64 4))) 5 (((upd (upd (upd (upd (upd SU 0 ((SU 0) + (rnds SU WO 64 0))) 1 (((upd SU 0 ((SU 0) + (rnds SU WO 64 0))) 1) + (rnds SU WO 64 1))) 2 (((upd (upd SU 0 ((SU 0) + (rnds SU WO 64 0))) 1 (((upd SU 0 ((SU 0) + (rnds SU WO 64 0))) 1) + (rnds SU WO 64 1))) 2) + (rnds SU WO 64 2))) 3 (((upd (upd (upd SU 0 ((SU 0) + (rnds SU WO 64 0))) 1 (((upd SU 0 ((SU 0) + (rnds SU WO 64 0))) 1) + (rnds SU WO 64 1))) 2 (((upd (upd SU 0 ((SU 0) + (rnds SU WO 64 0))) 1 (((upd SU 0 ((SU 0) + (rnds SU WO 64 0))) 1) + (rnds SU WO 64 1))) 2) + (rnds SU WO 64 2))) 3) + (rnds SU WO 64 3))) 4 (((upd (upd (upd (upd SU 0 ((SU 0) + (rnds SU WO 64 0))) 1 (((upd SU 0 ((SU 0) + (rnds SU WO 64 0))) 1) + (rnds SU WO 64 1))) 2 (((upd (upd SU 0 ((SU 0) + (rnds SU WO 64 0))) 1 (((upd SU 0 ((SU 0) + (rnds SU WO 64 0))) 1) + (rnds SU WO 64 1))) 2) + (rnds SU WO 64 2))) 3 (((upd (upd (upd SU 0 ((SU 0) + (rnds SU WO 64 0))) 1 (((upd SU 0 ((SU 0) + (rnds SU WO 64 0))) 1) + (rnds SU WO 64 1))) 2 (((upd (upd SU 0 ((SU 0) + (rnds SU WO 64 0))) 1 (((upd SU 0 ((SU 0) + (rnds SU WO 64 0))) 1) + (rnds SU WO 64 1))) 2) + (rnds SU WO 64 2))) 3) + (rnds SU WO 64 3))) 4) + (rnds SU WO 64 4))) 5) + (rnds SU WO 64 5))) WO ln kp rd wr ft) := hD
        refine lv_aload_n hx hb dX0_mixBlock_293 rfl (lv_at hl 0 rfl) ?_
        refine va_get (D := G) (ci := 0) (v := .ref (g 11)) (C := RX0) (T := TX0) (N := 3) hx hb hts hinX0 hown hK hP 2 rfl rfl 0 (by decide) (hts (.fieldLink RX0 9 "SealedPages$Hasher" "sums" "[I") (by decide +kernel)) (fun _ h => h) rfl dX0_mixBlock_294 ?_
        refine lv_bipush (v := 6) hx hb dX0_mixBlock_297 (by decide) ?_
        refine lv_dup2_11 hx hb dX0_mixBlock_299 rfl rfl ?_
        refine x_ald (i := 6) hx hb hK hP 11 0 rfl rfl (by omega) (by decide) dX0_mixBlock_300 ?_
        refine lv_iload hx hb dX0_mixBlock_301 (lv_at hl 7 rfl) ?_
        refine lv_iadd hx hb dX0_mixBlock_303 ?_
        refine x_ast (i := 6) hx hb hK hP hD hS 11 0 rfl rfl (by omega) (by decide) dX0_mixBlock_304 (fun H locs hP hD hS => ?_)
        have hP : va_P G vwCl (xW g cA N D R F KD KR FL (upd (upd (upd (upd (upd (upd (upd SU 0 ((SU 0) + (rnds SU WO 64 0))) 1 (((upd SU 0 ((SU 0) + (rnds SU WO 64 0))) 1) + (rnds SU WO 64 1))) 2 (((upd (upd SU 0 ((SU 0) + (rnds SU WO 64 0))) 1 (((upd SU 0 ((SU 0) + (rnds SU WO 64 0))) 1) + (rnds SU WO 64 1))) 2) + (rnds SU WO 64 2))) 3 (((upd (upd (upd SU 0 ((SU 0) + (rnds SU WO 64 0))) 1 (((upd SU 0 ((SU 0) + (rnds SU WO 64 0))) 1) + (rnds SU WO 64 1))) 2 (((upd (upd SU 0 ((SU 0) + (rnds SU WO 64 0))) 1 (((upd SU 0 ((SU 0) + (rnds SU WO 64 0))) 1) + (rnds SU WO 64 1))) 2) + (rnds SU WO 64 2))) 3) + (rnds SU WO 64 3))) 4 (((upd (upd (upd (upd SU 0 ((SU 0) + (rnds SU WO 64 0))) 1 (((upd SU 0 ((SU 0) + (rnds SU WO 64 0))) 1) + (rnds SU WO 64 1))) 2 (((upd (upd SU 0 ((SU 0) + (rnds SU WO 64 0))) 1 (((upd SU 0 ((SU 0) + (rnds SU WO 64 0))) 1) + (rnds SU WO 64 1))) 2) + (rnds SU WO 64 2))) 3 (((upd (upd (upd SU 0 ((SU 0) + (rnds SU WO 64 0))) 1 (((upd SU 0 ((SU 0) + (rnds SU WO 64 0))) 1) + (rnds SU WO 64 1))) 2 (((upd (upd SU 0 ((SU 0) + (rnds SU WO 64 0))) 1 (((upd SU 0 ((SU 0) + (rnds SU WO 64 0))) 1) + (rnds SU WO 64 1))) 2) + (rnds SU WO 64 2))) 3) + (rnds SU WO 64 3))) 4) + (rnds SU WO 64 4))) 5 (((upd (upd (upd (upd (upd SU 0 ((SU 0) + (rnds SU WO 64 0))) 1 (((upd SU 0 ((SU 0) + (rnds SU WO 64 0))) 1) + (rnds SU WO 64 1))) 2 (((upd (upd SU 0 ((SU 0) + (rnds SU WO 64 0))) 1 (((upd SU 0 ((SU 0) + (rnds SU WO 64 0))) 1) + (rnds SU WO 64 1))) 2) + (rnds SU WO 64 2))) 3 (((upd (upd (upd SU 0 ((SU 0) + (rnds SU WO 64 0))) 1 (((upd SU 0 ((SU 0) + (rnds SU WO 64 0))) 1) + (rnds SU WO 64 1))) 2 (((upd (upd SU 0 ((SU 0) + (rnds SU WO 64 0))) 1 (((upd SU 0 ((SU 0) + (rnds SU WO 64 0))) 1) + (rnds SU WO 64 1))) 2) + (rnds SU WO 64 2))) 3) + (rnds SU WO 64 3))) 4 (((upd (upd (upd (upd SU 0 ((SU 0) + (rnds SU WO 64 0))) 1 (((upd SU 0 ((SU 0) + (rnds SU WO 64 0))) 1) + (rnds SU WO 64 1))) 2 (((upd (upd SU 0 ((SU 0) + (rnds SU WO 64 0))) 1 (((upd SU 0 ((SU 0) + (rnds SU WO 64 0))) 1) + (rnds SU WO 64 1))) 2) + (rnds SU WO 64 2))) 3 (((upd (upd (upd SU 0 ((SU 0) + (rnds SU WO 64 0))) 1 (((upd SU 0 ((SU 0) + (rnds SU WO 64 0))) 1) + (rnds SU WO 64 1))) 2 (((upd (upd SU 0 ((SU 0) + (rnds SU WO 64 0))) 1 (((upd SU 0 ((SU 0) + (rnds SU WO 64 0))) 1) + (rnds SU WO 64 1))) 2) + (rnds SU WO 64 2))) 3) + (rnds SU WO 64 3))) 4) + (rnds SU WO 64 4))) 5) + (rnds SU WO 64 5))) 6 (((upd (upd (upd (upd (upd (upd SU 0 ((SU 0) + (rnds SU WO 64 0))) 1 (((upd SU 0 ((SU 0) + (rnds SU WO 64 0))) 1) + (rnds SU WO 64 1))) 2 (((upd (upd SU 0 ((SU 0) + (rnds SU WO 64 0))) 1 (((upd SU 0 ((SU 0) + (rnds SU WO 64 0))) 1) + (rnds SU WO 64 1))) 2) + (rnds SU WO 64 2))) 3 (((upd (upd (upd SU 0 ((SU 0) + (rnds SU WO 64 0))) 1 (((upd SU 0 ((SU 0) + (rnds SU WO 64 0))) 1) + (rnds SU WO 64 1))) 2 (((upd (upd SU 0 ((SU 0) + (rnds SU WO 64 0))) 1 (((upd SU 0 ((SU 0) + (rnds SU WO 64 0))) 1) + (rnds SU WO 64 1))) 2) + (rnds SU WO 64 2))) 3) + (rnds SU WO 64 3))) 4 (((upd (upd (upd (upd SU 0 ((SU 0) + (rnds SU WO 64 0))) 1 (((upd SU 0 ((SU 0) + (rnds SU WO 64 0))) 1) + (rnds SU WO 64 1))) 2 (((upd (upd SU 0 ((SU 0) + (rnds SU WO 64 0))) 1 (((upd SU 0 ((SU 0) + (rnds SU WO 64 0))) 1) + (rnds SU WO 64 1))) 2) + (rnds SU WO 64 2))) 3 (((upd (upd (upd SU 0 ((SU 0) + (rnds SU WO 64 0))) 1 (((upd SU 0 ((SU 0) + (rnds SU WO 64 0))) 1) + (rnds SU WO 64 1))) 2 (((upd (upd SU 0 ((SU 0) + (rnds SU WO 64 0))) 1 (((upd SU 0 ((SU 0) + (rnds SU WO 64 0))) 1) + (rnds SU WO 64 1))) 2) + (rnds SU WO 64 2))) 3) + (rnds SU WO 64 3))) 4) + (rnds SU WO 64 4))) 5 (((upd (upd (upd (upd (upd SU 0 ((SU 0) + (rnds SU WO 64 0))) 1 (((upd SU 0 ((SU 0) + (rnds SU WO 64 0))) 1) + (rnds SU WO 64 1))) 2 (((upd (upd SU 0 ((SU 0) + (rnds SU WO 64 0))) 1 (((upd SU 0 ((SU 0) + (rnds SU WO 64 0))) 1) + (rnds SU WO 64 1))) 2) + (rnds SU WO 64 2))) 3 (((upd (upd (upd SU 0 ((SU 0) + (rnds SU WO 64 0))) 1 (((upd SU 0 ((SU 0) + (rnds SU WO 64 0))) 1) + (rnds SU WO 64 1))) 2 (((upd (upd SU 0 ((SU 0) + (rnds SU WO 64 0))) 1 (((upd SU 0 ((SU 0) + (rnds SU WO 64 0))) 1) + (rnds SU WO 64 1))) 2) + (rnds SU WO 64 2))) 3) + (rnds SU WO 64 3))) 4 (((upd (upd (upd (upd SU 0 ((SU 0) + (rnds SU WO 64 0))) 1 (((upd SU 0 ((SU 0) + (rnds SU WO 64 0))) 1) + (rnds SU WO 64 1))) 2 (((upd (upd SU 0 ((SU 0) + (rnds SU WO 64 0))) 1 (((upd SU 0 ((SU 0) + (rnds SU WO 64 0))) 1) + (rnds SU WO 64 1))) 2) + (rnds SU WO 64 2))) 3 (((upd (upd (upd SU 0 ((SU 0) + (rnds SU WO 64 0))) 1 (((upd SU 0 ((SU 0) + (rnds SU WO 64 0))) 1) + (rnds SU WO 64 1))) 2 (((upd (upd SU 0 ((SU 0) + (rnds SU WO 64 0))) 1 (((upd SU 0 ((SU 0) + (rnds SU WO 64 0))) 1) + (rnds SU WO 64 1))) 2) + (rnds SU WO 64 2))) 3) + (rnds SU WO 64 3))) 4) + (rnds SU WO 64 4))) 5) + (rnds SU WO 64 5))) 6) + (rnds SU WO 64 6))) WO ln kp rd wr ft) _ := hP
        have hD : va_D _ (xW g cA N D R F KD KR FL (upd (upd (upd (upd (upd (upd (upd SU 0 ((SU 0) + (rnds SU WO 64 0))) 1 (((upd SU 0 ((SU 0) + (rnds SU WO 64 0))) 1) + (rnds SU WO 64 1))) 2 (((upd (upd SU 0 ((SU 0) + (rnds SU WO 64 0))) 1 (((upd SU 0 ((SU 0) + (rnds SU WO 64 0))) 1) + (rnds SU WO 64 1))) 2) + (rnds SU WO 64 2))) 3 (((upd (upd (upd SU 0 ((SU 0) + (rnds SU WO 64 0))) 1 (((upd SU 0 ((SU 0) + (rnds SU WO 64 0))) 1) + (rnds SU WO 64 1))) 2 (((upd (upd SU 0 ((SU 0) + (rnds SU WO 64 0))) 1 (((upd SU 0 ((SU 0) + (rnds SU WO 64 0))) 1) + (rnds SU WO 64 1))) 2) + (rnds SU WO 64 2))) 3) + (rnds SU WO 64 3))) 4 (((upd (upd (upd (upd SU 0 ((SU 0) + (rnds SU WO 64 0))) 1 (((upd SU 0 ((SU 0) + (rnds SU WO 64 0))) 1) + (rnds SU WO 64 1))) 2 (((upd (upd SU 0 ((SU 0) + (rnds SU WO 64 0))) 1 (((upd SU 0 ((SU 0) + (rnds SU WO 64 0))) 1) + (rnds SU WO 64 1))) 2) + (rnds SU WO 64 2))) 3 (((upd (upd (upd SU 0 ((SU 0) + (rnds SU WO 64 0))) 1 (((upd SU 0 ((SU 0) + (rnds SU WO 64 0))) 1) + (rnds SU WO 64 1))) 2 (((upd (upd SU 0 ((SU 0) + (rnds SU WO 64 0))) 1 (((upd SU 0 ((SU 0) + (rnds SU WO 64 0))) 1) + (rnds SU WO 64 1))) 2) + (rnds SU WO 64 2))) 3) + (rnds SU WO 64 3))) 4) + (rnds SU WO 64 4))) 5 (((upd (upd (upd (upd (upd SU 0 ((SU 0) + (rnds SU WO 64 0))) 1 (((upd SU 0 ((SU 0) + (rnds SU WO 64 0))) 1) + (rnds SU WO 64 1))) 2 (((upd (upd SU 0 ((SU 0) + (rnds SU WO 64 0))) 1 (((upd SU 0 ((SU 0) + (rnds SU WO 64 0))) 1) + (rnds SU WO 64 1))) 2) + (rnds SU WO 64 2))) 3 (((upd (upd (upd SU 0 ((SU 0) + (rnds SU WO 64 0))) 1 (((upd SU 0 ((SU 0) + (rnds SU WO 64 0))) 1) + (rnds SU WO 64 1))) 2 (((upd (upd SU 0 ((SU 0) + (rnds SU WO 64 0))) 1 (((upd SU 0 ((SU 0) + (rnds SU WO 64 0))) 1) + (rnds SU WO 64 1))) 2) + (rnds SU WO 64 2))) 3) + (rnds SU WO 64 3))) 4 (((upd (upd (upd (upd SU 0 ((SU 0) + (rnds SU WO 64 0))) 1 (((upd SU 0 ((SU 0) + (rnds SU WO 64 0))) 1) + (rnds SU WO 64 1))) 2 (((upd (upd SU 0 ((SU 0) + (rnds SU WO 64 0))) 1 (((upd SU 0 ((SU 0) + (rnds SU WO 64 0))) 1) + (rnds SU WO 64 1))) 2) + (rnds SU WO 64 2))) 3 (((upd (upd (upd SU 0 ((SU 0) + (rnds SU WO 64 0))) 1 (((upd SU 0 ((SU 0) + (rnds SU WO 64 0))) 1) + (rnds SU WO 64 1))) 2 (((upd (upd SU 0 ((SU 0) + (rnds SU WO 64 0))) 1 (((upd SU 0 ((SU 0) + (rnds SU WO 64 0))) 1) + (rnds SU WO 64 1))) 2) + (rnds SU WO 64 2))) 3) + (rnds SU WO 64 3))) 4) + (rnds SU WO 64 4))) 5) + (rnds SU WO 64 5))) 6 (((upd (upd (upd (upd (upd (upd SU 0 ((SU 0) + (rnds SU WO 64 0))) 1 (((upd SU 0 ((SU 0) + (rnds SU WO 64 0))) 1) + (rnds SU WO 64 1))) 2 (((upd (upd SU 0 ((SU 0) + (rnds SU WO 64 0))) 1 (((upd SU 0 ((SU 0) + (rnds SU WO 64 0))) 1) + (rnds SU WO 64 1))) 2) + (rnds SU WO 64 2))) 3 (((upd (upd (upd SU 0 ((SU 0) + (rnds SU WO 64 0))) 1 (((upd SU 0 ((SU 0) + (rnds SU WO 64 0))) 1) + (rnds SU WO 64 1))) 2 (((upd (upd SU 0 ((SU 0) + (rnds SU WO 64 0))) 1 (((upd SU 0 ((SU 0) + (rnds SU WO 64 0))) 1) + (rnds SU WO 64 1))) 2) + (rnds SU WO 64 2))) 3) + (rnds SU WO 64 3))) 4 (((upd (upd (upd (upd SU 0 ((SU 0) + (rnds SU WO 64 0))) 1 (((upd SU 0 ((SU 0) + (rnds SU WO 64 0))) 1) + (rnds SU WO 64 1))) 2 (((upd (upd SU 0 ((SU 0) + (rnds SU WO 64 0))) 1 (((upd SU 0 ((SU 0) + (rnds SU WO 64 0))) 1) + (rnds SU WO 64 1))) 2) + (rnds SU WO 64 2))) 3 (((upd (upd (upd SU 0 ((SU 0) + (rnds SU WO 64 0))) 1 (((upd SU 0 ((SU 0) + (rnds SU WO 64 0))) 1) + (rnds SU WO 64 1))) 2 (((upd (upd SU 0 ((SU 0) + (rnds SU WO 64 0))) 1 (((upd SU 0 ((SU 0) + (rnds SU WO 64 0))) 1) + (rnds SU WO 64 1))) 2) + (rnds SU WO 64 2))) 3) + (rnds SU WO 64 3))) 4) + (rnds SU WO 64 4))) 5 (((upd (upd (upd (upd (upd SU 0 ((SU 0) + (rnds SU WO 64 0))) 1 (((upd SU 0 ((SU 0) + (rnds SU WO 64 0))) 1) + (rnds SU WO 64 1))) 2 (((upd (upd SU 0 ((SU 0) + (rnds SU WO 64 0))) 1 (((upd SU 0 ((SU 0) + (rnds SU WO 64 0))) 1) + (rnds SU WO 64 1))) 2) + (rnds SU WO 64 2))) 3 (((upd (upd (upd SU 0 ((SU 0) + (rnds SU WO 64 0))) 1 (((upd SU 0 ((SU 0) + (rnds SU WO 64 0))) 1) + (rnds SU WO 64 1))) 2 (((upd (upd SU 0 ((SU 0) + (rnds SU WO 64 0))) 1 (((upd SU 0 ((SU 0) + (rnds SU WO 64 0))) 1) + (rnds SU WO 64 1))) 2) + (rnds SU WO 64 2))) 3) + (rnds SU WO 64 3))) 4 (((upd (upd (upd (upd SU 0 ((SU 0) + (rnds SU WO 64 0))) 1 (((upd SU 0 ((SU 0) + (rnds SU WO 64 0))) 1) + (rnds SU WO 64 1))) 2 (((upd (upd SU 0 ((SU 0) + (rnds SU WO 64 0))) 1 (((upd SU 0 ((SU 0) + (rnds SU WO 64 0))) 1) + (rnds SU WO 64 1))) 2) + (rnds SU WO 64 2))) 3 (((upd (upd (upd SU 0 ((SU 0) + (rnds SU WO 64 0))) 1 (((upd SU 0 ((SU 0) + (rnds SU WO 64 0))) 1) + (rnds SU WO 64 1))) 2 (((upd (upd SU 0 ((SU 0) + (rnds SU WO 64 0))) 1 (((upd SU 0 ((SU 0) + (rnds SU WO 64 0))) 1) + (rnds SU WO 64 1))) 2) + (rnds SU WO 64 2))) 3) + (rnds SU WO 64 3))) 4) + (rnds SU WO 64 4))) 5) + (rnds SU WO 64 5))) 6) + (rnds SU WO 64 6))) WO ln kp rd wr ft) := hD
        refine lv_aload_n hx hb dX0_mixBlock_305 rfl (lv_at hl 0 rfl) ?_
        refine va_get (D := G) (ci := 0) (v := .ref (g 11)) (C := RX0) (T := TX0) (N := 3) hx hb hts hinX0 hown hK hP 2 rfl rfl 0 (by decide) (hts (.fieldLink RX0 9 "SealedPages$Hasher" "sums" "[I") (by decide +kernel)) (fun _ h => h) rfl dX0_mixBlock_306 ?_
        refine lv_bipush (v := 7) hx hb dX0_mixBlock_309 (by decide) ?_
        refine lv_dup2_11 hx hb dX0_mixBlock_311 rfl rfl ?_
        refine x_ald (i := 7) hx hb hK hP 11 0 rfl rfl (by omega) (by decide) dX0_mixBlock_312 ?_
        refine lv_iload hx hb dX0_mixBlock_313 (lv_at hl 8 rfl) ?_
        refine lv_iadd hx hb dX0_mixBlock_315 ?_
        refine x_ast (i := 7) hx hb hK hP hD hS 11 0 rfl rfl (by omega) (by decide) dX0_mixBlock_316 (fun H locs hP hD hS => ?_)
        have hP : va_P G vwCl (xW g cA N D R F KD KR FL (upd (upd (upd (upd (upd (upd (upd (upd SU 0 ((SU 0) + (rnds SU WO 64 0))) 1 (((upd SU 0 ((SU 0) + (rnds SU WO 64 0))) 1) + (rnds SU WO 64 1))) 2 (((upd (upd SU 0 ((SU 0) + (rnds SU WO 64 0))) 1 (((upd SU 0 ((SU 0) + (rnds SU WO 64 0))) 1) + (rnds SU WO 64 1))) 2) + (rnds SU WO 64 2))) 3 (((upd (upd (upd SU 0 ((SU 0) + (rnds SU WO 64 0))) 1 (((upd SU 0 ((SU 0) + (rnds SU WO 64 0))) 1) + (rnds SU WO 64 1))) 2 (((upd (upd SU 0 ((SU 0) + (rnds SU WO 64 0))) 1 (((upd SU 0 ((SU 0) + (rnds SU WO 64 0))) 1) + (rnds SU WO 64 1))) 2) + (rnds SU WO 64 2))) 3) + (rnds SU WO 64 3))) 4 (((upd (upd (upd (upd SU 0 ((SU 0) + (rnds SU WO 64 0))) 1 (((upd SU 0 ((SU 0) + (rnds SU WO 64 0))) 1) + (rnds SU WO 64 1))) 2 (((upd (upd SU 0 ((SU 0) + (rnds SU WO 64 0))) 1 (((upd SU 0 ((SU 0) + (rnds SU WO 64 0))) 1) + (rnds SU WO 64 1))) 2) + (rnds SU WO 64 2))) 3 (((upd (upd (upd SU 0 ((SU 0) + (rnds SU WO 64 0))) 1 (((upd SU 0 ((SU 0) + (rnds SU WO 64 0))) 1) + (rnds SU WO 64 1))) 2 (((upd (upd SU 0 ((SU 0) + (rnds SU WO 64 0))) 1 (((upd SU 0 ((SU 0) + (rnds SU WO 64 0))) 1) + (rnds SU WO 64 1))) 2) + (rnds SU WO 64 2))) 3) + (rnds SU WO 64 3))) 4) + (rnds SU WO 64 4))) 5 (((upd (upd (upd (upd (upd SU 0 ((SU 0) + (rnds SU WO 64 0))) 1 (((upd SU 0 ((SU 0) + (rnds SU WO 64 0))) 1) + (rnds SU WO 64 1))) 2 (((upd (upd SU 0 ((SU 0) + (rnds SU WO 64 0))) 1 (((upd SU 0 ((SU 0) + (rnds SU WO 64 0))) 1) + (rnds SU WO 64 1))) 2) + (rnds SU WO 64 2))) 3 (((upd (upd (upd SU 0 ((SU 0) + (rnds SU WO 64 0))) 1 (((upd SU 0 ((SU 0) + (rnds SU WO 64 0))) 1) + (rnds SU WO 64 1))) 2 (((upd (upd SU 0 ((SU 0) + (rnds SU WO 64 0))) 1 (((upd SU 0 ((SU 0) + (rnds SU WO 64 0))) 1) + (rnds SU WO 64 1))) 2) + (rnds SU WO 64 2))) 3) + (rnds SU WO 64 3))) 4 (((upd (upd (upd (upd SU 0 ((SU 0) + (rnds SU WO 64 0))) 1 (((upd SU 0 ((SU 0) + (rnds SU WO 64 0))) 1) + (rnds SU WO 64 1))) 2 (((upd (upd SU 0 ((SU 0) + (rnds SU WO 64 0))) 1 (((upd SU 0 ((SU 0) + (rnds SU WO 64 0))) 1) + (rnds SU WO 64 1))) 2) + (rnds SU WO 64 2))) 3 (((upd (upd (upd SU 0 ((SU 0) + (rnds SU WO 64 0))) 1 (((upd SU 0 ((SU 0) + (rnds SU WO 64 0))) 1) + (rnds SU WO 64 1))) 2 (((upd (upd SU 0 ((SU 0) + (rnds SU WO 64 0))) 1 (((upd SU 0 ((SU 0) + (rnds SU WO 64 0))) 1) + (rnds SU WO 64 1))) 2) + (rnds SU WO 64 2))) 3) + (rnds SU WO 64 3))) 4) + (rnds SU WO 64 4))) 5) + (rnds SU WO 64 5))) 6 (((upd (upd (upd (upd (upd (upd SU 0 ((SU 0) + (rnds SU WO 64 0))) 1 (((upd SU 0 ((SU 0) + (rnds SU WO 64 0))) 1) + (rnds SU WO 64 1))) 2 (((upd (upd SU 0 ((SU 0) + (rnds SU WO 64 0))) 1 (((upd SU 0 ((SU 0) + (rnds SU WO 64 0))) 1) + (rnds SU WO 64 1))) 2) + (rnds SU WO 64 2))) 3 (((upd (upd (upd SU 0 ((SU 0) + (rnds SU WO 64 0))) 1 (((upd SU 0 ((SU 0) + (rnds SU WO 64 0))) 1) + (rnds SU WO 64 1))) 2 (((upd (upd SU 0 ((SU 0) + (rnds SU WO 64 0))) 1 (((upd SU 0 ((SU 0) + (rnds SU WO 64 0))) 1) + (rnds SU WO 64 1))) 2) + (rnds SU WO 64 2))) 3) + (rnds SU WO 64 3))) 4 (((upd (upd (upd (upd SU 0 ((SU 0) + (rnds SU WO 64 0))) 1 (((upd SU 0 ((SU 0) + (rnds SU WO 64 0))) 1) + (rnds SU WO 64 1))) 2 (((upd (upd SU 0 ((SU 0) + (rnds SU WO 64 0))) 1 (((upd SU 0 ((SU 0) + (rnds SU WO 64 0))) 1) + (rnds SU WO 64 1))) 2) + (rnds SU WO 64 2))) 3 (((upd (upd (upd SU 0 ((SU 0) + (rnds SU WO 64 0))) 1 (((upd SU 0 ((SU 0) + (rnds SU WO 64 0))) 1) + (rnds SU WO 64 1))) 2 (((upd (upd SU 0 ((SU 0) + (rnds SU WO 64 0))) 1 (((upd SU 0 ((SU 0) + (rnds SU WO 64 0))) 1) + (rnds SU WO 64 1))) 2) + (rnds SU WO 64 2))) 3) + (rnds SU WO 64 3))) 4) + (rnds SU WO 64 4))) 5 (((upd (upd (upd (upd (upd SU 0 ((SU 0) + (rnds SU WO 64 0))) 1 (((upd SU 0 ((SU 0) + (rnds SU WO 64 0))) 1) + (rnds SU WO 64 1))) 2 (((upd (upd SU 0 ((SU 0) + (rnds SU WO 64 0))) 1 (((upd SU 0 ((SU 0) + (rnds SU WO 64 0))) 1) + (rnds SU WO 64 1))) 2) + (rnds SU WO 64 2))) 3 (((upd (upd (upd SU 0 ((SU 0) + (rnds SU WO 64 0))) 1 (((upd SU 0 ((SU 0) + (rnds SU WO 64 0))) 1) + (rnds SU WO 64 1))) 2 (((upd (upd SU 0 ((SU 0) + (rnds SU WO 64 0))) 1 (((upd SU 0 ((SU 0) + (rnds SU WO 64 0))) 1) + (rnds SU WO 64 1))) 2) + (rnds SU WO 64 2))) 3) + (rnds SU WO 64 3))) 4 (((upd (upd (upd (upd SU 0 ((SU 0) + (rnds SU WO 64 0))) 1 (((upd SU 0 ((SU 0) + (rnds SU WO 64 0))) 1) + (rnds SU WO 64 1))) 2 (((upd (upd SU 0 ((SU 0) + (rnds SU WO 64 0))) 1 (((upd SU 0 ((SU 0) + (rnds SU WO 64 0))) 1) + (rnds SU WO 64 1))) 2) + (rnds SU WO 64 2))) 3 (((upd (upd (upd SU 0 ((SU 0) + (rnds SU WO 64 0))) 1 (((upd SU 0 ((SU 0) + (rnds SU WO 64 0))) 1) + (rnds SU WO 64 1))) 2 (((upd (upd SU 0 ((SU 0) + (rnds SU WO 64 0))) 1 (((upd SU 0 ((SU 0) + (rnds SU WO 64 0))) 1) + (rnds SU WO 64 1))) 2) + (rnds SU WO 64 2))) 3) + (rnds SU WO 64 3))) 4) + (rnds SU WO 64 4))) 5) + (rnds SU WO 64 5))) 6) + (rnds SU WO 64 6))) 7 (((upd (upd (upd (upd (upd (upd (upd SU 0 ((SU 0) + (rnds SU WO 64 0))) 1 (((upd SU 0 ((SU 0) + (rnds SU WO 64 0))) 1) + (rnds SU WO 64 1))) 2 (((upd (upd SU 0 ((SU 0) + (rnds SU WO 64 0))) 1 (((upd SU 0 ((SU 0) + (rnds SU WO 64 0))) 1) + (rnds SU WO 64 1))) 2) + (rnds SU WO 64 2))) 3 (((upd (upd (upd SU 0 ((SU 0) + (rnds SU WO 64 0))) 1 (((upd SU 0 ((SU 0) + (rnds SU WO 64 0))) 1) + (rnds SU WO 64 1))) 2 (((upd (upd SU 0 ((SU 0) + (rnds SU WO 64 0))) 1 (((upd SU 0 ((SU 0) + (rnds SU WO 64 0))) 1) + (rnds SU WO 64 1))) 2) + (rnds SU WO 64 2))) 3) + (rnds SU WO 64 3))) 4 (((upd (upd (upd (upd SU 0 ((SU 0) + (rnds SU WO 64 0))) 1 (((upd SU 0 ((SU 0) + (rnds SU WO 64 0))) 1) + (rnds SU WO 64 1))) 2 (((upd (upd SU 0 ((SU 0) + (rnds SU WO 64 0))) 1 (((upd SU 0 ((SU 0) + (rnds SU WO 64 0))) 1) + (rnds SU WO 64 1))) 2) + (rnds SU WO 64 2))) 3 (((upd (upd (upd SU 0 ((SU 0) + (rnds SU WO 64 0))) 1 (((upd SU 0 ((SU 0) + (rnds SU WO 64 0))) 1) + (rnds SU WO 64 1))) 2 (((upd (upd SU 0 ((SU 0) + (rnds SU WO 64 0))) 1 (((upd SU 0 ((SU 0) + (rnds SU WO 64 0))) 1) + (rnds SU WO 64 1))) 2) + (rnds SU WO 64 2))) 3) + (rnds SU WO 64 3))) 4) + (rnds SU WO 64 4))) 5 (((upd (upd (upd (upd (upd SU 0 ((SU 0) + (rnds SU WO 64 0))) 1 (((upd SU 0 ((SU 0) + (rnds SU WO 64 0))) 1) + (rnds SU WO 64 1))) 2 (((upd (upd SU 0 ((SU 0) + (rnds SU WO 64 0))) 1 (((upd SU 0 ((SU 0) + (rnds SU WO 64 0))) 1) + (rnds SU WO 64 1))) 2) + (rnds SU WO 64 2))) 3 (((upd (upd (upd SU 0 ((SU 0) + (rnds SU WO 64 0))) 1 (((upd SU 0 ((SU 0) + (rnds SU WO 64 0))) 1) + (rnds SU WO 64 1))) 2 (((upd (upd SU 0 ((SU 0) + (rnds SU WO 64 0))) 1 (((upd SU 0 ((SU 0) + (rnds SU WO 64 0))) 1) + (rnds SU WO 64 1))) 2) + (rnds SU WO 64 2))) 3) + (rnds SU WO 64 3))) 4 (((upd (upd (upd (upd SU 0 ((SU 0) + (rnds SU WO 64 0))) 1 (((upd SU 0 ((SU 0) + (rnds SU WO 64 0))) 1) + (rnds SU WO 64 1))) 2 (((upd (upd SU 0 ((SU 0) + (rnds SU WO 64 0))) 1 (((upd SU 0 ((SU 0) + (rnds SU WO 64 0))) 1) + (rnds SU WO 64 1))) 2) + (rnds SU WO 64 2))) 3 (((upd (upd (upd SU 0 ((SU 0) + (rnds SU WO 64 0))) 1 (((upd SU 0 ((SU 0) + (rnds SU WO 64 0))) 1) + (rnds SU WO 64 1))) 2 (((upd (upd SU 0 ((SU 0) + (rnds SU WO 64 0))) 1 (((upd SU 0 ((SU 0) + (rnds SU WO 64 0))) 1) + (rnds SU WO 64 1))) 2) + (rnds SU WO 64 2))) 3) + (rnds SU WO 64 3))) 4) + (rnds SU WO 64 4))) 5) + (rnds SU WO 64 5))) 6 (((upd (upd (upd (upd (upd (upd SU 0 ((SU 0) + (rnds SU WO 64 0))) 1 (((upd SU 0 ((SU 0) + (rnds SU WO 64 0))) 1) + (rnds SU WO 64 1))) 2 (((upd (upd SU 0 ((SU 0) + (rnds SU WO 64 0))) 1 (((upd SU 0 ((SU 0) + (rnds SU WO 64 0))) 1) + (rnds SU WO 64 1))) 2) + (rnds SU WO 64 2))) 3 (((upd (upd (upd SU 0 ((SU 0) + (rnds SU WO 64 0))) 1 (((upd SU 0 ((SU 0) + (rnds SU WO 64 0))) 1) + (rnds SU WO 64 1))) 2 (((upd (upd SU 0 ((SU 0) + (rnds SU WO 64 0))) 1 (((upd SU 0 ((SU 0) + (rnds SU WO 64 0))) 1) + (rnds SU WO 64 1))) 2) + (rnds SU WO 64 2))) 3) + (rnds SU WO 64 3))) 4 (((upd (upd (upd (upd SU 0 ((SU 0) + (rnds SU WO 64 0))) 1 (((upd SU 0 ((SU 0) + (rnds SU WO 64 0))) 1) + (rnds SU WO 64 1))) 2 (((upd (upd SU 0 ((SU 0) + (rnds SU WO 64 0))) 1 (((upd SU 0 ((SU 0) + (rnds SU WO 64 0))) 1) + (rnds SU WO 64 1))) 2) + (rnds SU WO 64 2))) 3 (((upd (upd (upd SU 0 ((SU 0) + (rnds SU WO 64 0))) 1 (((upd SU 0 ((SU 0) + (rnds SU WO 64 0))) 1) + (rnds SU WO 64 1))) 2 (((upd (upd SU 0 ((SU 0) + (rnds SU WO 64 0))) 1 (((upd SU 0 ((SU 0) + (rnds SU WO 64 0))) 1) + (rnds SU WO 64 1))) 2) + (rnds SU WO 64 2))) 3) + (rnds SU WO 64 3))) 4) + (rnds SU WO 64 4))) 5 (((upd (upd (upd (upd (upd SU 0 ((SU 0) + (rnds SU WO 64 0))) 1 (((upd SU 0 ((SU 0) + (rnds SU WO 64 0))) 1) + (rnds SU WO 64 1))) 2 (((upd (upd SU 0 ((SU 0) + (rnds SU WO 64 0))) 1 (((upd SU 0 ((SU 0) + (rnds SU WO 64 0))) 1) + (rnds SU WO 64 1))) 2) + (rnds SU WO 64 2))) 3 (((upd (upd (upd SU 0 ((SU 0) + (rnds SU WO 64 0))) 1 (((upd SU 0 ((SU 0) + (rnds SU WO 64 0))) 1) + (rnds SU WO 64 1))) 2 (((upd (upd SU 0 ((SU 0) + (rnds SU WO 64 0))) 1 (((upd SU 0 ((SU 0) + (rnds SU WO 64 0))) 1) + (rnds SU WO 64 1))) 2) + (rnds SU WO 64 2))) 3) + (rnds SU WO 64 3))) 4 (((upd (upd (upd (upd SU 0 ((SU 0) + (rnds SU WO 64 0))) 1 (((upd SU 0 ((SU 0) + (rnds SU WO 64 0))) 1) + (rnds SU WO 64 1))) 2 (((upd (upd SU 0 ((SU 0) + (rnds SU WO 64 0))) 1 (((upd SU 0 ((SU 0) + (rnds SU WO 64 0))) 1) + (rnds SU WO 64 1))) 2) + (rnds SU WO 64 2))) 3 (((upd (upd (upd SU 0 ((SU 0) + (rnds SU WO 64 0))) 1 (((upd SU 0 ((SU 0) + (rnds SU WO 64 0))) 1) + (rnds SU WO 64 1))) 2 (((upd (upd SU 0 ((SU 0) + (rnds SU WO 64 0))) 1 (((upd SU 0 ((SU 0) + (rnds SU WO 64 0))) 1) + (rnds SU WO 64 1))) 2) + (rnds SU WO 64 2))) 3) + (rnds SU WO 64 3))) 4) + (rnds SU WO 64 4))) 5) + (rnds SU WO 64 5))) 6) + (rnds SU WO 64 6))) 7) + (rnds SU WO 64 7))) WO ln kp rd wr ft) _ := hP
        have hD : va_D _ (xW g cA N D R F KD KR FL (upd (upd (upd (upd (upd (upd (upd (upd SU 0 ((SU 0) + (rnds SU WO 64 0))) 1 (((upd SU 0 ((SU 0) + (rnds SU WO 64 0))) 1) + (rnds SU WO 64 1))) 2 (((upd (upd SU 0 ((SU 0) + (rnds SU WO 64 0))) 1 (((upd SU 0 ((SU 0) + (rnds SU WO 64 0))) 1) + (rnds SU WO 64 1))) 2) + (rnds SU WO 64 2))) 3 (((upd (upd (upd SU 0 ((SU 0) + (rnds SU WO 64 0))) 1 (((upd SU 0 ((SU 0) + (rnds SU WO 64 0))) 1) + (rnds SU WO 64 1))) 2 (((upd (upd SU 0 ((SU 0) + (rnds SU WO 64 0))) 1 (((upd SU 0 ((SU 0) + (rnds SU WO 64 0))) 1) + (rnds SU WO 64 1))) 2) + (rnds SU WO 64 2))) 3) + (rnds SU WO 64 3))) 4 (((upd (upd (upd (upd SU 0 ((SU 0) + (rnds SU WO 64 0))) 1 (((upd SU 0 ((SU 0) + (rnds SU WO 64 0))) 1) + (rnds SU WO 64 1))) 2 (((upd (upd SU 0 ((SU 0) + (rnds SU WO 64 0))) 1 (((upd SU 0 ((SU 0) + (rnds SU WO 64 0))) 1) + (rnds SU WO 64 1))) 2) + (rnds SU WO 64 2))) 3 (((upd (upd (upd SU 0 ((SU 0) + (rnds SU WO 64 0))) 1 (((upd SU 0 ((SU 0) + (rnds SU WO 64 0))) 1) + (rnds SU WO 64 1))) 2 (((upd (upd SU 0 ((SU 0) + (rnds SU WO 64 0))) 1 (((upd SU 0 ((SU 0) + (rnds SU WO 64 0))) 1) + (rnds SU WO 64 1))) 2) + (rnds SU WO 64 2))) 3) + (rnds SU WO 64 3))) 4) + (rnds SU WO 64 4))) 5 (((upd (upd (upd (upd (upd SU 0 ((SU 0) + (rnds SU WO 64 0))) 1 (((upd SU 0 ((SU 0) + (rnds SU WO 64 0))) 1) + (rnds SU WO 64 1))) 2 (((upd (upd SU 0 ((SU 0) + (rnds SU WO 64 0))) 1 (((upd SU 0 ((SU 0) + (rnds SU WO 64 0))) 1) + (rnds SU WO 64 1))) 2) + (rnds SU WO 64 2))) 3 (((upd (upd (upd SU 0 ((SU 0) + (rnds SU WO 64 0))) 1 (((upd SU 0 ((SU 0) + (rnds SU WO 64 0))) 1) + (rnds SU WO 64 1))) 2 (((upd (upd SU 0 ((SU 0) + (rnds SU WO 64 0))) 1 (((upd SU 0 ((SU 0) + (rnds SU WO 64 0))) 1) + (rnds SU WO 64 1))) 2) + (rnds SU WO 64 2))) 3) + (rnds SU WO 64 3))) 4 (((upd (upd (upd (upd SU 0 ((SU 0) + (rnds SU WO 64 0))) 1 (((upd SU 0 ((SU 0) + (rnds SU WO 64 0))) 1) + (rnds SU WO 64 1))) 2 (((upd (upd SU 0 ((SU 0) + (rnds SU WO 64 0))) 1 (((upd SU 0 ((SU 0) + (rnds SU WO 64 0))) 1) + (rnds SU WO 64 1))) 2) + (rnds SU WO 64 2))) 3 (((upd (upd (upd SU 0 ((SU 0) + (rnds SU WO 64 0))) 1 (((upd SU 0 ((SU 0) + (rnds SU WO 64 0))) 1) + (rnds SU WO 64 1))) 2 (((upd (upd SU 0 ((SU 0) + (rnds SU WO 64 0))) 1 (((upd SU 0 ((SU 0) + (rnds SU WO 64 0))) 1) + (rnds SU WO 64 1))) 2) + (rnds SU WO 64 2))) 3) + (rnds SU WO 64 3))) 4) + (rnds SU WO 64 4))) 5) + (rnds SU WO 64 5))) 6 (((upd (upd (upd (upd (upd (upd SU 0 ((SU 0) + (rnds SU WO 64 0))) 1 (((upd SU 0 ((SU 0) + (rnds SU WO 64 0))) 1) + (rnds SU WO 64 1))) 2 (((upd (upd SU 0 ((SU 0) + (rnds SU WO 64 0))) 1 (((upd SU 0 ((SU 0) + (rnds SU WO 64 0))) 1) + (rnds SU WO 64 1))) 2) + (rnds SU WO 64 2))) 3 (((upd (upd (upd SU 0 ((SU 0) + (rnds SU WO 64 0))) 1 (((upd SU 0 ((SU 0) + (rnds SU WO 64 0))) 1) + (rnds SU WO 64 1))) 2 (((upd (upd SU 0 ((SU 0) + (rnds SU WO 64 0))) 1 (((upd SU 0 ((SU 0) + (rnds SU WO 64 0))) 1) + (rnds SU WO 64 1))) 2) + (rnds SU WO 64 2))) 3) + (rnds SU WO 64 3))) 4 (((upd (upd (upd (upd SU 0 ((SU 0) + (rnds SU WO 64 0))) 1 (((upd SU 0 ((SU 0) + (rnds SU WO 64 0))) 1) + (rnds SU WO 64 1))) 2 (((upd (upd SU 0 ((SU 0) + (rnds SU WO 64 0))) 1 (((upd SU 0 ((SU 0) + (rnds SU WO 64 0))) 1) + (rnds SU WO 64 1))) 2) + (rnds SU WO 64 2))) 3 (((upd (upd (upd SU 0 ((SU 0) + (rnds SU WO 64 0))) 1 (((upd SU 0 ((SU 0) + (rnds SU WO 64 0))) 1) + (rnds SU WO 64 1))) 2 (((upd (upd SU 0 ((SU 0) + (rnds SU WO 64 0))) 1 (((upd SU 0 ((SU 0) + (rnds SU WO 64 0))) 1) + (rnds SU WO 64 1))) 2) + (rnds SU WO 64 2))) 3) + (rnds SU WO 64 3))) 4) + (rnds SU WO 64 4))) 5 (((upd (upd (upd (upd (upd SU 0 ((SU 0) + (rnds SU WO 64 0))) 1 (((upd SU 0 ((SU 0) + (rnds SU WO 64 0))) 1) + (rnds SU WO 64 1))) 2 (((upd (upd SU 0 ((SU 0) + (rnds SU WO 64 0))) 1 (((upd SU 0 ((SU 0) + (rnds SU WO 64 0))) 1) + (rnds SU WO 64 1))) 2) + (rnds SU WO 64 2))) 3 (((upd (upd (upd SU 0 ((SU 0) + (rnds SU WO 64 0))) 1 (((upd SU 0 ((SU 0) + (rnds SU WO 64 0))) 1) + (rnds SU WO 64 1))) 2 (((upd (upd SU 0 ((SU 0) + (rnds SU WO 64 0))) 1 (((upd SU 0 ((SU 0) + (rnds SU WO 64 0))) 1) + (rnds SU WO 64 1))) 2) + (rnds SU WO 64 2))) 3) + (rnds SU WO 64 3))) 4 (((upd (upd (upd (upd SU 0 ((SU 0) + (rnds SU WO 64 0))) 1 (((upd SU 0 ((SU 0) + (rnds SU WO 64 0))) 1) + (rnds SU WO 64 1))) 2 (((upd (upd SU 0 ((SU 0) + (rnds SU WO 64 0))) 1 (((upd SU 0 ((SU 0) + (rnds SU WO 64 0))) 1) + (rnds SU WO 64 1))) 2) + (rnds SU WO 64 2))) 3 (((upd (upd (upd SU 0 ((SU 0) + (rnds SU WO 64 0))) 1 (((upd SU 0 ((SU 0) + (rnds SU WO 64 0))) 1) + (rnds SU WO 64 1))) 2 (((upd (upd SU 0 ((SU 0) + (rnds SU WO 64 0))) 1 (((upd SU 0 ((SU 0) + (rnds SU WO 64 0))) 1) + (rnds SU WO 64 1))) 2) + (rnds SU WO 64 2))) 3) + (rnds SU WO 64 3))) 4) + (rnds SU WO 64 4))) 5) + (rnds SU WO 64 5))) 6) + (rnds SU WO 64 6))) 7 (((upd (upd (upd (upd (upd (upd (upd SU 0 ((SU 0) + (rnds SU WO 64 0))) 1 (((upd SU 0 ((SU 0) + (rnds SU WO 64 0))) 1) + (rnds SU WO 64 1))) 2 (((upd (upd SU 0 ((SU 0) + (rnds SU WO 64 0))) 1 (((upd SU 0 ((SU 0) + (rnds SU WO 64 0))) 1) + (rnds SU WO 64 1))) 2) + (rnds SU WO 64 2))) 3 (((upd (upd (upd SU 0 ((SU 0) + (rnds SU WO 64 0))) 1 (((upd SU 0 ((SU 0) + (rnds SU WO 64 0))) 1) + (rnds SU WO 64 1))) 2 (((upd (upd SU 0 ((SU 0) + (rnds SU WO 64 0))) 1 (((upd SU 0 ((SU 0) + (rnds SU WO 64 0))) 1) + (rnds SU WO 64 1))) 2) + (rnds SU WO 64 2))) 3) + (rnds SU WO 64 3))) 4 (((upd (upd (upd (upd SU 0 ((SU 0) + (rnds SU WO 64 0))) 1 (((upd SU 0 ((SU 0) + (rnds SU WO 64 0))) 1) + (rnds SU WO 64 1))) 2 (((upd (upd SU 0 ((SU 0) + (rnds SU WO 64 0))) 1 (((upd SU 0 ((SU 0) + (rnds SU WO 64 0))) 1) + (rnds SU WO 64 1))) 2) + (rnds SU WO 64 2))) 3 (((upd (upd (upd SU 0 ((SU 0) + (rnds SU WO 64 0))) 1 (((upd SU 0 ((SU 0) + (rnds SU WO 64 0))) 1) + (rnds SU WO 64 1))) 2 (((upd (upd SU 0 ((SU 0) + (rnds SU WO 64 0))) 1 (((upd SU 0 ((SU 0) + (rnds SU WO 64 0))) 1) + (rnds SU WO 64 1))) 2) + (rnds SU WO 64 2))) 3) + (rnds SU WO 64 3))) 4) + (rnds SU WO 64 4))) 5 (((upd (upd (upd (upd (upd SU 0 ((SU 0) + (rnds SU WO 64 0))) 1 (((upd SU 0 ((SU 0) + (rnds SU WO 64 0))) 1) + (rnds SU WO 64 1))) 2 (((upd (upd SU 0 ((SU 0) + (rnds SU WO 64 0))) 1 (((upd SU 0 ((SU 0) + (rnds SU WO 64 0))) 1) + (rnds SU WO 64 1))) 2) + (rnds SU WO 64 2))) 3 (((upd (upd (upd SU 0 ((SU 0) + (rnds SU WO 64 0))) 1 (((upd SU 0 ((SU 0) + (rnds SU WO 64 0))) 1) + (rnds SU WO 64 1))) 2 (((upd (upd SU 0 ((SU 0) + (rnds SU WO 64 0))) 1 (((upd SU 0 ((SU 0) + (rnds SU WO 64 0))) 1) + (rnds SU WO 64 1))) 2) + (rnds SU WO 64 2))) 3) + (rnds SU WO 64 3))) 4 (((upd (upd (upd (upd SU 0 ((SU 0) + (rnds SU WO 64 0))) 1 (((upd SU 0 ((SU 0) + (rnds SU WO 64 0))) 1) + (rnds SU WO 64 1))) 2 (((upd (upd SU 0 ((SU 0) + (rnds SU WO 64 0))) 1 (((upd SU 0 ((SU 0) + (rnds SU WO 64 0))) 1) + (rnds SU WO 64 1))) 2) + (rnds SU WO 64 2))) 3 (((upd (upd (upd SU 0 ((SU 0) + (rnds SU WO 64 0))) 1 (((upd SU 0 ((SU 0) + (rnds SU WO 64 0))) 1) + (rnds SU WO 64 1))) 2 (((upd (upd SU 0 ((SU 0) + (rnds SU WO 64 0))) 1 (((upd SU 0 ((SU 0) + (rnds SU WO 64 0))) 1) + (rnds SU WO 64 1))) 2) + (rnds SU WO 64 2))) 3) + (rnds SU WO 64 3))) 4) + (rnds SU WO 64 4))) 5) + (rnds SU WO 64 5))) 6 (((upd (upd (upd (upd (upd (upd SU 0 ((SU 0) + (rnds SU WO 64 0))) 1 (((upd SU 0 ((SU 0) + (rnds SU WO 64 0))) 1) + (rnds SU WO 64 1))) 2 (((upd (upd SU 0 ((SU 0) + (rnds SU WO 64 0))) 1 (((upd SU 0 ((SU 0) + (rnds SU WO 64 0))) 1) + (rnds SU WO 64 1))) 2) + (rnds SU WO 64 2))) 3 (((upd (upd (upd SU 0 ((SU 0) + (rnds SU WO 64 0))) 1 (((upd SU 0 ((SU 0) + (rnds SU WO 64 0))) 1) + (rnds SU WO 64 1))) 2 (((upd (upd SU 0 ((SU 0) + (rnds SU WO 64 0))) 1 (((upd SU 0 ((SU 0) + (rnds SU WO 64 0))) 1) + (rnds SU WO 64 1))) 2) + (rnds SU WO 64 2))) 3) + (rnds SU WO 64 3))) 4 (((upd (upd (upd (upd SU 0 ((SU 0) + (rnds SU WO 64 0))) 1 (((upd SU 0 ((SU 0) + (rnds SU WO 64 0))) 1) + (rnds SU WO 64 1))) 2 (((upd (upd SU 0 ((SU 0) + (rnds SU WO 64 0))) 1 (((upd SU 0 ((SU 0) + (rnds SU WO 64 0))) 1) + (rnds SU WO 64 1))) 2) + (rnds SU WO 64 2))) 3 (((upd (upd (upd SU 0 ((SU 0) + (rnds SU WO 64 0))) 1 (((upd SU 0 ((SU 0) + (rnds SU WO 64 0))) 1) + (rnds SU WO 64 1))) 2 (((upd (upd SU 0 ((SU 0) + (rnds SU WO 64 0))) 1 (((upd SU 0 ((SU 0) + (rnds SU WO 64 0))) 1) + (rnds SU WO 64 1))) 2) + (rnds SU WO 64 2))) 3) + (rnds SU WO 64 3))) 4) + (rnds SU WO 64 4))) 5 (((upd (upd (upd (upd (upd SU 0 ((SU 0) + (rnds SU WO 64 0))) 1 (((upd SU 0 ((SU 0) + (rnds SU WO 64 0))) 1) + (rnds SU WO 64 1))) 2 (((upd (upd SU 0 ((SU 0) + (rnds SU WO 64 0))) 1 (((upd SU 0 ((SU 0) + (rnds SU WO 64 0))) 1) + (rnds SU WO 64 1))) 2) + (rnds SU WO 64 2))) 3 (((upd (upd (upd SU 0 ((SU 0) + (rnds SU WO 64 0))) 1 (((upd SU 0 ((SU 0) + (rnds SU WO 64 0))) 1) + (rnds SU WO 64 1))) 2 (((upd (upd SU 0 ((SU 0) + (rnds SU WO 64 0))) 1 (((upd SU 0 ((SU 0) + (rnds SU WO 64 0))) 1) + (rnds SU WO 64 1))) 2) + (rnds SU WO 64 2))) 3) + (rnds SU WO 64 3))) 4 (((upd (upd (upd (upd SU 0 ((SU 0) + (rnds SU WO 64 0))) 1 (((upd SU 0 ((SU 0) + (rnds SU WO 64 0))) 1) + (rnds SU WO 64 1))) 2 (((upd (upd SU 0 ((SU 0) + (rnds SU WO 64 0))) 1 (((upd SU 0 ((SU 0) + (rnds SU WO 64 0))) 1) + (rnds SU WO 64 1))) 2) + (rnds SU WO 64 2))) 3 (((upd (upd (upd SU 0 ((SU 0) + (rnds SU WO 64 0))) 1 (((upd SU 0 ((SU 0) + (rnds SU WO 64 0))) 1) + (rnds SU WO 64 1))) 2 (((upd (upd SU 0 ((SU 0) + (rnds SU WO 64 0))) 1 (((upd SU 0 ((SU 0) + (rnds SU WO 64 0))) 1) + (rnds SU WO 64 1))) 2) + (rnds SU WO 64 2))) 3) + (rnds SU WO 64 3))) 4) + (rnds SU WO 64 4))) 5) + (rnds SU WO 64 5))) 6) + (rnds SU WO 64 6))) 7) + (rnds SU WO 64 7))) WO ln kp rd wr ft) := hD
        exact hret (upd (upd (upd (upd (upd (upd (upd (upd SU 0 ((SU 0) + (rnds SU WO 64 0))) 1 (((upd SU 0 ((SU 0) + (rnds SU WO 64 0))) 1) + (rnds SU WO 64 1))) 2 (((upd (upd SU 0 ((SU 0) + (rnds SU WO 64 0))) 1 (((upd SU 0 ((SU 0) + (rnds SU WO 64 0))) 1) + (rnds SU WO 64 1))) 2) + (rnds SU WO 64 2))) 3 (((upd (upd (upd SU 0 ((SU 0) + (rnds SU WO 64 0))) 1 (((upd SU 0 ((SU 0) + (rnds SU WO 64 0))) 1) + (rnds SU WO 64 1))) 2 (((upd (upd SU 0 ((SU 0) + (rnds SU WO 64 0))) 1 (((upd SU 0 ((SU 0) + (rnds SU WO 64 0))) 1) + (rnds SU WO 64 1))) 2) + (rnds SU WO 64 2))) 3) + (rnds SU WO 64 3))) 4 (((upd (upd (upd (upd SU 0 ((SU 0) + (rnds SU WO 64 0))) 1 (((upd SU 0 ((SU 0) + (rnds SU WO 64 0))) 1) + (rnds SU WO 64 1))) 2 (((upd (upd SU 0 ((SU 0) + (rnds SU WO 64 0))) 1 (((upd SU 0 ((SU 0) + (rnds SU WO 64 0))) 1) + (rnds SU WO 64 1))) 2) + (rnds SU WO 64 2))) 3 (((upd (upd (upd SU 0 ((SU 0) + (rnds SU WO 64 0))) 1 (((upd SU 0 ((SU 0) + (rnds SU WO 64 0))) 1) + (rnds SU WO 64 1))) 2 (((upd (upd SU 0 ((SU 0) + (rnds SU WO 64 0))) 1 (((upd SU 0 ((SU 0) + (rnds SU WO 64 0))) 1) + (rnds SU WO 64 1))) 2) + (rnds SU WO 64 2))) 3) + (rnds SU WO 64 3))) 4) + (rnds SU WO 64 4))) 5 (((upd (upd (upd (upd (upd SU 0 ((SU 0) + (rnds SU WO 64 0))) 1 (((upd SU 0 ((SU 0) + (rnds SU WO 64 0))) 1) + (rnds SU WO 64 1))) 2 (((upd (upd SU 0 ((SU 0) + (rnds SU WO 64 0))) 1 (((upd SU 0 ((SU 0) + (rnds SU WO 64 0))) 1) + (rnds SU WO 64 1))) 2) + (rnds SU WO 64 2))) 3 (((upd (upd (upd SU 0 ((SU 0) + (rnds SU WO 64 0))) 1 (((upd SU 0 ((SU 0) + (rnds SU WO 64 0))) 1) + (rnds SU WO 64 1))) 2 (((upd (upd SU 0 ((SU 0) + (rnds SU WO 64 0))) 1 (((upd SU 0 ((SU 0) + (rnds SU WO 64 0))) 1) + (rnds SU WO 64 1))) 2) + (rnds SU WO 64 2))) 3) + (rnds SU WO 64 3))) 4 (((upd (upd (upd (upd SU 0 ((SU 0) + (rnds SU WO 64 0))) 1 (((upd SU 0 ((SU 0) + (rnds SU WO 64 0))) 1) + (rnds SU WO 64 1))) 2 (((upd (upd SU 0 ((SU 0) + (rnds SU WO 64 0))) 1 (((upd SU 0 ((SU 0) + (rnds SU WO 64 0))) 1) + (rnds SU WO 64 1))) 2) + (rnds SU WO 64 2))) 3 (((upd (upd (upd SU 0 ((SU 0) + (rnds SU WO 64 0))) 1 (((upd SU 0 ((SU 0) + (rnds SU WO 64 0))) 1) + (rnds SU WO 64 1))) 2 (((upd (upd SU 0 ((SU 0) + (rnds SU WO 64 0))) 1 (((upd SU 0 ((SU 0) + (rnds SU WO 64 0))) 1) + (rnds SU WO 64 1))) 2) + (rnds SU WO 64 2))) 3) + (rnds SU WO 64 3))) 4) + (rnds SU WO 64 4))) 5) + (rnds SU WO 64 5))) 6 (((upd (upd (upd (upd (upd (upd SU 0 ((SU 0) + (rnds SU WO 64 0))) 1 (((upd SU 0 ((SU 0) + (rnds SU WO 64 0))) 1) + (rnds SU WO 64 1))) 2 (((upd (upd SU 0 ((SU 0) + (rnds SU WO 64 0))) 1 (((upd SU 0 ((SU 0) + (rnds SU WO 64 0))) 1) + (rnds SU WO 64 1))) 2) + (rnds SU WO 64 2))) 3 (((upd (upd (upd SU 0 ((SU 0) + (rnds SU WO 64 0))) 1 (((upd SU 0 ((SU 0) + (rnds SU WO 64 0))) 1) + (rnds SU WO 64 1))) 2 (((upd (upd SU 0 ((SU 0) + (rnds SU WO 64 0))) 1 (((upd SU 0 ((SU 0) + (rnds SU WO 64 0))) 1) + (rnds SU WO 64 1))) 2) + (rnds SU WO 64 2))) 3) + (rnds SU WO 64 3))) 4 (((upd (upd (upd (upd SU 0 ((SU 0) + (rnds SU WO 64 0))) 1 (((upd SU 0 ((SU 0) + (rnds SU WO 64 0))) 1) + (rnds SU WO 64 1))) 2 (((upd (upd SU 0 ((SU 0) + (rnds SU WO 64 0))) 1 (((upd SU 0 ((SU 0) + (rnds SU WO 64 0))) 1) + (rnds SU WO 64 1))) 2) + (rnds SU WO 64 2))) 3 (((upd (upd (upd SU 0 ((SU 0) + (rnds SU WO 64 0))) 1 (((upd SU 0 ((SU 0) + (rnds SU WO 64 0))) 1) + (rnds SU WO 64 1))) 2 (((upd (upd SU 0 ((SU 0) + (rnds SU WO 64 0))) 1 (((upd SU 0 ((SU 0) + (rnds SU WO 64 0))) 1) + (rnds SU WO 64 1))) 2) + (rnds SU WO 64 2))) 3) + (rnds SU WO 64 3))) 4) + (rnds SU WO 64 4))) 5 (((upd (upd (upd (upd (upd SU 0 ((SU 0) + (rnds SU WO 64 0))) 1 (((upd SU 0 ((SU 0) + (rnds SU WO 64 0))) 1) + (rnds SU WO 64 1))) 2 (((upd (upd SU 0 ((SU 0) + (rnds SU WO 64 0))) 1 (((upd SU 0 ((SU 0) + (rnds SU WO 64 0))) 1) + (rnds SU WO 64 1))) 2) + (rnds SU WO 64 2))) 3 (((upd (upd (upd SU 0 ((SU 0) + (rnds SU WO 64 0))) 1 (((upd SU 0 ((SU 0) + (rnds SU WO 64 0))) 1) + (rnds SU WO 64 1))) 2 (((upd (upd SU 0 ((SU 0) + (rnds SU WO 64 0))) 1 (((upd SU 0 ((SU 0) + (rnds SU WO 64 0))) 1) + (rnds SU WO 64 1))) 2) + (rnds SU WO 64 2))) 3) + (rnds SU WO 64 3))) 4 (((upd (upd (upd (upd SU 0 ((SU 0) + (rnds SU WO 64 0))) 1 (((upd SU 0 ((SU 0) + (rnds SU WO 64 0))) 1) + (rnds SU WO 64 1))) 2 (((upd (upd SU 0 ((SU 0) + (rnds SU WO 64 0))) 1 (((upd SU 0 ((SU 0) + (rnds SU WO 64 0))) 1) + (rnds SU WO 64 1))) 2) + (rnds SU WO 64 2))) 3 (((upd (upd (upd SU 0 ((SU 0) + (rnds SU WO 64 0))) 1 (((upd SU 0 ((SU 0) + (rnds SU WO 64 0))) 1) + (rnds SU WO 64 1))) 2 (((upd (upd SU 0 ((SU 0) + (rnds SU WO 64 0))) 1 (((upd SU 0 ((SU 0) + (rnds SU WO 64 0))) 1) + (rnds SU WO 64 1))) 2) + (rnds SU WO 64 2))) 3) + (rnds SU WO 64 3))) 4) + (rnds SU WO 64 4))) 5) + (rnds SU WO 64 5))) 6) + (rnds SU WO 64 6))) 7 (((upd (upd (upd (upd (upd (upd (upd SU 0 ((SU 0) + (rnds SU WO 64 0))) 1 (((upd SU 0 ((SU 0) + (rnds SU WO 64 0))) 1) + (rnds SU WO 64 1))) 2 (((upd (upd SU 0 ((SU 0) + (rnds SU WO 64 0))) 1 (((upd SU 0 ((SU 0) + (rnds SU WO 64 0))) 1) + (rnds SU WO 64 1))) 2) + (rnds SU WO 64 2))) 3 (((upd (upd (upd SU 0 ((SU 0) + (rnds SU WO 64 0))) 1 (((upd SU 0 ((SU 0) + (rnds SU WO 64 0))) 1) + (rnds SU WO 64 1))) 2 (((upd (upd SU 0 ((SU 0) + (rnds SU WO 64 0))) 1 (((upd SU 0 ((SU 0) + (rnds SU WO 64 0))) 1) + (rnds SU WO 64 1))) 2) + (rnds SU WO 64 2))) 3) + (rnds SU WO 64 3))) 4 (((upd (upd (upd (upd SU 0 ((SU 0) + (rnds SU WO 64 0))) 1 (((upd SU 0 ((SU 0) + (rnds SU WO 64 0))) 1) + (rnds SU WO 64 1))) 2 (((upd (upd SU 0 ((SU 0) + (rnds SU WO 64 0))) 1 (((upd SU 0 ((SU 0) + (rnds SU WO 64 0))) 1) + (rnds SU WO 64 1))) 2) + (rnds SU WO 64 2))) 3 (((upd (upd (upd SU 0 ((SU 0) + (rnds SU WO 64 0))) 1 (((upd SU 0 ((SU 0) + (rnds SU WO 64 0))) 1) + (rnds SU WO 64 1))) 2 (((upd (upd SU 0 ((SU 0) + (rnds SU WO 64 0))) 1 (((upd SU 0 ((SU 0) + (rnds SU WO 64 0))) 1) + (rnds SU WO 64 1))) 2) + (rnds SU WO 64 2))) 3) + (rnds SU WO 64 3))) 4) + (rnds SU WO 64 4))) 5 (((upd (upd (upd (upd (upd SU 0 ((SU 0) + (rnds SU WO 64 0))) 1 (((upd SU 0 ((SU 0) + (rnds SU WO 64 0))) 1) + (rnds SU WO 64 1))) 2 (((upd (upd SU 0 ((SU 0) + (rnds SU WO 64 0))) 1 (((upd SU 0 ((SU 0) + (rnds SU WO 64 0))) 1) + (rnds SU WO 64 1))) 2) + (rnds SU WO 64 2))) 3 (((upd (upd (upd SU 0 ((SU 0) + (rnds SU WO 64 0))) 1 (((upd SU 0 ((SU 0) + (rnds SU WO 64 0))) 1) + (rnds SU WO 64 1))) 2 (((upd (upd SU 0 ((SU 0) + (rnds SU WO 64 0))) 1 (((upd SU 0 ((SU 0) + (rnds SU WO 64 0))) 1) + (rnds SU WO 64 1))) 2) + (rnds SU WO 64 2))) 3) + (rnds SU WO 64 3))) 4 (((upd (upd (upd (upd SU 0 ((SU 0) + (rnds SU WO 64 0))) 1 (((upd SU 0 ((SU 0) + (rnds SU WO 64 0))) 1) + (rnds SU WO 64 1))) 2 (((upd (upd SU 0 ((SU 0) + (rnds SU WO 64 0))) 1 (((upd SU 0 ((SU 0) + (rnds SU WO 64 0))) 1) + (rnds SU WO 64 1))) 2) + (rnds SU WO 64 2))) 3 (((upd (upd (upd SU 0 ((SU 0) + (rnds SU WO 64 0))) 1 (((upd SU 0 ((SU 0) + (rnds SU WO 64 0))) 1) + (rnds SU WO 64 1))) 2 (((upd (upd SU 0 ((SU 0) + (rnds SU WO 64 0))) 1 (((upd SU 0 ((SU 0) + (rnds SU WO 64 0))) 1) + (rnds SU WO 64 1))) 2) + (rnds SU WO 64 2))) 3) + (rnds SU WO 64 3))) 4) + (rnds SU WO 64 4))) 5) + (rnds SU WO 64 5))) 6 (((upd (upd (upd (upd (upd (upd SU 0 ((SU 0) + (rnds SU WO 64 0))) 1 (((upd SU 0 ((SU 0) + (rnds SU WO 64 0))) 1) + (rnds SU WO 64 1))) 2 (((upd (upd SU 0 ((SU 0) + (rnds SU WO 64 0))) 1 (((upd SU 0 ((SU 0) + (rnds SU WO 64 0))) 1) + (rnds SU WO 64 1))) 2) + (rnds SU WO 64 2))) 3 (((upd (upd (upd SU 0 ((SU 0) + (rnds SU WO 64 0))) 1 (((upd SU 0 ((SU 0) + (rnds SU WO 64 0))) 1) + (rnds SU WO 64 1))) 2 (((upd (upd SU 0 ((SU 0) + (rnds SU WO 64 0))) 1 (((upd SU 0 ((SU 0) + (rnds SU WO 64 0))) 1) + (rnds SU WO 64 1))) 2) + (rnds SU WO 64 2))) 3) + (rnds SU WO 64 3))) 4 (((upd (upd (upd (upd SU 0 ((SU 0) + (rnds SU WO 64 0))) 1 (((upd SU 0 ((SU 0) + (rnds SU WO 64 0))) 1) + (rnds SU WO 64 1))) 2 (((upd (upd SU 0 ((SU 0) + (rnds SU WO 64 0))) 1 (((upd SU 0 ((SU 0) + (rnds SU WO 64 0))) 1) + (rnds SU WO 64 1))) 2) + (rnds SU WO 64 2))) 3 (((upd (upd (upd SU 0 ((SU 0) + (rnds SU WO 64 0))) 1 (((upd SU 0 ((SU 0) + (rnds SU WO 64 0))) 1) + (rnds SU WO 64 1))) 2 (((upd (upd SU 0 ((SU 0) + (rnds SU WO 64 0))) 1 (((upd SU 0 ((SU 0) + (rnds SU WO 64 0))) 1) + (rnds SU WO 64 1))) 2) + (rnds SU WO 64 2))) 3) + (rnds SU WO 64 3))) 4) + (rnds SU WO 64 4))) 5 (((upd (upd (upd (upd (upd SU 0 ((SU 0) + (rnds SU WO 64 0))) 1 (((upd SU 0 ((SU 0) + (rnds SU WO 64 0))) 1) + (rnds SU WO 64 1))) 2 (((upd (upd SU 0 ((SU 0) + (rnds SU WO 64 0))) 1 (((upd SU 0 ((SU 0) + (rnds SU WO 64 0))) 1) + (rnds SU WO 64 1))) 2) + (rnds SU WO 64 2))) 3 (((upd (upd (upd SU 0 ((SU 0) + (rnds SU WO 64 0))) 1 (((upd SU 0 ((SU 0) + (rnds SU WO 64 0))) 1) + (rnds SU WO 64 1))) 2 (((upd (upd SU 0 ((SU 0) + (rnds SU WO 64 0))) 1 (((upd SU 0 ((SU 0) + (rnds SU WO 64 0))) 1) + (rnds SU WO 64 1))) 2) + (rnds SU WO 64 2))) 3) + (rnds SU WO 64 3))) 4 (((upd (upd (upd (upd SU 0 ((SU 0) + (rnds SU WO 64 0))) 1 (((upd SU 0 ((SU 0) + (rnds SU WO 64 0))) 1) + (rnds SU WO 64 1))) 2 (((upd (upd SU 0 ((SU 0) + (rnds SU WO 64 0))) 1 (((upd SU 0 ((SU 0) + (rnds SU WO 64 0))) 1) + (rnds SU WO 64 1))) 2) + (rnds SU WO 64 2))) 3 (((upd (upd (upd SU 0 ((SU 0) + (rnds SU WO 64 0))) 1 (((upd SU 0 ((SU 0) + (rnds SU WO 64 0))) 1) + (rnds SU WO 64 1))) 2 (((upd (upd SU 0 ((SU 0) + (rnds SU WO 64 0))) 1 (((upd SU 0 ((SU 0) + (rnds SU WO 64 0))) 1) + (rnds SU WO 64 1))) 2) + (rnds SU WO 64 2))) 3) + (rnds SU WO 64 3))) 4) + (rnds SU WO 64 4))) 5) + (rnds SU WO 64 5))) 6) + (rnds SU WO 64 6))) 7) + (rnds SU WO 64 7))) _ _ _ _ dX0_mixBlock_317 hP hD hS (by
            intro zj hj
            rcases (show zj = 0 ∨ zj = 1 ∨ zj = 2 ∨ zj = 3 ∨ zj = 4 ∨ zj = 5 ∨ zj = 6 ∨ zj = 7 by omega) with h | h | h | h | h | h | h | h <;> subst h <;> simp [upd, cmp])
      · skip
        have c_1 : ¬ 64 ≤ zt := fun z => c_1 ((nI_leI (a := 64) (b := zt) (by omega) (by omega)).mpr z)
        refine lv_iload hx hb dX0_mixBlock_73 (lv_at hl 5 rfl) ?_
        refine lv_bipush (v := 6) hx hb dX0_mixBlock_75 (by decide) ?_
        refine lv_iushr (v := us (rnds SU WO zt 4) 6) hx hb dX0_mixBlock_77 rfl ?_
        refine lv_iload hx hb dX0_mixBlock_78 (lv_at hl 5 rfl) ?_
        refine lv_bipush (v := 26) hx hb dX0_mixBlock_80 (by decide) ?_
        refine lv_ishl hx hb dX0_mixBlock_82 ?_
        refine x_eqi (y := sl (rnds SU WO zt 4) 26) rfl ?_
        refine lv_ior hx hb dX0_mixBlock_83 ?_
        refine lv_iload hx hb dX0_mixBlock_84 (lv_at hl 5 rfl) ?_
        refine lv_bipush (v := 11) hx hb dX0_mixBlock_86 (by decide) ?_
        refine lv_iushr (v := us (rnds SU WO zt 4) 11) hx hb dX0_mixBlock_88 rfl ?_
        refine lv_iload hx hb dX0_mixBlock_89 (lv_at hl 5 rfl) ?_
        refine lv_bipush (v := 21) hx hb dX0_mixBlock_91 (by decide) ?_
        refine lv_ishl hx hb dX0_mixBlock_93 ?_
        refine x_eqi (y := sl (rnds SU WO zt 4) 21) rfl ?_
        refine lv_ior hx hb dX0_mixBlock_94 ?_
        refine lv_ixor hx hb dX0_mixBlock_95 ?_
        refine lv_iload hx hb dX0_mixBlock_96 (lv_at hl 5 rfl) ?_
        refine lv_bipush (v := 25) hx hb dX0_mixBlock_98 (by decide) ?_
        refine lv_iushr (v := us (rnds SU WO zt 4) 25) hx hb dX0_mixBlock_100 rfl ?_
        refine lv_iload hx hb dX0_mixBlock_101 (lv_at hl 5 rfl) ?_
        refine lv_bipush (v := 7) hx hb dX0_mixBlock_103 (by decide) ?_
        refine lv_ishl hx hb dX0_mixBlock_105 ?_
        refine x_eqi (y := sl (rnds SU WO zt 4) 7) rfl ?_
        refine lv_ior hx hb dX0_mixBlock_106 ?_
        refine lv_ixor hx hb dX0_mixBlock_107 ?_
        refine lv_topi (fun x10_2 ex10_2 => ?_)
        refine lv_istore (lv' := [(10, .int x10_2), (0, .ref (g 2)), (1, .int (rnds SU WO zt 0)), (2, .int (rnds SU WO zt 1)), (3, .int (rnds SU WO zt 2)), (4, .int (rnds SU WO zt 3)), (5, .int (rnds SU WO zt 4)), (6, .int (rnds SU WO zt 5)), (7, .int (rnds SU WO zt 6)), (8, .int (rnds SU WO zt 7)), (9, .int (nI zt))]) hx hb dX0_mixBlock_108 hl (by decide) rfl (fun ls hl => ?_)
        refine lv_iload_n hx hb dX0_mixBlock_110 rfl (lv_at hl 2 rfl) ?_
        refine lv_iconst (v := 2) hx hb dX0_mixBlock_111 (by decide) ?_
        refine lv_iushr (v := us (rnds SU WO zt 0) 2) hx hb dX0_mixBlock_112 rfl ?_
        refine lv_iload_n hx hb dX0_mixBlock_113 rfl (lv_at hl 2 rfl) ?_
        refine lv_bipush (v := 30) hx hb dX0_mixBlock_114 (by decide) ?_
        refine lv_ishl hx hb dX0_mixBlock_116 ?_
        refine x_eqi (y := sl (rnds SU WO zt 0) 30) rfl ?_
        refine lv_ior hx hb dX0_mixBlock_117 ?_
        refine lv_iload_n hx hb dX0_mixBlock_118 rfl (lv_at hl 2 rfl) ?_
        refine lv_bipush (v := 13) hx hb dX0_mixBlock_119 (by decide) ?_
        refine lv_iushr (v := us (rnds SU WO zt 0) 13) hx hb dX0_mixBlock_121 rfl ?_
        refine lv_iload_n hx hb dX0_mixBlock_122 rfl (lv_at hl 2 rfl) ?_
        refine lv_bipush (v := 19) hx hb dX0_mixBlock_123 (by decide) ?_
        refine lv_ishl hx hb dX0_mixBlock_125 ?_
        refine x_eqi (y := sl (rnds SU WO zt 0) 19) rfl ?_
        refine lv_ior hx hb dX0_mixBlock_126 ?_
        refine lv_ixor hx hb dX0_mixBlock_127 ?_
        refine lv_iload_n hx hb dX0_mixBlock_128 rfl (lv_at hl 2 rfl) ?_
        refine lv_bipush (v := 22) hx hb dX0_mixBlock_129 (by decide) ?_
        refine lv_iushr (v := us (rnds SU WO zt 0) 22) hx hb dX0_mixBlock_131 rfl ?_
        refine lv_iload_n hx hb dX0_mixBlock_132 rfl (lv_at hl 2 rfl) ?_
        refine lv_bipush (v := 10) hx hb dX0_mixBlock_133 (by decide) ?_
        refine lv_ishl hx hb dX0_mixBlock_135 ?_
        refine x_eqi (y := sl (rnds SU WO zt 0) 10) rfl ?_
        refine lv_ior hx hb dX0_mixBlock_136 ?_
        refine lv_ixor hx hb dX0_mixBlock_137 ?_
        refine lv_topi (fun x11_3 ex11_3 => ?_)
        refine lv_istore (lv' := [(11, .int x11_3), (10, .int x10_2), (0, .ref (g 2)), (1, .int (rnds SU WO zt 0)), (2, .int (rnds SU WO zt 1)), (3, .int (rnds SU WO zt 2)), (4, .int (rnds SU WO zt 3)), (5, .int (rnds SU WO zt 4)), (6, .int (rnds SU WO zt 5)), (7, .int (rnds SU WO zt 6)), (8, .int (rnds SU WO zt 7)), (9, .int (nI zt))]) hx hb dX0_mixBlock_138 hl (by decide) rfl (fun ls hl => ?_)
        refine lv_iload hx hb dX0_mixBlock_140 (lv_at hl 10 rfl) ?_
        refine lv_iload hx hb dX0_mixBlock_142 (lv_at hl 1 rfl) ?_
        refine lv_iadd hx hb dX0_mixBlock_144 ?_
        refine lv_iload hx hb dX0_mixBlock_145 (lv_at hl 7 rfl) ?_
        refine lv_iload hx hb dX0_mixBlock_147 (lv_at hl 8 rfl) ?_
        refine lv_iand hx hb dX0_mixBlock_149 ?_
        refine lv_iload hx hb dX0_mixBlock_150 (lv_at hl 7 rfl) ?_
        refine lv_iconst (v := (-1)) hx hb dX0_mixBlock_152 (by decide) ?_
        refine lv_ixor hx hb dX0_mixBlock_153 ?_
        refine lv_iload hx hb dX0_mixBlock_154 (lv_at hl 9 rfl) ?_
        refine lv_iand hx hb dX0_mixBlock_156 ?_
        refine lv_ixor hx hb dX0_mixBlock_157 ?_
        refine lv_iadd hx hb dX0_mixBlock_158 ?_
        refine va_gets (v := .ref tC) hx hb hT.2.2.1 hS hown (hts (.fieldLink RX0 47 "SealedPages$Hasher" "CONSTANTS" "[I") (by decide +kernel)) (fun _ h => h) dX0_mixBlock_159 ?_
        refine lv_iload hx hb dX0_mixBlock_162 (lv_at hl 11 rfl) ?_
        refine x_tld (i := zt) hx hb hT.2.2.2.1 hS (by omega) (by decide) dX0_mixBlock_164 ?_
        refine lv_iadd hx hb dX0_mixBlock_165 ?_
        refine lv_aload_n hx hb dX0_mixBlock_166 rfl (lv_at hl 2 rfl) ?_
        refine va_get (D := G) (ci := 0) (v := .ref (g 12)) (C := RX0) (T := TX0) (N := 3) hx hb hts hinX0 hown hK hP 2 rfl rfl 1 (by decide) (hts (.fieldLink RX0 15 "SealedPages$Hasher" "words" "[I") (by decide +kernel)) (fun _ h => h) rfl dX0_mixBlock_167 ?_
        refine lv_iload hx hb dX0_mixBlock_170 (lv_at hl 11 rfl) ?_
        refine x_ald (i := zt) hx hb hK hP 12 0 rfl rfl (by omega) (by decide) dX0_mixBlock_172 ?_
        refine lv_iadd hx hb dX0_mixBlock_173 ?_
        refine x_eqi (y := rT1 (rnds SU WO zt) (kC zt) (WO zt)) (by subst_vars; unfold rT1; rw [r_6, r_11, r_25]) ?_
        refine lv_topi (fun x12_4 ex12_4 => ?_)
        refine lv_istore (lv' := [(12, .int x12_4), (11, .int x11_3), (10, .int x10_2), (0, .ref (g 2)), (1, .int (rnds SU WO zt 0)), (2, .int (rnds SU WO zt 1)), (3, .int (rnds SU WO zt 2)), (4, .int (rnds SU WO zt 3)), (5, .int (rnds SU WO zt 4)), (6, .int (rnds SU WO zt 5)), (7, .int (rnds SU WO zt 6)), (8, .int (rnds SU WO zt 7)), (9, .int (nI zt))]) hx hb dX0_mixBlock_174 hl (by decide) rfl (fun ls hl => ?_)
        refine lv_iload hx hb dX0_mixBlock_176 (lv_at hl 1 rfl) ?_
        refine lv_iload_n hx hb dX0_mixBlock_178 rfl (lv_at hl 4 rfl) ?_
        refine lv_iload_n hx hb dX0_mixBlock_179 rfl (lv_at hl 5 rfl) ?_
        refine lv_iand hx hb dX0_mixBlock_180 ?_
        refine lv_iload_n hx hb dX0_mixBlock_181 rfl (lv_at hl 4 rfl) ?_
        refine lv_iload_n hx hb dX0_mixBlock_182 rfl (lv_at hl 6 rfl) ?_
        refine lv_iand hx hb dX0_mixBlock_183 ?_
        refine lv_ixor hx hb dX0_mixBlock_184 ?_
        refine lv_iload_n hx hb dX0_mixBlock_185 rfl (lv_at hl 5 rfl) ?_
        refine lv_iload_n hx hb dX0_mixBlock_186 rfl (lv_at hl 6 rfl) ?_
        refine lv_iand hx hb dX0_mixBlock_187 ?_
        refine lv_ixor hx hb dX0_mixBlock_188 ?_
        refine lv_iadd hx hb dX0_mixBlock_189 ?_
        refine x_eqi (y := rT2 (rnds SU WO zt)) (by subst_vars; unfold rT2; rw [r_2, r_13, r_22]) ?_
        refine lv_topi (fun x13_5 ex13_5 => ?_)
        refine lv_istore (lv' := [(13, .int x13_5), (12, .int x12_4), (11, .int x11_3), (10, .int x10_2), (0, .ref (g 2)), (1, .int (rnds SU WO zt 0)), (2, .int (rnds SU WO zt 1)), (3, .int (rnds SU WO zt 2)), (4, .int (rnds SU WO zt 3)), (5, .int (rnds SU WO zt 4)), (6, .int (rnds SU WO zt 5)), (7, .int (rnds SU WO zt 6)), (8, .int (rnds SU WO zt 7)), (9, .int (nI zt))]) hx hb dX0_mixBlock_190 hl (by decide) rfl (fun ls hl => ?_)
        refine lv_iload hx hb dX0_mixBlock_192 (lv_at hl 11 rfl) ?_
        refine lv_topi (fun x8_6 ex8_6 => ?_)
        refine lv_istore (lv' := [(8, .int x8_6), (13, .int x13_5), (12, .int x12_4), (11, .int x11_3), (10, .int x10_2), (0, .ref (g 2)), (1, .int (rnds SU WO zt 0)), (2, .int (rnds SU WO zt 1)), (3, .int (rnds SU WO zt 2)), (4, .int (rnds SU WO zt 3)), (5, .int (rnds SU WO zt 4)), (6, .int (rnds SU WO zt 5)), (7, .int (rnds SU WO zt 6)), (9, .int (nI zt))]) hx hb dX0_mixBlock_194 hl (by decide) rfl (fun ls hl => ?_)
        refine lv_iload hx hb dX0_mixBlock_196 (lv_at hl 11 rfl) ?_
        refine lv_topi (fun x7_7 ex7_7 => ?_)
        refine lv_istore (lv' := [(7, .int x7_7), (8, .int x8_6), (13, .int x13_5), (12, .int x12_4), (11, .int x11_3), (10, .int x10_2), (0, .ref (g 2)), (1, .int (rnds SU WO zt 0)), (2, .int (rnds SU WO zt 1)), (3, .int (rnds SU WO zt 2)), (4, .int (rnds SU WO zt 3)), (5, .int (rnds SU WO zt 4)), (6, .int (rnds SU WO zt 5)), (9, .int (nI zt))]) hx hb dX0_mixBlock_198 hl (by decide) rfl (fun ls hl => ?_)
        refine lv_iload hx hb dX0_mixBlock_200 (lv_at hl 11 rfl) ?_
        refine lv_topi (fun x6_8 ex6_8 => ?_)
        refine lv_istore (lv' := [(6, .int x6_8), (7, .int x7_7), (8, .int x8_6), (13, .int x13_5), (12, .int x12_4), (11, .int x11_3), (10, .int x10_2), (0, .ref (g 2)), (1, .int (rnds SU WO zt 0)), (2, .int (rnds SU WO zt 1)), (3, .int (rnds SU WO zt 2)), (4, .int (rnds SU WO zt 3)), (5, .int (rnds SU WO zt 4)), (9, .int (nI zt))]) hx hb dX0_mixBlock_202 hl (by decide) rfl (fun ls hl => ?_)
        refine lv_iload hx hb dX0_mixBlock_204 (lv_at hl 11 rfl) ?_
        refine lv_iload hx hb dX0_mixBlock_206 (lv_at hl 4 rfl) ?_
        refine lv_iadd hx hb dX0_mixBlock_208 ?_
        refine x_eqi (y := rnds SU WO (zt + 1) 4) (by subst_vars; rfl) ?_
        refine lv_topi (fun x5_9 ex5_9 => ?_)
        refine lv_istore (lv' := [(5, .int x5_9), (6, .int x6_8), (7, .int x7_7), (8, .int x8_6), (13, .int x13_5), (12, .int x12_4), (11, .int x11_3), (10, .int x10_2), (0, .ref (g 2)), (1, .int (rnds SU WO zt 0)), (2, .int (rnds SU WO zt 1)), (3, .int (rnds SU WO zt 2)), (4, .int (rnds SU WO zt 3)), (9, .int (nI zt))]) hx hb dX0_mixBlock_209 hl (by decide) rfl (fun ls hl => ?_)
        refine lv_iload_n hx hb dX0_mixBlock_211 rfl (lv_at hl 11 rfl) ?_
        refine lv_topi (fun x4_10 ex4_10 => ?_)
        refine lv_istore (lv' := [(4, .int x4_10), (5, .int x5_9), (6, .int x6_8), (7, .int x7_7), (8, .int x8_6), (13, .int x13_5), (12, .int x12_4), (11, .int x11_3), (10, .int x10_2), (0, .ref (g 2)), (1, .int (rnds SU WO zt 0)), (2, .int (rnds SU WO zt 1)), (3, .int (rnds SU WO zt 2)), (9, .int (nI zt))]) hx hb dX0_mixBlock_212 hl (by decide) rfl (fun ls hl => ?_)
        refine lv_iload_n hx hb dX0_mixBlock_214 rfl (lv_at hl 11 rfl) ?_
        refine lv_topi (fun x3_11 ex3_11 => ?_)
        refine lv_istore_n (lv' := [(3, .int x3_11), (4, .int x4_10), (5, .int x5_9), (6, .int x6_8), (7, .int x7_7), (8, .int x8_6), (13, .int x13_5), (12, .int x12_4), (11, .int x11_3), (10, .int x10_2), (0, .ref (g 2)), (1, .int (rnds SU WO zt 0)), (2, .int (rnds SU WO zt 1)), (9, .int (nI zt))]) hx hb dX0_mixBlock_215 rfl hl (by decide) rfl (fun ls hl => ?_)
        refine lv_iload_n hx hb dX0_mixBlock_216 rfl (lv_at hl 11 rfl) ?_
        refine lv_topi (fun x2_12 ex2_12 => ?_)
        refine lv_istore_n (lv' := [(2, .int x2_12), (3, .int x3_11), (4, .int x4_10), (5, .int x5_9), (6, .int x6_8), (7, .int x7_7), (8, .int x8_6), (13, .int x13_5), (12, .int x12_4), (11, .int x11_3), (10, .int x10_2), (0, .ref (g 2)), (1, .int (rnds SU WO zt 0)), (9, .int (nI zt))]) hx hb dX0_mixBlock_217 rfl hl (by decide) rfl (fun ls hl => ?_)
        refine lv_iload hx hb dX0_mixBlock_218 (lv_at hl 8 rfl) ?_
        refine lv_iload hx hb dX0_mixBlock_220 (lv_at hl 7 rfl) ?_
        refine lv_iadd hx hb dX0_mixBlock_222 ?_
        refine x_eqi (y := rnds SU WO (zt + 1) 0) (by subst_vars; rfl) ?_
        refine lv_topi (fun x1_13 ex1_13 => ?_)
        refine lv_istore_n (lv' := [(1, .int x1_13), (2, .int x2_12), (3, .int x3_11), (4, .int x4_10), (5, .int x5_9), (6, .int x6_8), (7, .int x7_7), (8, .int x8_6), (13, .int x13_5), (12, .int x12_4), (11, .int x11_3), (10, .int x10_2), (0, .ref (g 2)), (9, .int (nI zt))]) hx hb dX0_mixBlock_223 rfl hl (by decide) rfl (fun ls hl => ?_)
        refine lv_iinc (v := nI (zt + 1)) (lv' := [(9, .int (nI (zt + 1))), (1, .int x1_13), (2, .int x2_12), (3, .int x3_11), (4, .int x4_10), (5, .int x5_9), (6, .int x6_8), (7, .int x7_7), (8, .int x8_6), (13, .int x13_5), (12, .int x12_4), (11, .int x11_3), (10, .int x10_2), (0, .ref (g 2))]) hx hb dX0_mixBlock_224 hl (k := 13) rfl (nI_1 _) (by decide) rfl (fun ls hl => ?_)
        refine lv_goto (tgt := 66) hx hb dX0_mixBlock_227 (by decide) ?_
        subst_vars
        exact ih_66 (zt + 1) (by omega) (by omega) _ _ _ hP hD hS (lv_sub hl [13, 1, 2, 3, 4, 5, 6, 7, 8, 0] rfl)
  exact loop_66 _ 0 (Nat.lt_succ_self _) (by omega) _ _ _ hP hD hS (lv_sub hl [9, 8, 7, 6, 5, 4, 3, 2, 1, 0] rfl)

set_option maxHeartbeats 4000000 in
set_option maxRecDepth 100000 in
/-- one byte more of zf -/
theorem c_X0_addByte (l : Launch) (G : va_G) (cA : ClassId) (tF tC : Nat) (g : Nat → Nat) (sz N : Nat) (hN : 1 ≤ N ∧ N ≤ 64) (D R F KD KR FL SU WO : Nat → Int32) (kp rd wr ft : Int32) (zL : Nat) (zf : Nat → Int32) (zb : Int32) (hSt : Str zf SU WO zL) (hbb : zb &&& 255 = zf zL &&& 255) (hL : zL < 1000) : CV l yX0_addByte wsX0_addByte 1 33 G cA tF tC g 13 sz (xW g cA N D R F KD KR FL SU WO (nI zL) kp rd wr ft) [.ref (g 2), .int zb] (fun (u : (Nat → Int32) × (Nat → Int32)) => xW g cA N D R F KD KR FL u.1 u.2 (nI (zL + 1)) kp rd wr ft) (fun u => Str zf u.1 u.2 (zL + 1)) := by
  refine x_entryV (cc := cX0_addByte) (maxL := 3) (by decide) rfl (fun _ => rfl) (Nat.le_of_ble_eq_true rfl) ?_
  intro p e s m args below meth c Q hx hb hml hown hts hK hP hD hS hT hret ls hl
  have hown : s.vm.findClass RX0 = some m.cls := hown
  have hl : lv_has ls 3 [(0, .ref (g 2)), (1, .int zb)] := hl
  have hinX0 : ∀ w ∈ wsX00, w ∈ wsX0_addByte := by decide +kernel
  refine lv_aload_n hx hb dX0_addByte_0 rfl (lv_at hl 0 rfl) ?_
  refine va_get (D := G) (ci := 0) (v := .int (nI zL)) (C := RX0) (T := TX0) (N := 3) hx hb hts hinX0 hown hK hP 2 rfl rfl 2 (by decide) (hts (.fieldLink RX0 27 "SealedPages$Hasher" "length" "I") (by decide +kernel)) (fun _ h => h) rfl dX0_addByte_1 ?_
  refine lv_bipush (v := 63) hx hb dX0_addByte_4 (by decide) ?_
  refine lv_iand hx hb dX0_addByte_6 ?_
  refine x_eqi (y := nI (zL % 64)) (pk_andN (n := zL) (by omega) 6 (by decide)) ?_
  refine lv_iconst (v := 2) hx hb dX0_addByte_7 (by decide) ?_
  refine lv_ishr hx hb dX0_addByte_8 ?_
  refine x_eqi (y := nI ((zL % 64) / 4)) (pk_shrN (n := zL % 64) (by omega) _ 2 (by decide)) ?_
  refine lv_istore_n (lv' := [(2, .int (nI ((zL % 64) / 4))), (0, .ref (g 2)), (1, .int zb)]) hx hb dX0_addByte_9 rfl hl (by decide) rfl (fun ls hl => ?_)
  refine lv_aload_n hx hb dX0_addByte_10 rfl (lv_at hl 1 rfl) ?_
  refine va_get (D := G) (ci := 0) (v := .ref (g 12)) (C := RX0) (T := TX0) (N := 3) hx hb hts hinX0 hown hK hP 2 rfl rfl 1 (by decide) (hts (.fieldLink RX0 15 "SealedPages$Hasher" "words" "[I") (by decide +kernel)) (fun _ h => h) rfl dX0_addByte_11 ?_
  refine lv_iload_n hx hb dX0_addByte_14 rfl (lv_at hl 0 rfl) ?_
  refine lv_aload_n hx hb dX0_addByte_15 rfl (lv_at hl 1 rfl) ?_
  refine va_get (D := G) (ci := 0) (v := .ref (g 12)) (C := RX0) (T := TX0) (N := 3) hx hb hts hinX0 hown hK hP 2 rfl rfl 1 (by decide) (hts (.fieldLink RX0 15 "SealedPages$Hasher" "words" "[I") (by decide +kernel)) (fun _ h => h) rfl dX0_addByte_16 ?_
  refine lv_iload_n hx hb dX0_addByte_19 rfl (lv_at hl 0 rfl) ?_
  refine x_ald (i := (zL % 64) / 4) hx hb hK hP 12 0 rfl rfl (by omega) (by decide) dX0_addByte_20 ?_
  refine lv_bipush (v := 8) hx hb dX0_addByte_21 (by decide) ?_
  refine lv_ishl hx hb dX0_addByte_23 ?_
  refine x_eqi (y := sl (WO ((zL % 64) / 4)) 8) rfl ?_
  refine lv_iload_n hx hb dX0_addByte_24 rfl (lv_at hl 2 rfl) ?_
  refine lv_sipush (v := 255) hx hb dX0_addByte_25 (by decide) ?_
  refine lv_iand hx hb dX0_addByte_28 ?_
  refine lv_ior hx hb dX0_addByte_29 ?_
  refine x_ast (i := (zL % 64) / 4) hx hb hK hP hD hS 12 0 rfl rfl (by omega) (by decide) dX0_addByte_30 (fun H locs hP hD hS => ?_)
  have hP : va_P G vwCl (xW g cA N D R F KD KR FL SU (upd WO ((zL % 64) / 4) ((sl (WO ((zL % 64) / 4)) 8) ||| (zb &&& 255))) (nI zL) kp rd wr ft) _ := hP
  have hD : va_D _ (xW g cA N D R F KD KR FL SU (upd WO ((zL % 64) / 4) ((sl (WO ((zL % 64) / 4)) 8) ||| (zb &&& 255))) (nI zL) kp rd wr ft) := hD
  refine lv_aload_n hx hb dX0_addByte_31 rfl (lv_at hl 1 rfl) ?_
  refine lv_dup hx hb dX0_addByte_32 rfl ?_
  refine va_get (D := G) (ci := 0) (v := .int (nI zL)) (C := RX0) (T := TX0) (N := 3) hx hb hts hinX0 hown hK hP 2 rfl rfl 2 (by decide) (hts (.fieldLink RX0 27 "SealedPages$Hasher" "length" "I") (by decide +kernel)) (fun _ h => h) rfl dX0_addByte_33 ?_
  refine lv_iconst (v := 1) hx hb dX0_addByte_36 (by decide) ?_
  refine lv_iadd hx hb dX0_addByte_37 ?_
  refine x_eqi (y := nI (zL + 1)) (nI_add zL 1) ?_
  refine va_put (D := G) (ci := 0) (v := .int (nI (zL + 1))) (ty := .int) (C := RX0) (T := TX0) (N := 3) hx hb hts hinX0 tyX0 tyX0_ok nmX0 hown hK hP hD hS 2 rfl rfl 2 (by decide) (hts (.fieldLink RX0 27 "SealedPages$Hasher" "length" "I") (by decide +kernel)) (fun _ h => h) rfl (by decide +kernel) rfl rfl (Nat.le_of_ble_eq_true rfl) dX0_addByte_38 (fun H locs hP hD hS => ?_)
  have hP : va_P G vwCl (xW g cA N D R F KD KR FL SU (upd WO ((zL % 64) / 4) ((sl (WO ((zL % 64) / 4)) 8) ||| (zb &&& 255))) (nI (zL + 1)) kp rd wr ft) _ := hP
  have hD : va_D _ (xW g cA N D R F KD KR FL SU (upd WO ((zL % 64) / 4) ((sl (WO ((zL % 64) / 4)) 8) ||| (zb &&& 255))) (nI (zL + 1)) kp rd wr ft) := hD
  refine lv_aload_n hx hb dX0_addByte_41 rfl (lv_at hl 1 rfl) ?_
  refine va_get (D := G) (ci := 0) (v := .int (nI (zL + 1))) (C := RX0) (T := TX0) (N := 3) hx hb hts hinX0 hown hK hP 2 rfl rfl 2 (by decide) (hts (.fieldLink RX0 27 "SealedPages$Hasher" "length" "I") (by decide +kernel)) (fun _ h => h) rfl dX0_addByte_42 ?_
  refine lv_bipush (v := 63) hx hb dX0_addByte_45 (by decide) ?_
  refine lv_iand hx hb dX0_addByte_47 ?_
  refine x_eqi (y := nI ((zL + 1) % 64)) (pk_andN (n := zL + 1) (by omega) 6 (by decide)) ?_
  refine lv_if_ne (tgt := 59) hx hb dX0_addByte_48 (by decide) (fun c_1 => ?_) (fun c_1 => ?_)
  · skip
    have c_1 : ¬ ((zL + 1) % 64) = 0 := fun z => c_1 ((nI_eq (a := ((zL + 1) % 64)) (b := 0) (by omega) (by omega)).mpr z)
    exact hret (SU, upd WO ((zL % 64) / 4) ((sl (WO ((zL % 64) / 4)) 8) ||| (zb &&& 255))) _ _ _ _ dX0_addByte_59 hP hD hS (by first | exact Str_in hSt hbb (by assumption) | exact Str_next hSt hbb (by assumption) (by assumption))
  · skip
    have c_1 : ((zL + 1) % 64) = 0 := (nI_eq (a := ((zL + 1) % 64)) (b := 0) (by omega) (by omega)).mp c_1
    refine lv_aload_n hx hb dX0_addByte_51 rfl (lv_at hl 1 rfl) ?_
    refine x_vv ⟨hx, hb, hml, hown, hts⟩ (c_X0_spreadWords l G cA tF tC g _ N hN D R F KD KR FL SU (upd WO ((zL % 64) / 4) ((sl (WO ((zL % 64) / 4)) 8) ||| (zb &&& 255))) (nI (zL + 1)) kp rd wr ft ) (cwV 0 hts gX0_addByte_X0_spreadWords rfl rfl rfl (by decide +kernel) ⟨Nat.le_of_ble_eq_true rfl, Nat.le_of_ble_eq_true rfl⟩) hK hP hD hS hT rfl 2 0 rfl rfl rfl hl.1 rfl (Nat.le_of_ble_eq_true rfl) dX0_addByte_52 ⟨Nat.le_refl _, Nat.le_refl _⟩ (fun u H locs hp_2 hP hD hS => ?_)
    have hP : va_P G vwCl (xW g cA N D R F KD KR FL SU (spr (upd WO ((zL % 64) / 4) ((sl (WO ((zL % 64) / 4)) 8) ||| (zb &&& 255))) 48) (nI (zL + 1)) kp rd wr ft) _ := hP
    have hD : va_D _ (xW g cA N D R F KD KR FL SU (spr (upd WO ((zL % 64) / 4) ((sl (WO ((zL % 64) / 4)) 8) ||| (zb &&& 255))) 48) (nI (zL + 1)) kp rd wr ft) := hD
    refine lv_aload_n hx hb dX0_addByte_55 rfl (lv_at hl 1 rfl) ?_
    refine x_vv ⟨hx, hb, hml, hown, hts⟩ (c_X0_mixBlock l G cA tF tC g _ N hN D R F KD KR FL SU (spr (upd WO ((zL % 64) / 4) ((sl (WO ((zL % 64) / 4)) 8) ||| (zb &&& 255))) 48) (nI (zL + 1)) kp rd wr ft ) (cwV 0 hts gX0_addByte_X0_mixBlock rfl rfl rfl (by decide +kernel) ⟨Nat.le_of_ble_eq_true rfl, Nat.le_of_ble_eq_true rfl⟩) hK hP hD hS hT rfl 2 0 rfl rfl rfl hl.1 rfl (Nat.le_of_ble_eq_true rfl) dX0_addByte_56 ⟨Nat.le_refl _, Nat.le_refl _⟩ (fun u H locs hp_4 hP hD hS => ?_)
    obtain ⟨SU2, rfl⟩ : ∃ z, z = u := ⟨_, rfl⟩
    have hP : va_P G vwCl (xW g cA N D R F KD KR FL SU2 (spr (upd WO ((zL % 64) / 4) ((sl (WO ((zL % 64) / 4)) 8) ||| (zb &&& 255))) 48) (nI (zL + 1)) kp rd wr ft) _ := hP
    have hD : va_D _ (xW g cA N D R F KD KR FL SU2 (spr (upd WO ((zL % 64) / 4) ((sl (WO ((zL % 64) / 4)) 8) ||| (zb &&& 255))) 48) (nI (zL + 1)) kp rd wr ft) := hD
    exact hret (SU2, spr (upd WO ((zL % 64) / 4) ((sl (WO ((zL % 64) / 4)) 8) ||| (zb &&& 255))) 48) _ _ _ _ dX0_addByte_59 hP hD hS (by first | exact Str_in hSt hbb (by assumption) | exact Str_next hSt hbb (by assumption) (by assumption))

set_option maxHeartbeats 4000000 in
set_option maxRecDepth 100000 in
/-- nothing hashed yet -/
theorem c_X0_begin (l : Launch) (G : va_G) (cA : ClassId) (tF tC : Nat) (g : Nat → Nat) (sz N : Nat) (hN : 1 ≤ N ∧ N ≤ 64) (D R F KD KR FL SU WO : Nat → Int32) (ln kp rd wr ft : Int32)  : CV l yX0_begin wsX0_begin 1 60 G cA tF tC g 13 sz (xW g cA N D R F KD KR FL SU WO ln kp rd wr ft) [.ref (g 2)] (fun (u : Unit) => xW g cA N D R F KD KR FL (va_cpy hC SU 0 0 8) WO 0 kp rd wr ft) (fun _ => True) := by
  refine x_entryV (cc := cX0_begin) (maxL := 1) (by decide) rfl (fun _ => rfl) (Nat.le_of_ble_eq_true rfl) ?_
  intro p e s m args below meth c Q hx hb hml hown hts hK hP hD hS hT hret ls hl
  have hown : s.vm.findClass RX0 = some m.cls := hown
  have hl : lv_has ls 1 [(0, .ref (g 2))] := hl
  have hinX0 : ∀ w ∈ wsX00, w ∈ wsX0_begin := by decide +kernel
  refine va_gets (v := .ref tF) hx hb hT.1 hS hown (hts (.fieldLink RX0 18 "SealedPages$Hasher" "FIRST_SUMS" "[I") (by decide +kernel)) (fun _ h => h) dX0_begin_0 ?_
  refine lv_iconst (v := 0) hx hb dX0_begin_3 (by decide) ?_
  refine lv_aload_n hx hb dX0_begin_4 rfl (lv_at hl 0 rfl) ?_
  refine va_get (D := G) (ci := 0) (v := .ref (g 11)) (C := RX0) (T := TX0) (N := 3) hx hb hts hinX0 hown hK hP 2 rfl rfl 0 (by decide) (hts (.fieldLink RX0 9 "SealedPages$Hasher" "sums" "[I") (by decide +kernel)) (fun _ h => h) rfl dX0_begin_5 ?_
  refine lv_iconst (v := 0) hx hb dX0_begin_8 (by decide) ?_
  refine lv_bipush (v := 8) hx hb dX0_begin_9 (by decide) ?_
  refine x_cpT (n0 := 8) (f := hC) (spN := 0) (dpN := 0) (nN := 8) hx hb (by rw [hml]; exact hl.1.symm) hown (hts (.methodLink RX0 21 arraycopyName) (by decide +kernel)) (hts (.native arraycopyName) (by decide +kernel)) (hts (.static arraycopyName) (by decide +kernel)) (hts (.initialized "java/lang/System") (by decide +kernel)) hK hP hD hS hT.2.1 11 0 rfl rfl (by decide) (by decide) (by decide) (Nat.le_of_ble_eq_true rfl) (Nat.le_of_ble_eq_true rfl) dX0_begin_11 (fun H locs hP hD hS => ?_)
  have hP : va_P G vwCl (xW g cA N D R F KD KR FL (va_cpy hC SU 0 0 8) WO ln kp rd wr ft) _ := hP
  have hD : va_D _ (xW g cA N D R F KD KR FL (va_cpy hC SU 0 0 8) WO ln kp rd wr ft) := hD
  refine lv_aload_n hx hb dX0_begin_14 rfl (lv_at hl 0 rfl) ?_
  refine lv_iconst (v := 0) hx hb dX0_begin_15 (by decide) ?_
  refine va_put (D := G) (ci := 0) (v := .int 0) (ty := .int) (C := RX0) (T := TX0) (N := 3) hx hb hts hinX0 tyX0 tyX0_ok nmX0 hown hK hP hD hS 2 rfl rfl 2 (by decide) (hts (.fieldLink RX0 27 "SealedPages$Hasher" "length" "I") (by decide +kernel)) (fun _ h => h) rfl (by decide +kernel) rfl rfl (Nat.le_of_ble_eq_true rfl) dX0_begin_16 (fun H locs hP hD hS => ?_)
  have hP : va_P G vwCl (xW g cA N D R F KD KR FL (va_cpy hC SU 0 0 8) WO 0 kp rd wr ft) _ := hP
  have hD : va_D _ (xW g cA N D R F KD KR FL (va_cpy hC SU 0 0 8) WO 0 kp rd wr ft) := hD
  exact hret () _ _ _ _ dX0_begin_19 hP hD hS trivial

set_option maxHeartbeats 4000000 in
set_option maxRecDepth 100000 in
/-- zn bytes of za row -/
theorem c_X0_addRow_D (l : Launch) (G : va_G) (cA : ClassId) (tF tC : Nat) (g : Nat → Nat) (sz N : Nat) (hN : 1 ≤ N ∧ N ≤ 64) (D R F KD KR FL SU WO : Nat → Int32) (kp rd wr ft : Int32) (zL : Nat) (zf : Nat → Int32) (za zn : Nat) (hSt : Str zf SU WO zL) (han : za + zn ≤ siz N) (hrow : ∀ zi, zi < zn → D (za + zi) &&& 255 = zf (zL + zi) &&& 255) (hL : zL + zn < 900) : CV l yX0_addRow wsX0_addRow 2 55 G cA tF tC g 13 sz (xW g cA N D R F KD KR FL SU WO (nI zL) kp rd wr ft) [.ref (g 2), .ref (g 3), .int (nI za), .int (nI zn)] (fun (u : (Nat → Int32) × (Nat → Int32)) => xW g cA N D R F KD KR FL u.1 u.2 (nI (zL + zn)) kp rd wr ft) (fun u => Str zf u.1 u.2 (zL + zn)) := by
  refine x_entryV (cc := cX0_addRow) (maxL := 5) (by decide) rfl (fun _ => rfl) (Nat.le_of_ble_eq_true rfl) ?_
  intro p e s m args below meth c Q hx hb hml hown hts hK hP hD hS hT hret ls hl
  have hown : s.vm.findClass RX0 = some m.cls := hown
  have hl : lv_has ls 5 [(0, .ref (g 2)), (1, .ref (g 3)), (2, .int (nI za)), (3, .int (nI zn))] := hl
  have hz := siz_le hN
  refine lv_iconst (v := 0) hx hb dX0_addRow_0 (by decide) ?_
  refine lv_istore (lv' := [(4, .int 0), (0, .ref (g 2)), (1, .ref (g 3)), (2, .int (nI za)), (3, .int (nI zn))]) hx hb dX0_addRow_1 hl (by decide) rfl (fun ls hl => ?_)
  have loop_3 : ∀ (n_3 : Nat) (zi : Nat) (SUi : Nat → Int32) (WOi : Nat → Int32), (zn - zi) < n_3 → zi ≤ zn → Str zf SUi WOi (zL + zi) → ∀ (H : Heap) (locs : List Loc) (ls : Array Slot), va_P G vwCl (xW g cA N D R F KD KR FL SUi WOi (nI (zL + zi)) kp rd wr ft) H → va_D (wA g 13 s.heap.size) (xW g cA N D R F KD KR FL SUi WOi (nI (zL + zi)) kp rd wr ft) → va_S (wA g 13 s.heap.size) s.heap H locs → lv_has ls 5 [(0, .ref (g 2)), (1, .ref (g 3)), (2, .int (nI za)), (3, .int (nI zn)), (4, .int (nI zi))] → W p l e { frames := 2, cells := 0, slots := 0, locals := 55 } s m args below meth c H locs 0 0 Q (F0 m 3 ls []) := by
    intro n_3
    induction n_3 with
    | zero => intro zi SUi WOi hm_3; exact absurd hm_3 (Nat.not_lt_zero _)
    | succ n_3 ih_3 =>
      intro zi SUi WOi hm_3 hi hs H locs ls hP hD hS hl
      refine lv_iload hx hb dX0_addRow_3 (lv_at hl 4 rfl) ?_
      refine lv_iload_n hx hb dX0_addRow_5 rfl (lv_at hl 3 rfl) ?_
      refine lv_icmp_ge (tgt := 25) hx hb dX0_addRow_6 (by decide) (fun c_1 => ?_) (fun c_1 => ?_)
      · skip
        have c_1 : zn ≤ zi := (nI_leI (a := zn) (b := zi) (by omega) (by omega)).mp c_1
        obtain rfl : zn = zi := by omega
        have hl : lv_has ls 5 [(0, .ref (g 2)), (1, .ref (g 3)), (2, .int (nI za)), (3, .int (nI zn)), (4, .int (nI zn))] := hl
        exact hret (SUi, WOi) _ _ _ _ dX0_addRow_25 hP hD hS hs
      · skip
        have c_1 : ¬ zn ≤ zi := fun z => c_1 ((nI_leI (a := zn) (b := zi) (by omega) (by omega)).mpr z)
        refine lv_aload_n hx hb dX0_addRow_9 rfl (lv_at hl 0 rfl) ?_
        refine lv_aload_n hx hb dX0_addRow_10 rfl (lv_at hl 1 rfl) ?_
        refine lv_iload_n hx hb dX0_addRow_11 rfl (lv_at hl 2 rfl) ?_
        refine lv_iload hx hb dX0_addRow_12 (lv_at hl 4 rfl) ?_
        refine lv_iadd hx hb dX0_addRow_14 ?_
        refine x_eqi (y := nI (za + zi)) (nI_add za zi) ?_
        refine x_ald (i := za + zi) hx hb hK hP 3 0 rfl rfl (by omega) (by have := siz_le hN; have := nds_le hN; omega) dX0_addRow_15 ?_
        refine x_vv ⟨hx, hb, hml, hown, hts⟩ (c_X0_addByte l G cA tF tC g _ N hN D R F KD KR FL SUi WOi kp rd wr ft (zL + zi) zf (D (za + zi)) hs (hrow zi (by omega)) (by omega)) (cwV 1 hts gX0_addRow_X0_addByte rfl rfl rfl (by decide +kernel) ⟨Nat.le_of_ble_eq_true rfl, Nat.le_of_ble_eq_true rfl⟩) hK hP hD hS hT rfl 2 0 rfl rfl rfl hl.1 rfl (Nat.le_of_ble_eq_true rfl) dX0_addRow_16 ⟨Nat.le_refl _, Nat.le_refl _⟩ (fun u H locs hs3 hP hD hS => ?_)
        obtain ⟨SU3, WO3⟩ := u
        have hP : va_P G vwCl (xW g cA N D R F KD KR FL SU3 WO3 (nI (zL + (zi + 1))) kp rd wr ft) _ := hP
        have hD : va_D _ (xW g cA N D R F KD KR FL SU3 WO3 (nI (zL + (zi + 1))) kp rd wr ft) := hD
        refine lv_iinc (v := nI (zi + 1)) (lv' := [(4, .int (nI (zi + 1))), (0, .ref (g 2)), (1, .ref (g 3)), (2, .int (nI za)), (3, .int (nI zn))]) hx hb dX0_addRow_19 hl (k := 4) rfl (nI_1 _) (by decide) rfl (fun ls hl => ?_)
        refine lv_goto (tgt := 3) hx hb dX0_addRow_22 (by decide) ?_
        exact ih_3 (zi + 1) SU3 WO3 (by omega) (by omega) hs3 _ _ _ hP hD hS (lv_sub hl [1, 2, 3, 4, 0] rfl)
  exact loop_3 _ 0 SU WO (Nat.lt_succ_self _) (by omega) hSt _ _ _ hP hD hS (lv_sub hl [1, 2, 3, 4, 0] rfl)

set_option maxHeartbeats 4000000 in
set_option maxRecDepth 100000 in
/-- zn bytes of za row -/
theorem c_X0_addRow_F (l : Launch) (G : va_G) (cA : ClassId) (tF tC : Nat) (g : Nat → Nat) (sz N : Nat) (hN : 1 ≤ N ∧ N ≤ 64) (D R F KD KR FL SU WO : Nat → Int32) (kp rd wr ft : Int32) (zL : Nat) (zf : Nat → Int32) (za zn : Nat) (hSt : Str zf SU WO zL) (han : za + zn ≤ 64) (hrow : ∀ zi, zi < zn → F (za + zi) &&& 255 = zf (zL + zi) &&& 255) (hL : zL + zn < 900) : CV l yX0_addRow wsX0_addRow 2 55 G cA tF tC g 13 sz (xW g cA N D R F KD KR FL SU WO (nI zL) kp rd wr ft) [.ref (g 2), .ref (g 5), .int (nI za), .int (nI zn)] (fun (u : (Nat → Int32) × (Nat → Int32)) => xW g cA N D R F KD KR FL u.1 u.2 (nI (zL + zn)) kp rd wr ft) (fun u => Str zf u.1 u.2 (zL + zn)) := by
  refine x_entryV (cc := cX0_addRow) (maxL := 5) (by decide) rfl (fun _ => rfl) (Nat.le_of_ble_eq_true rfl) ?_
  intro p e s m args below meth c Q hx hb hml hown hts hK hP hD hS hT hret ls hl
  have hown : s.vm.findClass RX0 = some m.cls := hown
  have hl : lv_has ls 5 [(0, .ref (g 2)), (1, .ref (g 5)), (2, .int (nI za)), (3, .int (nI zn))] := hl
  have hz := siz_le hN
  refine lv_iconst (v := 0) hx hb dX0_addRow_0 (by decide) ?_
  refine lv_istore (lv' := [(4, .int 0), (0, .ref (g 2)), (1, .ref (g 5)), (2, .int (nI za)), (3, .int (nI zn))]) hx hb dX0_addRow_1 hl (by decide) rfl (fun ls hl => ?_)
  have loop_3 : ∀ (n_3 : Nat) (zi : Nat) (SUi : Nat → Int32) (WOi : Nat → Int32), (zn - zi) < n_3 → zi ≤ zn → Str zf SUi WOi (zL + zi) → ∀ (H : Heap) (locs : List Loc) (ls : Array Slot), va_P G vwCl (xW g cA N D R F KD KR FL SUi WOi (nI (zL + zi)) kp rd wr ft) H → va_D (wA g 13 s.heap.size) (xW g cA N D R F KD KR FL SUi WOi (nI (zL + zi)) kp rd wr ft) → va_S (wA g 13 s.heap.size) s.heap H locs → lv_has ls 5 [(0, .ref (g 2)), (1, .ref (g 5)), (2, .int (nI za)), (3, .int (nI zn)), (4, .int (nI zi))] → W p l e { frames := 2, cells := 0, slots := 0, locals := 55 } s m args below meth c H locs 0 0 Q (F0 m 3 ls []) := by
    intro n_3
    induction n_3 with
    | zero => intro zi SUi WOi hm_3; exact absurd hm_3 (Nat.not_lt_zero _)
    | succ n_3 ih_3 =>
      intro zi SUi WOi hm_3 hi hs H locs ls hP hD hS hl
      refine lv_iload hx hb dX0_addRow_3 (lv_at hl 4 rfl) ?_
      refine lv_iload_n hx hb dX0_addRow_5 rfl (lv_at hl 3 rfl) ?_
      refine lv_icmp_ge (tgt := 25) hx hb dX0_addRow_6 (by decide) (fun c_1 => ?_) (fun c_1 => ?_)
      · skip
        have c_1 : zn ≤ zi := (nI_leI (a := zn) (b := zi) (by omega) (by omega)).mp c_1
        obtain rfl : zn = zi := by omega
        have hl : lv_has ls 5 [(0, .ref (g 2)), (1, .ref (g 5)), (2, .int (nI za)), (3, .int (nI zn)), (4, .int (nI zn))] := hl
        exact hret (SUi, WOi) _ _ _ _ dX0_addRow_25 hP hD hS hs
      · skip
        have c_1 : ¬ zn ≤ zi := fun z => c_1 ((nI_leI (a := zn) (b := zi) (by omega) (by omega)).mpr z)
        refine lv_aload_n hx hb dX0_addRow_9 rfl (lv_at hl 0 rfl) ?_
        refine lv_aload_n hx hb dX0_addRow_10 rfl (lv_at hl 1 rfl) ?_
        refine lv_iload_n hx hb dX0_addRow_11 rfl (lv_at hl 2 rfl) ?_
        refine lv_iload hx hb dX0_addRow_12 (lv_at hl 4 rfl) ?_
        refine lv_iadd hx hb dX0_addRow_14 ?_
        refine x_eqi (y := nI (za + zi)) (nI_add za zi) ?_
        refine x_ald (i := za + zi) hx hb hK hP 5 0 rfl rfl (by omega) (by decide) dX0_addRow_15 ?_
        refine x_vv ⟨hx, hb, hml, hown, hts⟩ (c_X0_addByte l G cA tF tC g _ N hN D R F KD KR FL SUi WOi kp rd wr ft (zL + zi) zf (F (za + zi)) hs (hrow zi (by omega)) (by omega)) (cwV 1 hts gX0_addRow_X0_addByte rfl rfl rfl (by decide +kernel) ⟨Nat.le_of_ble_eq_true rfl, Nat.le_of_ble_eq_true rfl⟩) hK hP hD hS hT rfl 2 0 rfl rfl rfl hl.1 rfl (Nat.le_of_ble_eq_true rfl) dX0_addRow_16 ⟨Nat.le_refl _, Nat.le_refl _⟩ (fun u H locs hs3 hP hD hS => ?_)
        obtain ⟨SU3, WO3⟩ := u
        have hP : va_P G vwCl (xW g cA N D R F KD KR FL SU3 WO3 (nI (zL + (zi + 1))) kp rd wr ft) _ := hP
        have hD : va_D _ (xW g cA N D R F KD KR FL SU3 WO3 (nI (zL + (zi + 1))) kp rd wr ft) := hD
        refine lv_iinc (v := nI (zi + 1)) (lv' := [(4, .int (nI (zi + 1))), (0, .ref (g 2)), (1, .ref (g 5)), (2, .int (nI za)), (3, .int (nI zn))]) hx hb dX0_addRow_19 hl (k := 4) rfl (nI_1 _) (by decide) rfl (fun ls hl => ?_)
        refine lv_goto (tgt := 3) hx hb dX0_addRow_22 (by decide) ?_
        exact ih_3 (zi + 1) SU3 WO3 (by omega) (by omega) hs3 _ _ _ hP hD hS (lv_sub hl [1, 2, 3, 4, 0] rfl)
  exact loop_3 _ 0 SU WO (Nat.lt_succ_self _) (by omega) hSt _ _ _ hP hD hS (lv_sub hl [1, 2, 3, 4, 0] rfl)

set_option maxHeartbeats 4000000 in
set_option maxRecDepth 100000 in
/-- the row is lengthened; the sums are its hash -/
theorem c_X0_finish (l : Launch) (G : va_G) (cA : ClassId) (tF tC : Nat) (g : Nat → Nat) (sz N : Nat) (hN : 1 ≤ N ∧ N ≤ 64) (D R F KD KR FL SU WO : Nat → Int32) (kp rd wr ft : Int32) (zL : Nat) (m0 : Nat → Int32) (hSt : Str (pad m0 zL) SU WO zL) (hL : zL < 67) : CV l yX0_finish wsX0_finish 2 55 G cA tF tC g 13 sz (xW g cA N D R F KD KR FL SU WO (nI zL) kp rd wr ft) [.ref (g 2)] (fun (u : (Nat → Int32) × (Nat → Int32)) => xW g cA N D R F KD KR FL u.1 u.2 (nI (64 * nbk zL)) kp rd wr ft) (fun u => ag 8 u.1 (blk (pad m0 zL) (nbk zL))) := by
  refine x_entryV (cc := cX0_finish) (maxL := 5) (by decide) rfl (fun _ => rfl) (Nat.le_of_ble_eq_true rfl) ?_
  intro p e s m args below meth c Q hx hb hml hown hts hK hP hD hS hT hret ls hl
  have hown : s.vm.findClass RX0 = some m.cls := hown
  have hl : lv_has ls 5 [(0, .ref (g 2))] := hl
  have hinX0 : ∀ w ∈ wsX00, w ∈ wsX0_finish := by decide +kernel
  have hzr := zrs_lt zL hL
  refine lv_ldc2 (v := 8) hx hb hown (hts (.constantLong RX0 41 (8)) (by decide +kernel)) dX0_finish_0 ?_
  refine lv_aload_n hx hb dX0_finish_3 rfl (lv_at hl 0 rfl) ?_
  refine va_get (D := G) (ci := 0) (v := .int (nI zL)) (C := RX0) (T := TX0) (N := 3) hx hb hts hinX0 hown hK hP 2 rfl rfl 2 (by decide) (hts (.fieldLink RX0 27 "SealedPages$Hasher" "length" "I") (by decide +kernel)) (fun _ h => h) rfl dX0_finish_4 ?_
  refine lv_i2l (v := (nI zL).toInt64) hx hb dX0_finish_7 rfl ?_
  refine lv_lmul hx hb dX0_finish_8 ?_
  refine lv_lstore_n (lv' := [(1, .long (8 * ((nI zL).toInt64))), (0, .ref (g 2))]) hx hb dX0_finish_9 rfl hl (by decide) rfl (fun ls hl => ?_)
  refine lv_aload_n hx hb dX0_finish_10 rfl (lv_at hl 1 rfl) ?_
  refine lv_sipush (v := 128) hx hb dX0_finish_11 (by decide) ?_
  refine x_vv ⟨hx, hb, hml, hown, hts⟩ (c_X0_addByte l G cA tF tC g _ N hN D R F KD KR FL SU WO kp rd wr ft (zL) (pad m0 zL) 128 hSt (by rw [pad_128]) (by omega)) (cwV 1 hts gX0_finish_X0_addByte rfl rfl rfl (by decide +kernel) ⟨Nat.le_of_ble_eq_true rfl, Nat.le_of_ble_eq_true rfl⟩) hK hP hD hS hT rfl 2 0 rfl rfl rfl hl.1 rfl (Nat.le_of_ble_eq_true rfl) dX0_finish_14 ⟨Nat.le_refl _, Nat.le_refl _⟩ (fun u H locs hs3 hP hD hS => ?_)
  obtain ⟨SU3, WO3⟩ := u
  have hP : va_P G vwCl (xW g cA N D R F KD KR FL SU3 WO3 (nI (zL + 1)) kp rd wr ft) _ := hP
  have hD : va_D _ (xW g cA N D R F KD KR FL SU3 WO3 (nI (zL + 1)) kp rd wr ft) := hD
  refine lv_bipush (v := 56) hx hb dX0_finish_17 (by decide) ?_
  refine lv_aload_n hx hb dX0_finish_19 rfl (lv_at hl 1 rfl) ?_
  refine va_get (D := G) (ci := 0) (v := .int (nI (zL + 1))) (C := RX0) (T := TX0) (N := 3) hx hb hts hinX0 hown hK hP 2 rfl rfl 2 (by decide) (hts (.fieldLink RX0 27 "SealedPages$Hasher" "length" "I") (by decide +kernel)) (fun _ h => h) rfl dX0_finish_20 ?_
  refine lv_isub hx hb dX0_finish_23 ?_
  refine lv_bipush (v := 63) hx hb dX0_finish_24 (by decide) ?_
  refine lv_iand hx hb dX0_finish_26 ?_
  refine x_eqi (y := nI (zrs zL)) (zrs_eq zL hL) ?_
  refine lv_istore_n (lv' := [(3, .int (nI (zrs zL))), (1, .long (8 * ((nI zL).toInt64))), (0, .ref (g 2))]) hx hb dX0_finish_27 rfl hl (by decide) rfl (fun ls hl => ?_)
  refine lv_iconst (v := 0) hx hb dX0_finish_28 (by decide) ?_
  refine lv_istore (lv' := [(4, .int 0), (3, .int (nI (zrs zL))), (1, .long (8 * ((nI zL).toInt64))), (0, .ref (g 2))]) hx hb dX0_finish_29 hl (by decide) rfl (fun ls hl => ?_)
  have loop_31 : ∀ (n_31 : Nat) (zi : Nat) (SUi : Nat → Int32) (WOi : Nat → Int32), (zrs zL - zi) < n_31 → zi ≤ zrs zL → Str (pad m0 zL) SUi WOi (zL + 1 + zi) → ∀ (H : Heap) (locs : List Loc) (ls : Array Slot), va_P G vwCl (xW g cA N D R F KD KR FL SUi WOi (nI (zL + 1 + zi)) kp rd wr ft) H → va_D (wA g 13 s.heap.size) (xW g cA N D R F KD KR FL SUi WOi (nI (zL + 1 + zi)) kp rd wr ft) → va_S (wA g 13 s.heap.size) s.heap H locs → lv_has ls 5 [(0, .ref (g 2)), (1, .long (8 * ((nI zL).toInt64))), (3, .int (nI (zrs zL))), (4, .int (nI zi))] → W p l e { frames := 2, cells := 0, slots := 0, locals := 55 } s m args below meth c H locs 0 0 Q (F0 m 31 ls []) := by
    intro n_31
    induction n_31 with
    | zero => intro zi SUi WOi hm_31; exact absurd hm_31 (Nat.not_lt_zero _)
    | succ n_31 ih_31 =>
      intro zi SUi WOi hm_31 hi hs H locs ls hP hD hS hl
      refine lv_iload hx hb dX0_finish_31 (lv_at hl 3 rfl) ?_
      refine lv_iload_n hx hb dX0_finish_33 rfl (lv_at hl 2 rfl) ?_
      refine lv_icmp_ge (tgt := 48) hx hb dX0_finish_34 (by decide) (fun c_2 => ?_) (fun c_2 => ?_)
      · skip
        have c_2 : (zrs zL) ≤ zi := (nI_leI (a := (zrs zL)) (b := zi) (by omega) (by omega)).mp c_2
        obtain rfl : zi = zrs zL := by omega
        have hl : lv_has ls 5 [(0, .ref (g 2)), (1, .long (8 * ((nI zL).toInt64))), (3, .int (nI (zrs zL))), (4, .int (nI (zrs zL)))] := hl
        refine lv_iconst (v := 0) hx hb dX0_finish_48 (by decide) ?_
        refine lv_istore (lv' := [(4, .int 0), (0, .ref (g 2)), (1, .long (8 * ((nI zL).toInt64))), (3, .int (nI (zrs zL)))]) hx hb dX0_finish_49 hl (by decide) rfl (fun ls hl => ?_)
        have loop_51 : ∀ (n_51 : Nat) (zk : Nat) (SUk : Nat → Int32) (WOk : Nat → Int32), (8 - zk) < n_51 → zk ≤ 8 → Str (pad m0 zL) SUk WOk (zL + 1 + zrs zL + zk) → ∀ (H : Heap) (locs : List Loc) (ls : Array Slot), va_P G vwCl (xW g cA N D R F KD KR FL SUk WOk (nI (zL + 1 + zrs zL + zk)) kp rd wr ft) H → va_D (wA g 13 s.heap.size) (xW g cA N D R F KD KR FL SUk WOk (nI (zL + 1 + zrs zL + zk)) kp rd wr ft) → va_S (wA g 13 s.heap.size) s.heap H locs → lv_has ls 5 [(0, .ref (g 2)), (1, .long (8 * ((nI zL).toInt64))), (3, .int (nI (zrs zL))), (4, .int (nI zk))] → W p l e { frames := 2, cells := 0, slots := 0, locals := 55 } s m args below meth c H locs 0 0 Q (F0 m 51 ls []) := by
          intro n_51
          induction n_51 with
          | zero => intro zk SUk WOk hm_51; exact absurd hm_51 (Nat.not_lt_zero _)
          | succ n_51 ih_51 =>
            intro zk SUk WOk hm_51 hk hs H locs ls hP hD hS hl
            refine lv_iload hx hb dX0_finish_51 (lv_at hl 3 rfl) ?_
            refine lv_bipush (v := 8) hx hb dX0_finish_53 (by decide) ?_
            refine lv_icmp_ge (tgt := 79) hx hb dX0_finish_55 (by decide) (fun c_3 => ?_) (fun c_3 => ?_)
            · skip
              have c_3 : 8 ≤ zk := (nI_leI (a := 8) (b := zk) (by omega) (by omega)).mp c_3
              obtain rfl : zk = 8 := by omega
              rw [hzr.2] at hs hP hD
              have hl : lv_has ls 5 [(0, .ref (g 2)), (1, .long (8 * ((nI zL).toInt64))), (3, .int (nI (zrs zL))), (4, .int (nI 8))] := hl
              exact hret (SUk, WOk) _ _ _ _ dX0_finish_79 hP hD hS (by have h1 := hs.1; rwa [show 64 * nbk zL / 64 = nbk zL by omega] at h1)
            · skip
              have c_3 : ¬ 8 ≤ zk := fun z => c_3 ((nI_leI (a := 8) (b := zk) (by omega) (by omega)).mpr z)
              refine lv_aload_n hx hb dX0_finish_58 rfl (lv_at hl 0 rfl) ?_
              refine lv_lload_n hx hb dX0_finish_59 rfl (lv_at hl 1 rfl) ?_
              refine lv_bipush (v := 56) hx hb dX0_finish_60 (by decide) ?_
              refine lv_bipush (v := 8) hx hb dX0_finish_62 (by decide) ?_
              refine lv_iload hx hb dX0_finish_64 (lv_at hl 3 rfl) ?_
              refine lv_imul hx hb dX0_finish_66 ?_
              refine x_eqi (y := nI (8 * zk)) (pk_mul 8 zk) ?_
              refine lv_isub hx hb dX0_finish_67 ?_
              refine x_eqi (y := nI (56 - (8 * zk))) (pk_sub (a := 56) (b := 8 * zk) (by omega)) ?_
              refine lv_lushr (v := lus (8 * ((nI zL).toInt64)) (nI (56 - (8 * zk)))) hx hb dX0_finish_68 rfl ?_
              refine lv_l2i (v := (lus (8 * ((nI zL).toInt64)) (nI (56 - (8 * zk)))).toInt32) hx hb dX0_finish_69 rfl ?_
              refine x_vv ⟨hx, hb, hml, hown, hts⟩ (c_X0_addByte l G cA tF tC g _ N hN D R F KD KR FL SUk WOk kp rd wr ft (zL + 1 + zrs zL + zk) (pad m0 zL) ((lus (8 * (nI zL).toInt64) (nI (56 - 8 * zk))).toInt32) hs (by rw [pad_e m0 hL (by omega)]; exact fin_b zL hL zk (by omega)) (by omega)) (cwV 1 hts gX0_finish_X0_addByte rfl rfl rfl (by decide +kernel) ⟨Nat.le_of_ble_eq_true rfl, Nat.le_of_ble_eq_true rfl⟩) hK hP hD hS hT rfl 2 0 rfl rfl rfl hl.1 rfl (Nat.le_of_ble_eq_true rfl) dX0_finish_70 ⟨Nat.le_refl _, Nat.le_refl _⟩ (fun u H locs hs3 hP hD hS => ?_)
              obtain ⟨SU3, WO3⟩ := u
              have hP : va_P G vwCl (xW g cA N D R F KD KR FL SU3 WO3 (nI (zL + 1 + zrs zL + (zk + 1))) kp rd wr ft) _ := hP
              have hD : va_D _ (xW g cA N D R F KD KR FL SU3 WO3 (nI (zL + 1 + zrs zL + (zk + 1))) kp rd wr ft) := hD
              refine lv_iinc (v := nI (zk + 1)) (lv' := [(4, .int (nI (zk + 1))), (0, .ref (g 2)), (1, .long (8 * ((nI zL).toInt64))), (3, .int (nI (zrs zL)))]) hx hb dX0_finish_73 hl (k := 3) rfl (nI_1 _) (by decide) rfl (fun ls hl => ?_)
              refine lv_goto (tgt := 51) hx hb dX0_finish_76 (by decide) ?_
              exact ih_51 (zk + 1) SU3 WO3 (by omega) (by omega) hs3 _ _ _ hP hD hS (lv_sub hl [1, 2, 3, 0] rfl)
        exact loop_51 _ 0 SUi WOi (Nat.lt_succ_self _) (by omega) hs _ _ _ hP hD hS (lv_sub hl [1, 2, 3, 0] rfl)
      · skip
        have c_2 : ¬ (zrs zL) ≤ zi := fun z => c_2 ((nI_leI (a := (zrs zL)) (b := zi) (by omega) (by omega)).mpr z)
        refine lv_aload_n hx hb dX0_finish_37 rfl (lv_at hl 0 rfl) ?_
        refine lv_iconst (v := 0) hx hb dX0_finish_38 (by decide) ?_
        refine x_vv ⟨hx, hb, hml, hown, hts⟩ (c_X0_addByte l G cA tF tC g _ N hN D R F KD KR FL SUi WOi kp rd wr ft (zL + 1 + zi) (pad m0 zL) 0 hs (by rw [pad_0 m0 (by omega) (by omega)]) (by omega)) (cwV 1 hts gX0_finish_X0_addByte rfl rfl rfl (by decide +kernel) ⟨Nat.le_of_ble_eq_true rfl, Nat.le_of_ble_eq_true rfl⟩) hK hP hD hS hT rfl 2 0 rfl rfl rfl hl.1 rfl (Nat.le_of_ble_eq_true rfl) dX0_finish_39 ⟨Nat.le_refl _, Nat.le_refl _⟩ (fun u H locs hs3 hP hD hS => ?_)
        obtain ⟨SU3, WO3⟩ := u
        have hP : va_P G vwCl (xW g cA N D R F KD KR FL SU3 WO3 (nI (zL + 1 + (zi + 1))) kp rd wr ft) _ := hP
        have hD : va_D _ (xW g cA N D R F KD KR FL SU3 WO3 (nI (zL + 1 + (zi + 1))) kp rd wr ft) := hD
        refine lv_iinc (v := nI (zi + 1)) (lv' := [(4, .int (nI (zi + 1))), (0, .ref (g 2)), (1, .long (8 * ((nI zL).toInt64))), (3, .int (nI (zrs zL)))]) hx hb dX0_finish_42 hl (k := 3) rfl (nI_1 _) (by decide) rfl (fun ls hl => ?_)
        refine lv_goto (tgt := 31) hx hb dX0_finish_45 (by decide) ?_
        exact ih_31 (zi + 1) SU3 WO3 (by omega) (by omega) hs3 _ _ _ hP hD hS (lv_sub hl [1, 2, 3, 0] rfl)
  exact loop_31 _ 0 SU3 WO3 (Nat.lt_succ_self _) (by omega) hs3 _ _ _ hP hD hS (lv_sub hl [3, 2, 1, 0] rfl)

set_option maxHeartbeats 4000000 in
set_option maxRecDepth 100000 in
/-- byte zi of the hash -/
theorem c_X0_resultByte (l : Launch) (G : va_G) (cA : ClassId) (tF tC : Nat) (g : Nat → Nat) (sz N : Nat) (hN : 1 ≤ N ∧ N ≤ 64) (D R F KD KR FL SU WO : Nat → Int32) (ln kp rd wr ft : Int32) (zi : Nat) (hi : zi < 32) : CI l yX0_resultByte wsX0_resultByte 0 0 G cA tF tC g 13 sz (xW g cA N D R F KD KR FL SU WO ln kp rd wr ft) [.ref (g 2), .int (nI zi)] (fun (u : Unit) => xW g cA N D R F KD KR FL SU WO ln kp rd wr ft) (fun r _ => r = hby SU zi) := by
  refine x_entryI (cc := cX0_resultByte) (maxL := 2) (by decide) rfl (fun _ => rfl) (Nat.le_of_ble_eq_true rfl) ?_
  intro p e s m args below meth c Q hx hb hml hown hts hK hP hD hS hT hret ls hl
  have hown : s.vm.findClass RX0 = some m.cls := hown
  have hl : lv_has ls 2 [(0, .ref (g 2)), (1, .int (nI zi))] := hl
  have hinX0 : ∀ w ∈ wsX00, w ∈ wsX0_resultByte := by decide +kernel
  refine lv_aload_n hx hb dX0_resultByte_0 rfl (lv_at hl 0 rfl) ?_
  refine va_get (D := G) (ci := 0) (v := .ref (g 11)) (C := RX0) (T := TX0) (N := 3) hx hb hts hinX0 hown hK hP 2 rfl rfl 0 (by decide) (hts (.fieldLink RX0 9 "SealedPages$Hasher" "sums" "[I") (by decide +kernel)) (fun _ h => h) rfl dX0_resultByte_1 ?_
  refine lv_iload_n hx hb dX0_resultByte_4 rfl (lv_at hl 1 rfl) ?_
  refine lv_iconst (v := 2) hx hb dX0_resultByte_5 (by decide) ?_
  refine lv_ishr hx hb dX0_resultByte_6 ?_
  refine x_eqi (y := nI (zi / 4)) (pk_shrN (n := zi) (by omega) _ 2 (by decide)) ?_
  refine lv_bipush (v := 7) hx hb dX0_resultByte_7 (by decide) ?_
  refine lv_iand hx hb dX0_resultByte_9 ?_
  refine x_eqi (y := nI (zi / 4)) (by rw [pk_andN (by omega) 3 (by decide), show zi / 4 % 2 ^ 3 = zi / 4 by omega]) ?_
  refine x_ald (i := zi / 4) hx hb hK hP 11 0 rfl rfl (by omega) (by decide) dX0_resultByte_10 ?_
  refine lv_bipush (v := 24) hx hb dX0_resultByte_11 (by decide) ?_
  refine lv_bipush (v := 8) hx hb dX0_resultByte_13 (by decide) ?_
  refine lv_iload_n hx hb dX0_resultByte_15 rfl (lv_at hl 1 rfl) ?_
  refine lv_iconst (v := 3) hx hb dX0_resultByte_16 (by decide) ?_
  refine lv_iand hx hb dX0_resultByte_17 ?_
  refine x_eqi (y := nI (zi % 4)) (pk_andN (n := zi) (by omega) 2 (by decide)) ?_
  refine lv_imul hx hb dX0_resultByte_18 ?_
  refine x_eqi (y := nI (8 * (zi % 4))) (pk_mul 8 (zi % 4)) ?_
  refine lv_isub hx hb dX0_resultByte_19 ?_
  refine x_eqi (y := nI (24 - (8 * (zi % 4)))) (pk_sub (a := 24) (b := 8 * (zi % 4)) (by omega)) ?_
  refine lv_iushr (v := us (SU (zi / 4)) (nI (24 - (8 * (zi % 4))))) hx hb dX0_resultByte_20 rfl ?_
  refine lv_sipush (v := 255) hx hb dX0_resultByte_21 (by decide) ?_
  refine lv_iand hx hb dX0_resultByte_24 ?_
  exact hret _ () _ _ _ _ dX0_resultByte_25 hP hD hS rfl

set_option maxHeartbeats 4000000 in
set_option maxRecDepth 100000 in
/-- is the hash there -/
theorem c_X0_resultIsAt_D (l : Launch) (G : va_G) (cA : ClassId) (tF tC : Nat) (g : Nat → Nat) (sz N : Nat) (hN : 1 ≤ N ∧ N ≤ 64) (D R F KD KR FL SU WO : Nat → Int32) (ln kp rd wr ft : Int32) (za : Nat) (ha : za + 32 ≤ siz N) : CI l yX0_resultIsAt wsX0_resultIsAt 1 21 G cA tF tC g 13 sz (xW g cA N D R F KD KR FL SU WO ln kp rd wr ft) [.ref (g 2), .ref (g 3), .int (nI za)] (fun (u : Unit) => xW g cA N D R F KD KR FL SU WO ln kp rd wr ft) (fun r _ => r = bI (eqN (fun zi => D (za + zi)) (hby SU) 32)) := by
  refine x_entryZ (cc := cX0_resultIsAt) (maxL := 4) (by decide) rfl (fun _ => rfl) (Nat.le_of_ble_eq_true rfl) ?_
  intro p e s m args below meth c Q hx hb hml hown hts hK hP hD hS hT hret ls hl
  have hown : s.vm.findClass RX0 = some m.cls := hown
  have hl : lv_has ls 4 [(0, .ref (g 2)), (1, .ref (g 3)), (2, .int (nI za))] := hl
  have hz := siz_le hN
  refine lv_iconst (v := 0) hx hb dX0_resultIsAt_0 (by decide) ?_
  refine lv_istore_n (lv' := [(3, .int 0), (0, .ref (g 2)), (1, .ref (g 3)), (2, .int (nI za))]) hx hb dX0_resultIsAt_1 rfl hl (by decide) rfl (fun ls hl => ?_)
  have loop_2 : ∀ (n_2 : Nat) (zi : Nat), (32 - zi) < n_2 → zi ≤ 32 → eqN (fun zi => D (za + zi)) (hby SU) zi = true → ∀ (H : Heap) (locs : List Loc) (ls : Array Slot), va_P G vwCl (xW g cA N D R F KD KR FL SU WO ln kp rd wr ft) H → va_D (wA g 13 s.heap.size) (xW g cA N D R F KD KR FL SU WO ln kp rd wr ft) → va_S (wA g 13 s.heap.size) s.heap H locs → lv_has ls 4 [(0, .ref (g 2)), (1, .ref (g 3)), (2, .int (nI za)), (3, .int (nI zi))] → W p l e { frames := 1, cells := 0, slots := 0, locals := 21 } s m args below meth c H locs 0 0 Q (F0 m 2 ls []) := by
    intro n_2
    induction n_2 with
    | zero => intro zi hm_2; exact absurd hm_2 (Nat.not_lt_zero _)
    | succ n_2 ih_2 =>
      intro zi hm_2 hi he H locs ls hP hD hS hl
      refine lv_iload_n hx hb dX0_resultIsAt_2 rfl (lv_at hl 3 rfl) ?_
      refine lv_bipush (v := 32) hx hb dX0_resultIsAt_3 (by decide) ?_
      refine lv_icmp_ge (tgt := 29) hx hb dX0_resultIsAt_5 (by decide) (fun c_1 => ?_) (fun c_1 => ?_)
      · skip
        have c_1 : 32 ≤ zi := (nI_leI (a := 32) (b := zi) (by omega) (by omega)).mp c_1
        obtain rfl : zi = 32 := by omega
        have hl : lv_has ls 4 [(0, .ref (g 2)), (1, .ref (g 3)), (2, .int (nI za)), (3, .int (nI 32))] := hl
        refine lv_iconst (v := 1) hx hb dX0_resultIsAt_29 (by decide) ?_
        exact hret _ () _ _ _ _ dX0_resultIsAt_30 hP hD hS rfl (by rw [he]; rfl)
      · skip
        have c_1 : ¬ 32 ≤ zi := fun z => c_1 ((nI_leI (a := 32) (b := zi) (by omega) (by omega)).mpr z)
        refine lv_aload_n hx hb dX0_resultIsAt_8 rfl (lv_at hl 1 rfl) ?_
        refine lv_iload_n hx hb dX0_resultIsAt_9 rfl (lv_at hl 2 rfl) ?_
        refine lv_iload_n hx hb dX0_resultIsAt_10 rfl (lv_at hl 3 rfl) ?_
        refine lv_iadd hx hb dX0_resultIsAt_11 ?_
        refine x_eqi (y := nI (za + zi)) (nI_add za zi) ?_
        refine x_ald (i := za + zi) hx hb hK hP 3 0 rfl rfl (by omega) (by have := siz_le hN; have := nds_le hN; omega) dX0_resultIsAt_12 ?_
        refine lv_aload_n hx hb dX0_resultIsAt_13 rfl (lv_at hl 0 rfl) ?_
        refine lv_iload_n hx hb dX0_resultIsAt_14 rfl (lv_at hl 3 rfl) ?_
        refine x_vi ⟨hx, hb, hml, hown, hts⟩ (c_X0_resultByte l G cA tF tC g _ N hN D R F KD KR FL SU WO ln kp rd wr ft zi (by omega)) (cwV 1 hts gX0_resultIsAt_X0_resultByte rfl rfl rfl (by decide +kernel) ⟨Nat.le_of_ble_eq_true rfl, Nat.le_of_ble_eq_true rfl⟩) hK hP hD hS hT rfl 2 0 rfl rfl rfl hl.1 rfl (Nat.le_of_ble_eq_true rfl) dX0_resultIsAt_15 ⟨Nat.le_refl _, Nat.le_refl _⟩ (fun r_3 u H locs hp_2 hP hD hS => ?_)
        have hP : va_P G vwCl (xW g cA N D R F KD KR FL SU WO ln kp rd wr ft) _ := hP
        have hD : va_D _ (xW g cA N D R F KD KR FL SU WO ln kp rd wr ft) := hD
        have hp_2 : r_3 = hby SU zi := hp_2
        subst hp_2
        refine lv_icmp_eq (tgt := 23) hx hb dX0_resultIsAt_18 (by decide) (fun c_4 => ?_) (fun c_4 => ?_)
        · skip
          have hc := c_4
          refine lv_iinc (v := nI (zi + 1)) (lv' := [(3, .int (nI (zi + 1))), (0, .ref (g 2)), (1, .ref (g 3)), (2, .int (nI za))]) hx hb dX0_resultIsAt_23 hl (k := 3) rfl (nI_1 _) (by decide) rfl (fun ls hl => ?_)
          refine lv_goto (tgt := 2) hx hb dX0_resultIsAt_26 (by decide) ?_
          exact ih_2 (zi + 1) (by omega) (by omega) (by rw [eqN_s, he]; simp [hc]) _ _ _ hP hD hS (lv_sub hl [1, 2, 3, 0] rfl)
        · skip
          have hc := c_4
          refine lv_iconst (v := 0) hx hb dX0_resultIsAt_21 (by decide) ?_
          exact hret _ () _ _ _ _ dX0_resultIsAt_22 hP hD hS rfl (by rw [eqN_no (f := fun zi => D (za + zi)) (h := hby SU) hc (show zi < 32 by omega)]; rfl)
  exact loop_2 _ 0 (Nat.lt_succ_self _) (by omega) rfl _ _ _ hP hD hS (lv_sub hl [1, 2, 3, 0] rfl)

set_option maxHeartbeats 4000000 in
set_option maxRecDepth 100000 in
/-- the hash is laid there -/
theorem c_X0_copyResult_D (l : Launch) (G : va_G) (cA : ClassId) (tF tC : Nat) (g : Nat → Nat) (sz N : Nat) (hN : 1 ≤ N ∧ N ≤ 64) (D R F KD KR FL SU WO : Nat → Int32) (ln kp rd wr ft : Int32) (za : Nat) (ha : za + 32 ≤ siz N) : CV l yX0_copyResult wsX0_copyResult 1 21 G cA tF tC g 13 sz (xW g cA N D R F KD KR FL SU WO ln kp rd wr ft) [.ref (g 2), .ref (g 3), .int (nI za)] (fun (u : Unit) => xW g cA N (va_cpy (hby SU) D 0 za 32) R F KD KR FL SU WO ln kp rd wr ft) (fun _ => True) := by
  refine x_entryV (cc := cX0_copyResult) (maxL := 4) (by decide) rfl (fun _ => rfl) (Nat.le_of_ble_eq_true rfl) ?_
  intro p e s m args below meth c Q hx hb hml hown hts hK hP hD hS hT hret ls hl
  have hown : s.vm.findClass RX0 = some m.cls := hown
  have hl : lv_has ls 4 [(0, .ref (g 2)), (1, .ref (g 3)), (2, .int (nI za))] := hl
  have hz := siz_le hN
  refine lv_iconst (v := 0) hx hb dX0_copyResult_0 (by decide) ?_
  refine lv_istore_n (lv' := [(3, .int 0), (0, .ref (g 2)), (1, .ref (g 3)), (2, .int (nI za))]) hx hb dX0_copyResult_1 rfl hl (by decide) rfl (fun ls hl => ?_)
  have loop_2 : ∀ (n_2 : Nat) (zi : Nat), (32 - zi) < n_2 → zi ≤ 32 → ∀ (H : Heap) (locs : List Loc) (ls : Array Slot), va_P G vwCl (xW g cA N (va_cpy (hby SU) D 0 za zi) R F KD KR FL SU WO ln kp rd wr ft) H → va_D (wA g 13 s.heap.size) (xW g cA N (va_cpy (hby SU) D 0 za zi) R F KD KR FL SU WO ln kp rd wr ft) → va_S (wA g 13 s.heap.size) s.heap H locs → lv_has ls 4 [(0, .ref (g 2)), (1, .ref (g 3)), (2, .int (nI za)), (3, .int (nI zi))] → W p l e { frames := 1, cells := 0, slots := 0, locals := 21 } s m args below meth c H locs 0 0 Q (F0 m 2 ls []) := by
    intro n_2
    induction n_2 with
    | zero => intro zi hm_2; exact absurd hm_2 (Nat.not_lt_zero _)
    | succ n_2 ih_2 =>
      intro zi hm_2 hi H locs ls hP hD hS hl
      refine lv_iload_n hx hb dX0_copyResult_2 rfl (lv_at hl 3 rfl) ?_
      refine lv_bipush (v := 32) hx hb dX0_copyResult_3 (by decide) ?_
      refine lv_icmp_ge (tgt := 24) hx hb dX0_copyResult_5 (by decide) (fun c_1 => ?_) (fun c_1 => ?_)
      · skip
        have c_1 : 32 ≤ zi := (nI_leI (a := 32) (b := zi) (by omega) (by omega)).mp c_1
        obtain rfl : zi = 32 := by omega
        have hl : lv_has ls 4 [(0, .ref (g 2)), (1, .ref (g 3)), (2, .int (nI za)), (3, .int (nI 32))] := hl
        exact hret () _ _ _ _ dX0_copyResult_24 hP hD hS trivial
      · skip
        have c_1 : ¬ 32 ≤ zi := fun z => c_1 ((nI_leI (a := 32) (b := zi) (by omega) (by omega)).mpr z)
        refine lv_aload_n hx hb dX0_copyResult_8 rfl (lv_at hl 1 rfl) ?_
        refine lv_iload_n hx hb dX0_copyResult_9 rfl (lv_at hl 2 rfl) ?_
        refine lv_iload_n hx hb dX0_copyResult_10 rfl (lv_at hl 3 rfl) ?_
        refine lv_iadd hx hb dX0_copyResult_11 ?_
        refine x_eqi (y := nI (za + zi)) (nI_add za zi) ?_
        refine lv_aload_n hx hb dX0_copyResult_12 rfl (lv_at hl 0 rfl) ?_
        refine lv_iload_n hx hb dX0_copyResult_13 rfl (lv_at hl 3 rfl) ?_
        refine x_vi ⟨hx, hb, hml, hown, hts⟩ (c_X0_resultByte l G cA tF tC g _ N hN (va_cpy (hby SU) D 0 za zi) R F KD KR FL SU WO ln kp rd wr ft zi (by omega)) (cwV 1 hts gX0_copyResult_X0_resultByte rfl rfl rfl (by decide +kernel) ⟨Nat.le_of_ble_eq_true rfl, Nat.le_of_ble_eq_true rfl⟩) hK hP hD hS hT rfl 2 0 rfl rfl rfl hl.1 rfl (Nat.le_of_ble_eq_true rfl) dX0_copyResult_14 ⟨Nat.le_refl _, Nat.le_refl _⟩ (fun r_3 u H locs hp_2 hP hD hS => ?_)
        have hP : va_P G vwCl (xW g cA N (va_cpy (hby SU) D 0 za zi) R F KD KR FL SU WO ln kp rd wr ft) _ := hP
        have hD : va_D _ (xW g cA N (va_cpy (hby SU) D 0 za zi) R F KD KR FL SU WO ln kp rd wr ft) := hD
        have hp_2 : r_3 = hby SU zi := hp_2
        subst hp_2
        refine x_ast (i := za + zi) hx hb hK hP hD hS 3 0 rfl rfl (by omega) (by have := siz_le hN; have := nds_le hN; omega) dX0_copyResult_17 (fun H locs hP hD hS => ?_)
        have hP : va_P G vwCl (xW g cA N (upd (va_cpy (hby SU) D 0 za zi) (za + zi) (hby SU zi)) R F KD KR FL SU WO ln kp rd wr ft) _ := hP
        have hD : va_D _ (xW g cA N (upd (va_cpy (hby SU) D 0 za zi) (za + zi) (hby SU zi)) R F KD KR FL SU WO ln kp rd wr ft) := hD
        have ec_4 : upd (va_cpy (hby SU) D 0 za zi) (za + zi) (hby SU zi) = va_cpy (hby SU) D 0 za (zi + 1) := by have h := cpy_s (hby SU) D 0 za zi; rwa [Nat.zero_add] at h
        rw [ec_4] at hP hD
        refine lv_iinc (v := nI (zi + 1)) (lv' := [(3, .int (nI (zi + 1))), (0, .ref (g 2)), (1, .ref (g 3)), (2, .int (nI za))]) hx hb dX0_copyResult_18 hl (k := 3) rfl (nI_1 _) (by decide) rfl (fun ls hl => ?_)
        refine lv_goto (tgt := 2) hx hb dX0_copyResult_21 (by decide) ?_
        exact ih_2 (zi + 1) (by omega) (by omega) _ _ _ hP hD hS (lv_sub hl [1, 2, 3, 0] rfl)
  rw [← cpy_0 (hby SU) D 0 za] at hP hD
  exact loop_2 _ 0 (Nat.lt_succ_self _) (by omega) _ _ _ hP hD hS (lv_sub hl [1, 2, 3, 0] rfl)

set_option maxHeartbeats 4000000 in
set_option maxRecDepth 100000 in
/-- is the hash there -/
theorem c_X0_resultIsAt_R (l : Launch) (G : va_G) (cA : ClassId) (tF tC : Nat) (g : Nat → Nat) (sz N : Nat) (hN : 1 ≤ N ∧ N ≤ 64) (D R F KD KR FL SU WO : Nat → Int32) (ln kp rd wr ft : Int32) (za : Nat) (ha : za + 32 ≤ 32) : CI l yX0_resultIsAt wsX0_resultIsAt 1 21 G cA tF tC g 13 sz (xW g cA N D R F KD KR FL SU WO ln kp rd wr ft) [.ref (g 2), .ref (g 4), .int (nI za)] (fun (u : Unit) => xW g cA N D R F KD KR FL SU WO ln kp rd wr ft) (fun r _ => r = bI (eqN (fun zi => R (za + zi)) (hby SU) 32)) := by
  refine x_entryZ (cc := cX0_resultIsAt) (maxL := 4) (by decide) rfl (fun _ => rfl) (Nat.le_of_ble_eq_true rfl) ?_
  intro p e s m args below meth c Q hx hb hml hown hts hK hP hD hS hT hret ls hl
  have hown : s.vm.findClass RX0 = some m.cls := hown
  have hl : lv_has ls 4 [(0, .ref (g 2)), (1, .ref (g 4)), (2, .int (nI za))] := hl
  have hz := siz_le hN
  refine lv_iconst (v := 0) hx hb dX0_resultIsAt_0 (by decide) ?_
  refine lv_istore_n (lv' := [(3, .int 0), (0, .ref (g 2)), (1, .ref (g 4)), (2, .int (nI za))]) hx hb dX0_resultIsAt_1 rfl hl (by decide) rfl (fun ls hl => ?_)
  have loop_2 : ∀ (n_2 : Nat) (zi : Nat), (32 - zi) < n_2 → zi ≤ 32 → eqN (fun zi => R (za + zi)) (hby SU) zi = true → ∀ (H : Heap) (locs : List Loc) (ls : Array Slot), va_P G vwCl (xW g cA N D R F KD KR FL SU WO ln kp rd wr ft) H → va_D (wA g 13 s.heap.size) (xW g cA N D R F KD KR FL SU WO ln kp rd wr ft) → va_S (wA g 13 s.heap.size) s.heap H locs → lv_has ls 4 [(0, .ref (g 2)), (1, .ref (g 4)), (2, .int (nI za)), (3, .int (nI zi))] → W p l e { frames := 1, cells := 0, slots := 0, locals := 21 } s m args below meth c H locs 0 0 Q (F0 m 2 ls []) := by
    intro n_2
    induction n_2 with
    | zero => intro zi hm_2; exact absurd hm_2 (Nat.not_lt_zero _)
    | succ n_2 ih_2 =>
      intro zi hm_2 hi he H locs ls hP hD hS hl
      refine lv_iload_n hx hb dX0_resultIsAt_2 rfl (lv_at hl 3 rfl) ?_
      refine lv_bipush (v := 32) hx hb dX0_resultIsAt_3 (by decide) ?_
      refine lv_icmp_ge (tgt := 29) hx hb dX0_resultIsAt_5 (by decide) (fun c_1 => ?_) (fun c_1 => ?_)
      · skip
        have c_1 : 32 ≤ zi := (nI_leI (a := 32) (b := zi) (by omega) (by omega)).mp c_1
        obtain rfl : zi = 32 := by omega
        have hl : lv_has ls 4 [(0, .ref (g 2)), (1, .ref (g 4)), (2, .int (nI za)), (3, .int (nI 32))] := hl
        refine lv_iconst (v := 1) hx hb dX0_resultIsAt_29 (by decide) ?_
        exact hret _ () _ _ _ _ dX0_resultIsAt_30 hP hD hS rfl (by rw [he]; rfl)
      · skip
        have c_1 : ¬ 32 ≤ zi := fun z => c_1 ((nI_leI (a := 32) (b := zi) (by omega) (by omega)).mpr z)
        refine lv_aload_n hx hb dX0_resultIsAt_8 rfl (lv_at hl 1 rfl) ?_
        refine lv_iload_n hx hb dX0_resultIsAt_9 rfl (lv_at hl 2 rfl) ?_
        refine lv_iload_n hx hb dX0_resultIsAt_10 rfl (lv_at hl 3 rfl) ?_
        refine lv_iadd hx hb dX0_resultIsAt_11 ?_
        refine x_eqi (y := nI (za + zi)) (nI_add za zi) ?_
        refine x_ald (i := za + zi) hx hb hK hP 4 0 rfl rfl (by omega) (by decide) dX0_resultIsAt_12 ?_
        refine lv_aload_n hx hb dX0_resultIsAt_13 rfl (lv_at hl 0 rfl) ?_
        refine lv_iload_n hx hb dX0_resultIsAt_14 rfl (lv_at hl 3 rfl) ?_
        refine x_vi ⟨hx, hb, hml, hown, hts⟩ (c_X0_resultByte l G cA tF tC g _ N hN D R F KD KR FL SU WO ln kp rd wr ft zi (by omega)) (cwV 1 hts gX0_resultIsAt_X0_resultByte rfl rfl rfl (by decide +kernel) ⟨Nat.le_of_ble_eq_true rfl, Nat.le_of_ble_eq_true rfl⟩) hK hP hD hS hT rfl 2 0 rfl rfl rfl hl.1 rfl (Nat.le_of_ble_eq_true rfl) dX0_resultIsAt_15 ⟨Nat.le_refl _, Nat.le_refl _⟩ (fun r_3 u H locs hp_2 hP hD hS => ?_)
        have hP : va_P G vwCl (xW g cA N D R F KD KR FL SU WO ln kp rd wr ft) _ := hP
        have hD : va_D _ (xW g cA N D R F KD KR FL SU WO ln kp rd wr ft) := hD
        have hp_2 : r_3 = hby SU zi := hp_2
        subst hp_2
        refine lv_icmp_eq (tgt := 23) hx hb dX0_resultIsAt_18 (by decide) (fun c_4 => ?_) (fun c_4 => ?_)
        · skip
          have hc := c_4
          refine lv_iinc (v := nI (zi + 1)) (lv' := [(3, .int (nI (zi + 1))), (0, .ref (g 2)), (1, .ref (g 4)), (2, .int (nI za))]) hx hb dX0_resultIsAt_23 hl (k := 3) rfl (nI_1 _) (by decide) rfl (fun ls hl => ?_)
          refine lv_goto (tgt := 2) hx hb dX0_resultIsAt_26 (by decide) ?_
          exact ih_2 (zi + 1) (by omega) (by omega) (by rw [eqN_s, he]; simp [hc]) _ _ _ hP hD hS (lv_sub hl [1, 2, 3, 0] rfl)
        · skip
          have hc := c_4
          refine lv_iconst (v := 0) hx hb dX0_resultIsAt_21 (by decide) ?_
          exact hret _ () _ _ _ _ dX0_resultIsAt_22 hP hD hS rfl (by rw [eqN_no (f := fun zi => R (za + zi)) (h := hby SU) hc (show zi < 32 by omega)]; rfl)
  exact loop_2 _ 0 (Nat.lt_succ_self _) (by omega) rfl _ _ _ hP hD hS (lv_sub hl [1, 2, 3, 0] rfl)

set_option maxHeartbeats 4000000 in
set_option maxRecDepth 100000 in
/-- the hash is laid there -/
theorem c_X0_copyResult_R (l : Launch) (G : va_G) (cA : ClassId) (tF tC : Nat) (g : Nat → Nat) (sz N : Nat) (hN : 1 ≤ N ∧ N ≤ 64) (D R F KD KR FL SU WO : Nat → Int32) (ln kp rd wr ft : Int32) (za : Nat) (ha : za + 32 ≤ 32) : CV l yX0_copyResult wsX0_copyResult 1 21 G cA tF tC g 13 sz (xW g cA N D R F KD KR FL SU WO ln kp rd wr ft) [.ref (g 2), .ref (g 4), .int (nI za)] (fun (u : Unit) => xW g cA N D (va_cpy (hby SU) R 0 za 32) F KD KR FL SU WO ln kp rd wr ft) (fun _ => True) := by
  refine x_entryV (cc := cX0_copyResult) (maxL := 4) (by decide) rfl (fun _ => rfl) (Nat.le_of_ble_eq_true rfl) ?_
  intro p e s m args below meth c Q hx hb hml hown hts hK hP hD hS hT hret ls hl
  have hown : s.vm.findClass RX0 = some m.cls := hown
  have hl : lv_has ls 4 [(0, .ref (g 2)), (1, .ref (g 4)), (2, .int (nI za))] := hl
  have hz := siz_le hN
  refine lv_iconst (v := 0) hx hb dX0_copyResult_0 (by decide) ?_
  refine lv_istore_n (lv' := [(3, .int 0), (0, .ref (g 2)), (1, .ref (g 4)), (2, .int (nI za))]) hx hb dX0_copyResult_1 rfl hl (by decide) rfl (fun ls hl => ?_)
  have loop_2 : ∀ (n_2 : Nat) (zi : Nat), (32 - zi) < n_2 → zi ≤ 32 → ∀ (H : Heap) (locs : List Loc) (ls : Array Slot), va_P G vwCl (xW g cA N D (va_cpy (hby SU) R 0 za zi) F KD KR FL SU WO ln kp rd wr ft) H → va_D (wA g 13 s.heap.size) (xW g cA N D (va_cpy (hby SU) R 0 za zi) F KD KR FL SU WO ln kp rd wr ft) → va_S (wA g 13 s.heap.size) s.heap H locs → lv_has ls 4 [(0, .ref (g 2)), (1, .ref (g 4)), (2, .int (nI za)), (3, .int (nI zi))] → W p l e { frames := 1, cells := 0, slots := 0, locals := 21 } s m args below meth c H locs 0 0 Q (F0 m 2 ls []) := by
    intro n_2
    induction n_2 with
    | zero => intro zi hm_2; exact absurd hm_2 (Nat.not_lt_zero _)
    | succ n_2 ih_2 =>
      intro zi hm_2 hi H locs ls hP hD hS hl
      refine lv_iload_n hx hb dX0_copyResult_2 rfl (lv_at hl 3 rfl) ?_
      refine lv_bipush (v := 32) hx hb dX0_copyResult_3 (by decide) ?_
      refine lv_icmp_ge (tgt := 24) hx hb dX0_copyResult_5 (by decide) (fun c_1 => ?_) (fun c_1 => ?_)
      · skip
        have c_1 : 32 ≤ zi := (nI_leI (a := 32) (b := zi) (by omega) (by omega)).mp c_1
        obtain rfl : zi = 32 := by omega
        have hl : lv_has ls 4 [(0, .ref (g 2)), (1, .ref (g 4)), (2, .int (nI za)), (3, .int (nI 32))] := hl
        exact hret () _ _ _ _ dX0_copyResult_24 hP hD hS trivial
      · skip
        have c_1 : ¬ 32 ≤ zi := fun z => c_1 ((nI_leI (a := 32) (b := zi) (by omega) (by omega)).mpr z)
        refine lv_aload_n hx hb dX0_copyResult_8 rfl (lv_at hl 1 rfl) ?_
        refine lv_iload_n hx hb dX0_copyResult_9 rfl (lv_at hl 2 rfl) ?_
        refine lv_iload_n hx hb dX0_copyResult_10 rfl (lv_at hl 3 rfl) ?_
        refine lv_iadd hx hb dX0_copyResult_11 ?_
        refine x_eqi (y := nI (za + zi)) (nI_add za zi) ?_
        refine lv_aload_n hx hb dX0_copyResult_12 rfl (lv_at hl 0 rfl) ?_
        refine lv_iload_n hx hb dX0_copyResult_13 rfl (lv_at hl 3 rfl) ?_
        refine x_vi ⟨hx, hb, hml, hown, hts⟩ (c_X0_resultByte l G cA tF tC g _ N hN D (va_cpy (hby SU) R 0 za zi) F KD KR FL SU WO ln kp rd wr ft zi (by omega)) (cwV 1 hts gX0_copyResult_X0_resultByte rfl rfl rfl (by decide +kernel) ⟨Nat.le_of_ble_eq_true rfl, Nat.le_of_ble_eq_true rfl⟩) hK hP hD hS hT rfl 2 0 rfl rfl rfl hl.1 rfl (Nat.le_of_ble_eq_true rfl) dX0_copyResult_14 ⟨Nat.le_refl _, Nat.le_refl _⟩ (fun r_3 u H locs hp_2 hP hD hS => ?_)
        have hP : va_P G vwCl (xW g cA N D (va_cpy (hby SU) R 0 za zi) F KD KR FL SU WO ln kp rd wr ft) _ := hP
        have hD : va_D _ (xW g cA N D (va_cpy (hby SU) R 0 za zi) F KD KR FL SU WO ln kp rd wr ft) := hD
        have hp_2 : r_3 = hby SU zi := hp_2
        subst hp_2
        refine x_ast (i := za + zi) hx hb hK hP hD hS 4 0 rfl rfl (by omega) (by decide) dX0_copyResult_17 (fun H locs hP hD hS => ?_)
        have hP : va_P G vwCl (xW g cA N D (upd (va_cpy (hby SU) R 0 za zi) (za + zi) (hby SU zi)) F KD KR FL SU WO ln kp rd wr ft) _ := hP
        have hD : va_D _ (xW g cA N D (upd (va_cpy (hby SU) R 0 za zi) (za + zi) (hby SU zi)) F KD KR FL SU WO ln kp rd wr ft) := hD
        have ec_4 : upd (va_cpy (hby SU) R 0 za zi) (za + zi) (hby SU zi) = va_cpy (hby SU) R 0 za (zi + 1) := by have h := cpy_s (hby SU) R 0 za zi; rwa [Nat.zero_add] at h
        rw [ec_4] at hP hD
        refine lv_iinc (v := nI (zi + 1)) (lv' := [(3, .int (nI (zi + 1))), (0, .ref (g 2)), (1, .ref (g 4)), (2, .int (nI za))]) hx hb dX0_copyResult_18 hl (k := 3) rfl (nI_1 _) (by decide) rfl (fun ls hl => ?_)
        refine lv_goto (tgt := 2) hx hb dX0_copyResult_21 (by decide) ?_
        exact ih_2 (zi + 1) (by omega) (by omega) _ _ _ hP hD hS (lv_sub hl [1, 2, 3, 0] rfl)
  rw [← cpy_0 (hby SU) R 0 za] at hP hD
  exact loop_2 _ 0 (Nat.lt_succ_self _) (by omega) _ _ _ hP hD hS (lv_sub hl [1, 2, 3, 0] rfl)
end
section
/-! what each call answers and changes, as functions: the same for the class and for the reference -/
def inB (x : Int32) (n : Nat) : Int32 := if 0 ≤ x.toInt ∧ x.toInt < n then 1 else 0
theorem inB_t {x : Int32} {n : Nat} (hn : n < 2 ^ 31) (h1 : ¬ x < 0) (h2 : ¬ nI n ≤ x) : inB x n = 1 := by
  rw [Int32.lt_iff_toInt_lt, Int32.toInt_zero] at h1
  rw [Int32.le_iff_toInt_le, nI_toInt hn] at h2
  unfold inB
  rw [if_pos (by omega)]
theorem inB_f1 {x : Int32} {n : Nat} (h1 : x < 0) : inB x n = 0 := by
  rw [Int32.lt_iff_toInt_lt, Int32.toInt_zero] at h1
  unfold inB
  rw [if_neg (by omega)]
theorem inB_f2 {x : Int32} {n : Nat} (hn : n < 2 ^ 31) (h2 : nI n ≤ x) : inB x n = 0 := by
  rw [Int32.le_iff_toInt_le, nI_toInt hn] at h2
  unfold inB
  rw [if_neg (by omega)]
theorem inB_1 {x : Int32} {n : Nat} (hn : n < 2 ^ 31) (h : ¬ inB x n = 0) : ∃ j : Nat, j < n ∧ x = nI j := by
  unfold inB at h
  by_cases c : 0 ≤ x.toInt ∧ x.toInt < n
  · exact vp_in_of (vp_in_iff.mpr c) hn
  · rw [if_neg c] at h
    exact absurd rfl h
theorem inB_n {j n : Nat} (hj : j < 2 ^ 31) : inB (nI j) n = if j < n then 1 else 0 := by
  unfold inB
  rw [nI_toInt hj]
  by_cases c : j < n
  · rw [if_pos c, if_pos (by omega)]
  · rw [if_neg c, if_neg (by omega)]
theorem inB_y {j n : Nat} (hj : j < n) (hn : n < 2 ^ 31) : inB (nI j) n = 1 := by rw [inB_n (by omega), if_pos hj]
theorem inB_nz {j n : Nat} (hj : j < n) (hn : n < 2 ^ 31) : ¬ inB (nI j) n = 0 := by rw [inB_y hj hn]; decide
theorem inB_01 (x : Int32) (n : Nat) : inB x n = 0 ∨ inB x n = 1 := by
  unfold inB
  split
  · exact Or.inr rfl
  · exact Or.inl rfl
theorem inB_z (x : Int32) (n : Nat) : narrow .boolean (.int (inB x n)) = .int (inB x n) := by
  rcases inB_01 x n with h | h <;> rw [h] <;> rfl
def inN (N : Nat) (x y : Int32) : Int32 := if inB x (lvs N) = 0 then 0 else inB y (nod N x.toNatClampNeg)
theorem inN_n {N l k : Nat} (hN : 1 ≤ N ∧ N ≤ 64) (hl : l < lvs N) (hk : k < 2 ^ 31) : inN N (nI l) (nI k) = if k < nod N l then 1 else 0 := by
  have h := lvs_in hN
  unfold inN
  rw [if_neg (inB_nz hl (by omega)), nI_clamp (by omega), inB_n hk]
theorem inN_o {N l : Nat} (hN : 1 ≤ N ∧ N ≤ 64) (hl : l < lvs N) (y : Int32) : inN N (nI l) y = inB y (nod N l) := by
  have h := lvs_in hN
  unfold inN
  rw [if_neg (inB_nz hl (by omega)), nI_clamp (by omega)]
theorem inN_0 {N : Nat} {x y : Int32} (h : inB x (lvs N) = 0) : inN N x y = 0 := by unfold inN; rw [if_pos h]
theorem inN_1 {N : Nat} {x y : Int32} (hN : 1 ≤ N ∧ N ≤ 64) (h : ¬ inN N x y = 0) : ∃ l k : Nat, l < lvs N ∧ k < nod N l ∧ x = nI l ∧ y = nI k := by
  have h1 := lvs_in hN
  by_cases c : inB x (lvs N) = 0
  · exact absurd (inN_0 c) h
  · obtain ⟨l, hl, rfl⟩ := inB_1 (by omega) c
    rw [inN_o hN hl] at h
    have h2 := nod_le N hN.1 l
    obtain ⟨k, hk, rfl⟩ := inB_1 (by omega) h
    exact ⟨l, k, hl, hk, rfl, rfl⟩
theorem inN_y {N l k : Nat} (hN : 1 ≤ N ∧ N ≤ 64) (hl : l < lvs N) (hk : k < nod N l) : ¬ inN N (nI l) (nI k) = 0 := by
  have h2 := nod_le N hN.1 l
  rw [inN_n hN hl (by omega), if_pos hk]
  decide
theorem inN_z (N : Nat) (x y : Int32) : narrow .boolean (.int (inN N x y)) = .int (inN N x y) := by
  unfold inN
  split
  · rfl
  · exact inB_z _ _
def a_put (F : Nat → Int32) (x : Int32) : Int32 := if inB x 64 = 0 then -1 else F x.toNatClampNeg
def s_put (F : Nat → Int32) (x v : Int32) : Nat → Int32 := if inB x 64 = 0 then F else upd F x.toNatClampNeg (v &&& 255)
def a_fill (x : Int32) : Int32 := if inB x 8 = 0 then -1 else nI (8 * x.toNatClampNeg)
def s_fill (F : Nat → Int32) (x : Int32) (v : Int64) : Nat → Int32 := if inB x 8 = 0 then F else filN F x.toNatClampNeg v 8
def a_at (F : Nat → Int32) (n : Nat) (x : Int32) : Int32 := if inB x n = 0 then -1 else F x.toNatClampNeg
def a_flt (N : Nat) (D R : Nat → Int32) (x : Int32) : Int32 := if inB x N = 0 then -1 else nI (flt N D R x.toNatClampNeg)
def s_rdF (N : Nat) (D R F : Nat → Int32) (x : Int32) : Nat → Int32 := if a_flt N D R x = 0 then va_cpy D F (8 + 64 * x.toNatClampNeg) 0 64 else F
def s_inc (N : Nat) (D R : Nat → Int32) (x n : Int32) : Int32 := if a_flt N D R x = 0 then n + 1 else n
def s_ft (N : Nat) (D R : Nat → Int32) (x n : Int32) : Int32 := if a_flt N D R x = 0 then n else if a_flt N D R x = -1 then n else n + 1
def s_wrD (N : Nat) (D R F : Nat → Int32) (x : Int32) : Nat → Int32 := if a_flt N D R x = 0 then sWay N (va_cpy F D 0 (8 + 64 * x.toNatClampNeg) 64) x.toNatClampNeg (lvs N) else D
def s_wrR (N : Nat) (D R F : Nat → Int32) (x : Int32) : Nat → Int32 := if a_flt N D R x = 0 then sRoot N (sWay N (va_cpy F D 0 (8 + 64 * x.toNatClampNeg) 64) x.toNatClampNeg (lvs N)) R else R
def s_alt (N : Nat) (D : Nat → Int32) (x v : Int32) : Nat → Int32 := if inB x (siz N) = 0 then D else upd D x.toNatClampNeg (D x.toNatClampNeg ^^^ (v &&& 255))
def carOk (N : Nat) (x y z : Int32) : Prop := 0 ≤ z.toInt ∧ 0 ≤ x.toInt ∧ 0 ≤ y.toInt ∧ x.toInt + z.toInt ≤ siz N ∧ y.toInt + z.toInt ≤ siz N
theorem carOk_dec (N : Nat) (x y z : Int32) : carOk N x y z ∨ ¬ carOk N x y z := by
  unfold carOk
  omega
def carB (N : Nat) (x y z : Int32) : Bool := decide (0 ≤ z.toInt) && decide (0 ≤ x.toInt) && decide (0 ≤ y.toInt) && decide (x.toInt + z.toInt ≤ siz N) && decide (y.toInt + z.toInt ≤ siz N)
theorem carB_iff (N : Nat) (x y z : Int32) : carB N x y z = true ↔ carOk N x y z := by
  unfold carB carOk
  simp only [Bool.and_eq_true, decide_eq_true_eq]
  constructor
  · rintro ⟨⟨⟨⟨h1, h2⟩, h3⟩, h4⟩, h5⟩
    exact ⟨h1, h2, h3, h4, h5⟩
  · rintro ⟨h1, h2, h3, h4, h5⟩
    exact ⟨⟨⟨⟨h1, h2⟩, h3⟩, h4⟩, h5⟩
def a_car (N : Nat) (x y z : Int32) : Int32 := if carB N x y z = true then z else -1
def s_car (N : Nat) (D : Nat → Int32) (x y z : Int32) : Nat → Int32 := if carB N x y z = true then va_cpy D D x.toNatClampNeg y.toNatClampNeg z.toNatClampNeg else D
def a_node (N : Nat) (x y : Int32) : Int32 := if inN N x y = 0 then -1 else nI (plc N x.toNatClampNeg y.toNatClampNeg)
def a_prf (N : Nat) (x : Int32) : Int32 := if inB x N = 0 then -1 else nI (prfN N x.toNatClampNeg (lvs N - 1))
def a_bes (N : Nat) (D : Nat → Int32) (x y z : Int32) : Int32 := if inB x N = 0 then -1 else if inB z 32 = 0 then -1 else if y < 0 then -1 else besN N D x.toNatClampNeg z.toNatClampNeg (lvs N - 1) 0 y.toNatClampNeg
def a_bak (N : Nat) (D KD : Nat → Int32) (kp : Int32) : Int32 := if kp = 0 then -1 else nI (difN D KD (siz N))
def s_bak (N : Nat) (D KD : Nat → Int32) (kp : Int32) : Nat → Int32 := if kp = 0 then D else va_cpy KD D 0 0 (siz N)
def s_opn (R KR : Nat → Int32) (kp : Int32) : Nat → Int32 := if kp = 0 then R else va_cpy KR R 0 0 32
def a_hsh (F : Nat → Int32) (x y : Int32) : Int32 := if inB x 65 = 0 then -1 else if inB y 32 = 0 then -1 else sha F x.toNatClampNeg y.toNatClampNeg
def a_told (N : Nat) (rd wr ft x : Int32) : Int32 := if x = 0 then nI N else if x = 1 then rd else if x = 2 then wr else if x = 3 then ft else -1
theorem a_at_0 {F : Nat → Int32} {n : Nat} {x : Int32} (h : inB x n = 0) : a_at F n x = -1 := by unfold a_at; rw [if_pos h]
theorem a_at_1 {F : Nat → Int32} {n j : Nat} (hj : j < n) (hn : n < 2 ^ 31) : a_at F n (nI j) = F j := by unfold a_at; rw [if_neg (inB_nz hj hn), nI_clamp (by omega)]
theorem a_flt_0 {N : Nat} {D R : Nat → Int32} {x : Int32} (h : inB x N = 0) : a_flt N D R x = -1 := by unfold a_flt; rw [if_pos h]
theorem a_flt_1 {N : Nat} {D R : Nat → Int32} {j : Nat} (hN : 1 ≤ N ∧ N ≤ 64) (hj : j < N) : a_flt N D R (nI j) = nI (flt N D R j) := by unfold a_flt; rw [if_neg (inB_nz hj (by omega)), nI_clamp (by omega)]
/-! rows for the walks of the class's methods -/
theorem hby_ag {st st' : Nat → Int32} (h : ag 8 st st') : ag 32 (hby st) (hby st') := by
  intro i hi
  unfold hby
  rw [h (i / 4) (by omega)]
theorem dec_1 (x : Int32) : x + Int32.ofInt (-1) = x - 1 := by
  rw [Int32.sub_eq_add_neg]
  rfl
theorem cpy_hC (SU : Nat → Int32) : ag 8 (va_cpy hC SU 0 0 8) hC := fun j hj => by rw [pk_cpy_in (by omega) (by omega)]; congr 1; omega
theorem msg_0 {D : Nat → Int32} {ql qk bs len : Nat} (h : 2 ≤ len) : pad (nmsg D ql qk bs) len 0 = nI ql := by rw [pad_in _ (by omega)]; rfl
theorem msg_1 {D : Nat → Int32} {ql qk bs len : Nat} (h : 2 ≤ len) : pad (nmsg D ql qk bs) len (0 + 1) = nI qk := by rw [pad_in _ (by omega)]; rfl
theorem msg_2 {D : Nat → Int32} {ql qk bs len q : Nat} (h : 2 + q < len) : pad (nmsg D ql qk bs) len (0 + 1 + 1 + q) = D (bs + q) := by
  rw [pad_in _ (by omega)]
  unfold nmsg
  rw [if_neg (by omega), if_neg (by omega)]
  congr 1
  omega
theorem nlen_0 (N qk : Nat) : nlen N 0 qk = 66 := rfl
theorem nlen_in (N ql qk : Nat) : nlen N ql qk = 66 ∨ nlen N ql qk = 34 := by
  unfold nlen
  split
  · exact Or.inl rfl
  · split
    · exact Or.inl rfl
    · exact Or.inr rfl
theorem nlen_2 {N ql qk : Nat} (h0 : ¬ ql = 0) (h : 2 * qk + 1 < nod N (ql - 1)) : nlen N ql qk = 66 := by unfold nlen; rw [if_neg h0, if_pos h]
theorem nlen_1 {N ql qk : Nat} (h0 : ¬ ql = 0) (h : ¬ 2 * qk + 1 < nod N (ql - 1)) : nlen N ql qk = 34 := by unfold nlen; rw [if_neg h0, if_neg h]
theorem nbas_0 (N qk : Nat) : nbas N 0 qk = 8 + 64 * qk := rfl
theorem nbas_1 {N ql qk : Nat} (h0 : ¬ ql = 0) : nbas N ql qk = plc N (ql - 1) (2 * qk) := by unfold nbas; rw [if_neg h0]
/-- the nodes below a node lie on the disk -/
theorem below_in {N ql qk : Nat} (hN : 1 ≤ N ∧ N ≤ 64) (h0 : ¬ ql = 0) (hl : ql < lvs N) (hk : qk < nod N ql) : 2 * qk < nod N (ql - 1) ∧ plc N (ql - 1) (2 * qk) + 32 ≤ siz N ∧ (2 * qk + 1 < nod N (ql - 1) → plc N (ql - 1) (2 * qk) + 64 ≤ siz N) := by
  obtain ⟨zl, rfl⟩ : ∃ zl, ql = zl + 1 := ⟨ql - 1, by omega⟩
  rw [Nat.add_sub_cancel]
  rw [nod_s] at hk
  have h1 : 2 * qk < nod N zl := by omega
  refine ⟨h1, plc_in hN (by omega) h1, fun h2 => ?_⟩
  have h3 := plc_in hN (show zl < lvs N by omega) h2
  unfold plc at h3 ⊢
  omega
theorem page_in {N p : Nat} (hp : p < N) : 8 + 64 * p + 64 ≤ siz N := by
  unfold siz
  omega
theorem rmsg_a {N : Nat} {D : Nat → Int32} {q : Nat} (h : q < 8) : pad (rmsg N D) 40 (0 + q) = D (0 + q) := by
  rw [pad_in _ (by omega)]
  unfold rmsg
  rw [if_pos (by omega)]
theorem rmsg_b {N : Nat} {D : Nat → Int32} {q : Nat} (h : q < 32) : pad (rmsg N D) 40 (0 + 8 + q) = D (plc N (lvs N - 1) 0 + q) := by
  rw [pad_in _ (by omega)]
  unfold rmsg
  rw [if_neg (by omega)]
  congr 1
  omega
theorem fltA_1 {N : Nat} {D R : Nat → Int32} (h : hok N D = false) : fltA N D R = 1 := by unfold fltA; rw [h]; rfl
theorem fltA_b {N : Nat} {D R : Nat → Int32} (h : hok N D = true) : fltA N D R = if rok N D R = true then 0 else 2 := by unfold fltA; rw [if_pos h]
def nf (N : Nat) (D : Nat → Int32) (l k : Nat) : Nat := if nok N D l k = true then 0 else 3 + l
theorem bI_0 {b : Bool} (h : bI b = 0) : b = false := by cases b with | false => rfl | true => exact absurd h (by decide)
theorem bI_1 {b : Bool} (h : ¬ bI b = 0) : b = true := by cases b with | true => rfl | false => exact absurd rfl h
theorem xor1 : ∀ q, q < 65 → q ^^^ 1 = if q % 2 = 0 then q + 1 else q - 1 := by decide +kernel
theorem sw_out {x : Int32} (h0 : ¬ x = 0) (h1 : ¬ x = 1) (h2 : ¬ x = 2) (h3 : ¬ x = 3) : x.toInt < 0 ∨ 3 < x.toInt := by
  have z0 : ¬ x.toInt = 0 := lv_neT h0 rfl
  have z1 : ¬ x.toInt = 1 := lv_neT h1 rfl
  have z2 : ¬ x.toInt = 2 := lv_neT h2 rfl
  have z3 : ¬ x.toInt = 3 := lv_neT h3 rfl
  omega
end
section
theorem dX2_surveyTree_22 : decode cX2_surveyTree 22 = .ok (.istore 4, 2) := by decide +kernel
theorem dX2_surveyTree_24 : decode cX2_surveyTree 24 = .ok (.iload 4, 2) := by decide +kernel
theorem dX2_surveyTree_26 : decode cX2_surveyTree 26 = .ok (.aload_n 0, 1) := by decide +kernel
theorem dX2_surveyTree_27 : decode cX2_surveyTree 27 = .ok (.getfield 23, 3) := by decide +kernel
theorem dX2_surveyTree_30 : decode cX2_surveyTree 30 = .ok (.getfield 161, 3) := by decide +kernel
theorem dX2_surveyTree_33 : decode cX2_surveyTree 33 = .ok (.iload_n 3, 1) := by decide +kernel
theorem dX2_surveyTree_34 : decode cX2_surveyTree 34 = .ok (.iaload, 1) := by decide +kernel
theorem dX2_surveyTree_35 : decode cX2_surveyTree 35 = .ok (.if_icmp .ge 71, 3) := by decide +kernel
theorem dX2_surveyTree_38 : decode cX2_surveyTree 38 = .ok (.iload_n 3, 1) := by decide +kernel
theorem dX2_surveyTree_39 : decode cX2_surveyTree 39 = .ok (.iload_n 2, 1) := by decide +kernel
theorem dX2_surveyTree_40 : decode cX2_surveyTree 40 = .ok (.if_icmp .ne 7, 3) := by decide +kernel
theorem dX2_surveyTree_43 : decode cX2_surveyTree 43 = .ok (.iload_n 1, 1) := by decide +kernel
theorem dX2_surveyTree_44 : decode cX2_surveyTree 44 = .ok (.goto 22, 3) := by decide +kernel
theorem dX2_surveyTree_47 : decode cX2_surveyTree 47 = .ok (.aload_n 0, 1) := by decide +kernel
theorem dX2_surveyTree_48 : decode cX2_surveyTree 48 = .ok (.getfield 57, 3) := by decide +kernel
theorem dX2_surveyTree_51 : decode cX2_surveyTree 51 = .ok (.aload_n 0, 1) := by decide +kernel
theorem dX2_surveyTree_52 : decode cX2_surveyTree 52 = .ok (.getfield 23, 3) := by decide +kernel
theorem dX2_surveyTree_55 : decode cX2_surveyTree 55 = .ok (.iload_n 3, 1) := by decide +kernel
theorem dX2_surveyTree_56 : decode cX2_surveyTree 56 = .ok (.iconst 1, 1) := by decide +kernel
theorem dX2_surveyTree_57 : decode cX2_surveyTree 57 = .ok (.iadd, 1) := by decide +kernel
theorem dX2_surveyTree_58 : decode cX2_surveyTree 58 = .ok (.iload 4, 2) := by decide +kernel
theorem dX2_surveyTree_60 : decode cX2_surveyTree 60 = .ok (.iconst 2, 1) := by decide +kernel
theorem dX2_surveyTree_61 : decode cX2_surveyTree 61 = .ok (.idiv, 1) := by decide +kernel
theorem dX2_surveyTree_62 : decode cX2_surveyTree 62 = .ok (.invokevirtual 112, 3) := by decide +kernel
theorem dX2_surveyTree_65 : decode cX2_surveyTree 65 = .ok (.iaload, 1) := by decide +kernel
theorem dX2_surveyTree_66 : decode cX2_surveyTree 66 = .ok (.istore 5, 2) := by decide +kernel
theorem dX2_surveyTree_68 : decode cX2_surveyTree 68 = .ok (.aload_n 0, 1) := by decide +kernel
theorem dX2_surveyTree_69 : decode cX2_surveyTree 69 = .ok (.getfield 57, 3) := by decide +kernel
theorem dX2_surveyTree_72 : decode cX2_surveyTree 72 = .ok (.aload_n 0, 1) := by decide +kernel
theorem dX2_surveyTree_73 : decode cX2_surveyTree 73 = .ok (.getfield 23, 3) := by decide +kernel
theorem dX2_surveyTree_76 : decode cX2_surveyTree 76 = .ok (.iload_n 3, 1) := by decide +kernel
theorem dX2_surveyTree_77 : decode cX2_surveyTree 77 = .ok (.iload 4, 2) := by decide +kernel
theorem dX2_surveyTree_79 : decode cX2_surveyTree 79 = .ok (.invokevirtual 112, 3) := by decide +kernel
theorem dX2_surveyTree_82 : decode cX2_surveyTree 82 = .ok (.iload 5, 2) := by decide +kernel
theorem dX2_surveyTree_84 : decode cX2_surveyTree 84 = .ok (.ifCond .eq 8, 3) := by decide +kernel
theorem dX2_surveyTree_87 : decode cX2_surveyTree 87 = .ok (.iload 5, 2) := by decide +kernel
theorem dX2_surveyTree_89 : decode cX2_surveyTree 89 = .ok (.goto 10, 3) := by decide +kernel
theorem dX2_surveyTree_92 : decode cX2_surveyTree 92 = .ok (.aload_n 0, 1) := by decide +kernel
theorem dX2_surveyTree_93 : decode cX2_surveyTree 93 = .ok (.iload_n 3, 1) := by decide +kernel
theorem dX2_surveyTree_94 : decode cX2_surveyTree 94 = .ok (.iload 4, 2) := by decide +kernel
theorem dX2_surveyTree_96 : decode cX2_surveyTree 96 = .ok (.invokevirtual 103, 3) := by decide +kernel
theorem dX2_surveyTree_99 : decode cX2_surveyTree 99 = .ok (.iastore, 1) := by decide +kernel
theorem dX2_surveyTree_100 : decode cX2_surveyTree 100 = .ok (.iinc 4 1, 3) := by decide +kernel
theorem dX2_surveyTree_103 : decode cX2_surveyTree 103 = .ok (.goto (-79), 3) := by decide +kernel
theorem dX2_surveyTree_106 : decode cX2_surveyTree 106 = .ok (.iinc 3 (-1), 3) := by decide +kernel
theorem dX2_surveyTree_109 : decode cX2_surveyTree 109 = .ok (.goto (-92), 3) := by decide +kernel
theorem dX2_surveyTree_112 : decode cX2_surveyTree 112 = .ok (.return_, 1) := by decide +kernel
set_option maxRecDepth 20000 in
theorem ggX2_sealNode_X2_hashNode : GoodIn wsX2_sealNode wsX2_hashNode := goodIn_r _ [8, 1, 2, 3, 9, 10, 11, 12, 13, 14, 15, 16, 17, 18, 19, 20, 21, 22, 23, 24, 25, 26, 27, 28, 29, 30, 31, 32, 33, 34, 35, 36, 37, 38, 39, 40, 41, 42, 43, 44, 45, 46, 47, 48, 49, 50, 51, 7, 52, 53, 54, 55, 56, 57, 58, 59, 60, 61, 62, 63, 64, 65, 66, 67, 76, 77, 78, 79, 80, 81, 82, 83, 84, 85, 86, 87, 88, 89, 90, 91, 92, 93, 94, 95, 96] (by decide +kernel) (by decide +kernel)
set_option maxRecDepth 20000 in
theorem gX2_sealNode_X2_hashNode : GoodIn wsX2_sealNode (wsV RX2 157 RX2 yX2_hashNode wsX2_hashNode) := goodIn_app (goodIn_of _ (by decide +kernel)) ggX2_sealNode_X2_hashNode
set_option maxRecDepth 20000 in
theorem ggX2_sealNode_X1_placeOfNode : GoodIn wsX2_sealNode wsX1_placeOfNode := goodIn_r _ [56, 57, 58, 59, 60, 38, 61, 62, 91, 92, 93, 94, 95, 96] (by decide +kernel) (by decide +kernel)
set_option maxRecDepth 20000 in
theorem gX2_sealNode_X1_placeOfNode : GoodIn wsX2_sealNode (wsV RX2 118 RX1 yX1_placeOfNode wsX1_placeOfNode) := goodIn_app (goodIn_of _ (by decide +kernel)) ggX2_sealNode_X1_placeOfNode
set_option maxRecDepth 20000 in
theorem ggX2_sealNode_X0_copyResult : GoodIn wsX2_sealNode wsX0_copyResult := goodIn_r _ [71, 72, 73, 74, 12, 75, 15, 88, 89, 90] (by decide +kernel) (by decide +kernel)
set_option maxRecDepth 20000 in
theorem gX2_sealNode_X0_copyResult : GoodIn wsX2_sealNode (wsV RX2 164 RX0 yX0_copyResult wsX0_copyResult) := goodIn_app (goodIn_of _ (by decide +kernel)) ggX2_sealNode_X0_copyResult
theorem dX2_sealNode_0 : decode cX2_sealNode 0 = .ok (.aload_n 0, 1) := by decide +kernel
theorem dX2_sealNode_1 : decode cX2_sealNode 1 = .ok (.iload_n 1, 1) := by decide +kernel
theorem dX2_sealNode_2 : decode cX2_sealNode 2 = .ok (.iload_n 2, 1) := by decide +kernel
theorem dX2_sealNode_3 : decode cX2_sealNode 3 = .ok (.invokevirtual 157, 3) := by decide +kernel
theorem dX2_sealNode_6 : decode cX2_sealNode 6 = .ok (.aload_n 0, 1) := by decide +kernel
theorem dX2_sealNode_7 : decode cX2_sealNode 7 = .ok (.getfield 30, 3) := by decide +kernel
theorem dX2_sealNode_10 : decode cX2_sealNode 10 = .ok (.aload_n 0, 1) := by decide +kernel
theorem dX2_sealNode_11 : decode cX2_sealNode 11 = .ok (.getfield 38, 3) := by decide +kernel
theorem dX2_sealNode_14 : decode cX2_sealNode 14 = .ok (.aload_n 0, 1) := by decide +kernel
theorem dX2_sealNode_15 : decode cX2_sealNode 15 = .ok (.getfield 23, 3) := by decide +kernel
theorem dX2_sealNode_18 : decode cX2_sealNode 18 = .ok (.iload_n 1, 1) := by decide +kernel
theorem dX2_sealNode_19 : decode cX2_sealNode 19 = .ok (.iload_n 2, 1) := by decide +kernel
theorem dX2_sealNode_20 : decode cX2_sealNode 20 = .ok (.invokevirtual 118, 3) := by decide +kernel
theorem dX2_sealNode_23 : decode cX2_sealNode 23 = .ok (.invokevirtual 164, 3) := by decide +kernel
theorem dX2_sealNode_26 : decode cX2_sealNode 26 = .ok (.return_, 1) := by decide +kernel
set_option maxRecDepth 20000 in
theorem ggX2_sealRoot_X2_hashHeadAndLastNode : GoodIn wsX2_sealRoot wsX2_hashHeadAndLastNode := goodIn_r _ [7, 1, 8, 9, 10, 11, 12, 13, 14, 15, 16, 17, 18, 19, 20, 21, 22, 23, 24, 25, 26, 27, 28, 29, 30, 31, 32, 33, 34, 35, 36, 37, 38, 39, 40, 41, 42, 43, 44, 45, 46, 47, 48, 49, 50, 51, 52, 53, 54, 55, 56, 65, 66, 67, 68, 69, 70, 71, 72, 73, 74, 75, 76, 77, 78, 79, 80, 81, 82, 83, 84, 85] (by decide +kernel) (by decide +kernel)
set_option maxRecDepth 20000 in
theorem gX2_sealRoot_X2_hashHeadAndLastNode : GoodIn wsX2_sealRoot (wsV RX2 150 RX2 yX2_hashHeadAndLastNode wsX2_hashHeadAndLastNode) := goodIn_app (goodIn_of _ (by decide +kernel)) ggX2_sealRoot_X2_hashHeadAndLastNode
set_option maxRecDepth 20000 in
theorem ggX2_sealRoot_X0_copyResult : GoodIn wsX2_sealRoot wsX0_copyResult := goodIn_r _ [60, 61, 62, 63, 14, 64, 17, 83, 84, 85] (by decide +kernel) (by decide +kernel)
set_option maxRecDepth 20000 in
theorem gX2_sealRoot_X0_copyResult : GoodIn wsX2_sealRoot (wsV RX2 164 RX0 yX0_copyResult wsX0_copyResult) := goodIn_app (goodIn_of _ (by decide +kernel)) ggX2_sealRoot_X0_copyResult
theorem dX2_sealRoot_0 : decode cX2_sealRoot 0 = .ok (.aload_n 0, 1) := by decide +kernel
theorem dX2_sealRoot_1 : decode cX2_sealRoot 1 = .ok (.invokevirtual 150, 3) := by decide +kernel
theorem dX2_sealRoot_4 : decode cX2_sealRoot 4 = .ok (.aload_n 0, 1) := by decide +kernel
theorem dX2_sealRoot_5 : decode cX2_sealRoot 5 = .ok (.getfield 30, 3) := by decide +kernel
theorem dX2_sealRoot_8 : decode cX2_sealRoot 8 = .ok (.aload_n 0, 1) := by decide +kernel
theorem dX2_sealRoot_9 : decode cX2_sealRoot 9 = .ok (.getfield 42, 3) := by decide +kernel
theorem dX2_sealRoot_12 : decode cX2_sealRoot 12 = .ok (.iconst 0, 1) := by decide +kernel
theorem dX2_sealRoot_13 : decode cX2_sealRoot 13 = .ok (.invokevirtual 164, 3) := by decide +kernel
theorem dX2_sealRoot_16 : decode cX2_sealRoot 16 = .ok (.return_, 1) := by decide +kernel
set_option maxRecDepth 20000 in
theorem ggX2_sealWay_X2_sealNode : GoodIn wsX2_sealWay wsX2_sealNode := goodIn_r _ [7, 8, 9, 1, 10, 11, 12, 6, 13, 14, 15, 16, 17, 18, 19, 20, 21, 22, 23, 24, 25, 26, 27, 28, 29, 30, 31, 32, 33, 34, 35, 36, 37, 38, 39, 40, 41, 42, 43, 44, 45, 46, 47, 48, 49, 50, 51, 52, 53, 54, 55, 56, 57, 58, 59, 60, 61, 62, 63, 64, 65, 66, 67, 68, 69, 70, 71, 72, 73, 74, 75, 76, 77, 78, 79, 80, 90, 91, 92, 93, 94, 95, 96, 97, 98, 99, 100, 101, 108, 109, 110, 102, 103, 104, 105, 106, 107] (by decide +kernel) (by decide +kernel)
set_option maxRecDepth 20000 in
theorem gX2_sealWay_X2_sealNode : GoodIn wsX2_sealWay (wsV RX2 168 RX2 yX2_sealNode wsX2_sealNode) := goodIn_app (goodIn_of _ (by decide +kernel)) ggX2_sealWay_X2_sealNode
set_option maxRecDepth 20000 in
theorem ggX2_sealWay_X2_sealRoot : GoodIn wsX2_sealWay wsX2_sealRoot := goodIn_r _ [84, 8, 85, 86, 87, 88, 6, 89, 9, 1, 2, 14, 15, 16, 17, 18, 19, 20, 21, 22, 23, 24, 25, 45, 46, 47, 48, 49, 27, 28, 29, 30, 31, 32, 33, 34, 35, 36, 37, 38, 39, 58, 59, 60, 43, 61, 62, 63, 64, 65, 66, 67, 68, 69, 70, 71, 72, 73, 74, 75, 76, 77, 78, 79, 80, 90, 91, 92, 93, 94, 95, 96, 97, 98, 99, 100, 101, 102, 103, 104, 105, 106, 107, 108, 109, 110] (by decide +kernel) (by decide +kernel)
set_option maxRecDepth 20000 in
theorem gX2_sealWay_X2_sealRoot : GoodIn wsX2_sealWay (wsV RX2 171 RX2 yX2_sealRoot wsX2_sealRoot) := goodIn_app (goodIn_of _ (by decide +kernel)) ggX2_sealWay_X2_sealRoot
theorem dX2_sealWay_0 : decode cX2_sealWay 0 = .ok (.iconst 0, 1) := by decide +kernel
theorem dX2_sealWay_1 : decode cX2_sealWay 1 = .ok (.istore_n 2, 1) := by decide +kernel
theorem dX2_sealWay_2 : decode cX2_sealWay 2 = .ok (.iload_n 2, 1) := by decide +kernel
theorem dX2_sealWay_3 : decode cX2_sealWay 3 = .ok (.aload_n 0, 1) := by decide +kernel
theorem dX2_sealWay_4 : decode cX2_sealWay 4 = .ok (.getfield 23, 3) := by decide +kernel
theorem dX2_sealWay_7 : decode cX2_sealWay 7 = .ok (.getfield 100, 3) := by decide +kernel
theorem dX2_sealWay_10 : decode cX2_sealWay 10 = .ok (.if_icmp .ge 17, 3) := by decide +kernel
theorem dX2_sealWay_13 : decode cX2_sealWay 13 = .ok (.aload_n 0, 1) := by decide +kernel
theorem dX2_sealWay_14 : decode cX2_sealWay 14 = .ok (.iload_n 2, 1) := by decide +kernel
theorem dX2_sealWay_15 : decode cX2_sealWay 15 = .ok (.iload_n 1, 1) := by decide +kernel
theorem dX2_sealWay_16 : decode cX2_sealWay 16 = .ok (.iload_n 2, 1) := by decide +kernel
theorem dX2_sealWay_17 : decode cX2_sealWay 17 = .ok (.ishr, 1) := by decide +kernel
theorem dX2_sealWay_18 : decode cX2_sealWay 18 = .ok (.invokevirtual 168, 3) := by decide +kernel
theorem dX2_sealWay_21 : decode cX2_sealWay 21 = .ok (.iinc 2 1, 3) := by decide +kernel
theorem dX2_sealWay_24 : decode cX2_sealWay 24 = .ok (.goto (-22), 3) := by decide +kernel
theorem dX2_sealWay_27 : decode cX2_sealWay 27 = .ok (.aload_n 0, 1) := by decide +kernel
theorem dX2_sealWay_28 : decode cX2_sealWay 28 = .ok (.invokevirtual 171, 3) := by decide +kernel
theorem dX2_sealWay_31 : decode cX2_sealWay 31 = .ok (.return_, 1) := by decide +kernel
set_option maxRecDepth 20000 in
theorem ggX2_sealAll_X2_headByteAsTold : GoodIn wsX2_sealAll wsX2_headByteAsTold := goodIn_r _ [9, 2, 10, 96, 97, 98, 99, 100, 101, 102, 103, 104, 105, 106, 107, 108, 109, 110, 111, 112, 113] (by decide +kernel) (by decide +kernel)
set_option maxRecDepth 20000 in
theorem gX2_sealAll_X2_headByteAsTold : GoodIn wsX2_sealAll (wsV RX2 147 RX2 yX2_headByteAsTold wsX2_headByteAsTold) := goodIn_app (goodIn_of _ (by decide +kernel)) ggX2_sealAll_X2_headByteAsTold
set_option maxRecDepth 20000 in
theorem ggX2_sealAll_X2_sealNode : GoodIn wsX2_sealAll wsX2_sealNode := goodIn_r _ [14, 15, 1, 2, 16, 17, 18, 8, 19, 20, 21, 22, 23, 24, 25, 26, 27, 28, 29, 30, 31, 32, 33, 34, 35, 36, 37, 38, 39, 40, 41, 42, 43, 44, 45, 46, 47, 48, 49, 50, 51, 52, 53, 54, 55, 56, 57, 58, 59, 60, 61, 62, 63, 64, 65, 66, 67, 68, 69, 70, 71, 72, 73, 74, 75, 76, 77, 78, 79, 80, 81, 82, 83, 84, 85, 86, 96, 97, 98, 99, 100, 101, 102, 103, 104, 105, 106, 107, 114, 115, 116, 108, 109, 110, 111, 112, 113] (by decide +kernel) (by decide +kernel)
set_option maxRecDepth 20000 in
theorem gX2_sealAll_X2_sealNode : GoodIn wsX2_sealAll (wsV RX2 168 RX2 yX2_sealNode wsX2_sealNode) := goodIn_app (goodIn_of _ (by decide +kernel)) ggX2_sealAll_X2_sealNode
set_option maxRecDepth 20000 in
theorem ggX2_sealAll_X2_sealRoot : GoodIn wsX2_sealAll wsX2_sealRoot := goodIn_r _ [90, 15, 91, 92, 93, 94, 8, 95, 1, 2, 3, 20, 21, 22, 23, 24, 25, 26, 27, 28, 29, 30, 31, 51, 52, 53, 54, 55, 33, 34, 35, 36, 37, 38, 39, 40, 41, 42, 43, 44, 45, 64, 65, 66, 49, 67, 68, 69, 70, 71, 72, 73, 74, 75, 76, 77, 78, 79, 80, 81, 82, 83, 84, 85, 86, 96, 97, 98, 99, 100, 101, 102, 103, 104, 105, 106, 107, 108, 109, 110, 111, 112, 113, 114, 115, 116] (by decide +kernel) (by decide +kernel)
set_option maxRecDepth 20000 in
theorem gX2_sealAll_X2_sealRoot : GoodIn wsX2_sealAll (wsV RX2 171 RX2 yX2_sealRoot wsX2_sealRoot) := goodIn_app (goodIn_of _ (by decide +kernel)) ggX2_sealAll_X2_sealRoot
theorem dX2_sealAll_0 : decode cX2_sealAll 0 = .ok (.iconst 0, 1) := by decide +kernel
theorem dX2_sealAll_1 : decode cX2_sealAll 1 = .ok (.istore_n 1, 1) := by decide +kernel
theorem dX2_sealAll_2 : decode cX2_sealAll 2 = .ok (.iload_n 1, 1) := by decide +kernel
theorem dX2_sealAll_3 : decode cX2_sealAll 3 = .ok (.bipush 8, 2) := by decide +kernel
theorem dX2_sealAll_5 : decode cX2_sealAll 5 = .ok (.if_icmp .ge 20, 3) := by decide +kernel
theorem dX2_sealAll_8 : decode cX2_sealAll 8 = .ok (.aload_n 0, 1) := by decide +kernel
theorem dX2_sealAll_9 : decode cX2_sealAll 9 = .ok (.getfield 38, 3) := by decide +kernel
theorem dX2_sealAll_12 : decode cX2_sealAll 12 = .ok (.iload_n 1, 1) := by decide +kernel
theorem dX2_sealAll_13 : decode cX2_sealAll 13 = .ok (.aload_n 0, 1) := by decide +kernel
theorem dX2_sealAll_14 : decode cX2_sealAll 14 = .ok (.iload_n 1, 1) := by decide +kernel
theorem dX2_sealAll_15 : decode cX2_sealAll 15 = .ok (.invokevirtual 147, 3) := by decide +kernel
theorem dX2_sealAll_18 : decode cX2_sealAll 18 = .ok (.iastore, 1) := by decide +kernel
theorem dX2_sealAll_19 : decode cX2_sealAll 19 = .ok (.iinc 1 1, 3) := by decide +kernel
theorem dX2_sealAll_22 : decode cX2_sealAll 22 = .ok (.goto (-20), 3) := by decide +kernel
theorem dX2_sealAll_25 : decode cX2_sealAll 25 = .ok (.iconst 0, 1) := by decide +kernel
theorem dX2_sealAll_26 : decode cX2_sealAll 26 = .ok (.istore_n 1, 1) := by decide +kernel
theorem dX2_sealAll_27 : decode cX2_sealAll 27 = .ok (.iload_n 1, 1) := by decide +kernel
theorem dX2_sealAll_28 : decode cX2_sealAll 28 = .ok (.aload_n 0, 1) := by decide +kernel
theorem dX2_sealAll_29 : decode cX2_sealAll 29 = .ok (.getfield 23, 3) := by decide +kernel
theorem dX2_sealAll_32 : decode cX2_sealAll 32 = .ok (.getfield 100, 3) := by decide +kernel
theorem dX2_sealAll_35 : decode cX2_sealAll 35 = .ok (.if_icmp .ge 36, 3) := by decide +kernel
theorem dX2_sealAll_38 : decode cX2_sealAll 38 = .ok (.iconst 0, 1) := by decide +kernel
theorem dX2_sealAll_39 : decode cX2_sealAll 39 = .ok (.istore_n 2, 1) := by decide +kernel
theorem dX2_sealAll_40 : decode cX2_sealAll 40 = .ok (.iload_n 2, 1) := by decide +kernel
theorem dX2_sealAll_41 : decode cX2_sealAll 41 = .ok (.aload_n 0, 1) := by decide +kernel
theorem dX2_sealAll_42 : decode cX2_sealAll 42 = .ok (.getfield 23, 3) := by decide +kernel
theorem dX2_sealAll_45 : decode cX2_sealAll 45 = .ok (.getfield 161, 3) := by decide +kernel
theorem dX2_sealAll_48 : decode cX2_sealAll 48 = .ok (.iload_n 1, 1) := by decide +kernel
theorem dX2_sealAll_49 : decode cX2_sealAll 49 = .ok (.iaload, 1) := by decide +kernel
theorem dX2_sealAll_50 : decode cX2_sealAll 50 = .ok (.if_icmp .ge 15, 3) := by decide +kernel
theorem dX2_sealAll_53 : decode cX2_sealAll 53 = .ok (.aload_n 0, 1) := by decide +kernel
theorem dX2_sealAll_54 : decode cX2_sealAll 54 = .ok (.iload_n 1, 1) := by decide +kernel
theorem dX2_sealAll_55 : decode cX2_sealAll 55 = .ok (.iload_n 2, 1) := by decide +kernel
theorem dX2_sealAll_56 : decode cX2_sealAll 56 = .ok (.invokevirtual 168, 3) := by decide +kernel
theorem dX2_sealAll_59 : decode cX2_sealAll 59 = .ok (.iinc 2 1, 3) := by decide +kernel
theorem dX2_sealAll_62 : decode cX2_sealAll 62 = .ok (.goto (-22), 3) := by decide +kernel
theorem dX2_sealAll_65 : decode cX2_sealAll 65 = .ok (.iinc 1 1, 3) := by decide +kernel
theorem dX2_sealAll_68 : decode cX2_sealAll 68 = .ok (.goto (-41), 3) := by decide +kernel
theorem dX2_sealAll_71 : decode cX2_sealAll 71 = .ok (.aload_n 0, 1) := by decide +kernel
theorem dX2_sealAll_72 : decode cX2_sealAll 72 = .ok (.invokevirtual 171, 3) := by decide +kernel
theorem dX2_sealAll_75 : decode cX2_sealAll 75 = .ok (.return_, 1) := by decide +kernel
theorem dX2_restoreDisk_0 : decode cX2_restoreDisk 0 = .ok (.iconst 0, 1) := by decide +kernel
theorem dX2_restoreDisk_1 : decode cX2_restoreDisk 1 = .ok (.istore_n 1, 1) := by decide +kernel
theorem dX2_restoreDisk_2 : decode cX2_restoreDisk 2 = .ok (.iconst 0, 1) := by decide +kernel
theorem dX2_restoreDisk_3 : decode cX2_restoreDisk 3 = .ok (.istore_n 2, 1) := by decide +kernel
theorem dX2_restoreDisk_4 : decode cX2_restoreDisk 4 = .ok (.iload_n 2, 1) := by decide +kernel
theorem dX2_restoreDisk_5 : decode cX2_restoreDisk 5 = .ok (.aload_n 0, 1) := by decide +kernel
theorem dX2_restoreDisk_6 : decode cX2_restoreDisk 6 = .ok (.getfield 23, 3) := by decide +kernel
theorem dX2_restoreDisk_9 : decode cX2_restoreDisk 9 = .ok (.getfield 34, 3) := by decide +kernel
theorem dX2_restoreDisk_12 : decode cX2_restoreDisk 12 = .ok (.if_icmp .ge 39, 3) := by decide +kernel
theorem dX2_restoreDisk_15 : decode cX2_restoreDisk 15 = .ok (.aload_n 0, 1) := by decide +kernel
theorem dX2_restoreDisk_16 : decode cX2_restoreDisk 16 = .ok (.getfield 38, 3) := by decide +kernel
theorem dX2_restoreDisk_19 : decode cX2_restoreDisk 19 = .ok (.iload_n 2, 1) := by decide +kernel
theorem dX2_restoreDisk_20 : decode cX2_restoreDisk 20 = .ok (.iaload, 1) := by decide +kernel
theorem dX2_restoreDisk_21 : decode cX2_restoreDisk 21 = .ok (.aload_n 0, 1) := by decide +kernel
theorem dX2_restoreDisk_22 : decode cX2_restoreDisk 22 = .ok (.getfield 48, 3) := by decide +kernel
theorem dX2_restoreDisk_25 : decode cX2_restoreDisk 25 = .ok (.iload_n 2, 1) := by decide +kernel
theorem dX2_restoreDisk_26 : decode cX2_restoreDisk 26 = .ok (.iaload, 1) := by decide +kernel
theorem dX2_restoreDisk_27 : decode cX2_restoreDisk 27 = .ok (.if_icmp .eq 18, 3) := by decide +kernel
theorem dX2_restoreDisk_30 : decode cX2_restoreDisk 30 = .ok (.iinc 1 1, 3) := by decide +kernel
theorem dX2_restoreDisk_33 : decode cX2_restoreDisk 33 = .ok (.aload_n 0, 1) := by decide +kernel
theorem dX2_restoreDisk_34 : decode cX2_restoreDisk 34 = .ok (.getfield 38, 3) := by decide +kernel
theorem dX2_restoreDisk_37 : decode cX2_restoreDisk 37 = .ok (.iload_n 2, 1) := by decide +kernel
theorem dX2_restoreDisk_38 : decode cX2_restoreDisk 38 = .ok (.aload_n 0, 1) := by decide +kernel
theorem dX2_restoreDisk_39 : decode cX2_restoreDisk 39 = .ok (.getfield 48, 3) := by decide +kernel
theorem dX2_restoreDisk_42 : decode cX2_restoreDisk 42 = .ok (.iload_n 2, 1) := by decide +kernel
theorem dX2_restoreDisk_43 : decode cX2_restoreDisk 43 = .ok (.iaload, 1) := by decide +kernel
theorem dX2_restoreDisk_44 : decode cX2_restoreDisk 44 = .ok (.iastore, 1) := by decide +kernel
theorem dX2_restoreDisk_45 : decode cX2_restoreDisk 45 = .ok (.iinc 2 1, 3) := by decide +kernel
theorem dX2_restoreDisk_48 : decode cX2_restoreDisk 48 = .ok (.goto (-44), 3) := by decide +kernel
theorem dX2_restoreDisk_51 : decode cX2_restoreDisk 51 = .ok (.iload_n 1, 1) := by decide +kernel
theorem dX2_restoreDisk_52 : decode cX2_restoreDisk 52 = .ok (.ireturn, 1) := by decide +kernel
set_option maxRecDepth 20000 in
theorem ggX3_init_X3_levelsOf : GoodIn wsX3_init wsX3_levelsOf := goodIn_r _ [96, 97, 98, 99, 95, 100, 90, 149, 150, 151, 152, 153, 154, 155, 156, 157, 158, 159, 160, 161, 162, 163, 164, 165, 166, 167, 168] (by decide +kernel) (by decide +kernel)
set_option maxRecDepth 20000 in
theorem gX3_init_X3_levelsOf : GoodIn wsX3_init (wsV RX3 125 RX3 yX3_levelsOf wsX3_levelsOf) := goodIn_app (goodIn_of _ (by decide +kernel)) ggX3_init_X3_levelsOf
set_option maxRecDepth 20000 in
theorem ggX3_init_X3_placeOf : GoodIn wsX3_init wsX3_placeOf := goodIn_r _ [104, 90, 97, 98, 99, 95, 100, 149, 150, 151, 152, 153, 154, 155, 156, 157, 158, 159, 160, 161, 162, 163, 164, 165, 166, 167, 168] (by decide +kernel) (by decide +kernel)
set_option maxRecDepth 20000 in
theorem gX3_init_X3_placeOf : GoodIn wsX3_init (wsV RX3 129 RX3 yX3_placeOf wsX3_placeOf) := goodIn_app (goodIn_of _ (by decide +kernel)) ggX3_init_X3_placeOf
set_option maxRecDepth 20000 in
theorem ggX3_init_X3_seal : GoodIn wsX3_init wsX3_seal := goodIn_r _ [108, 79, 109, 110, 111, 95, 112, 90, 92, 93, 94, 96, 97, 98, 99, 100, 113, 114, 115, 116, 85, 117, 118, 119, 120, 121, 122, 123, 124, 125, 84, 101, 102, 103, 104, 126, 127, 128, 129, 87, 78, 130, 131, 132, 133, 86, 88, 134, 135, 136, 137, 138, 139, 140, 69, 141, 142, 143, 144, 80, 145, 146, 147, 148, 149, 150, 151, 152, 153, 154, 155, 156, 157, 158, 159, 160, 161, 162, 163, 164, 165, 166, 167, 168] (by decide +kernel) (by decide +kernel)
set_option maxRecDepth 20000 in
theorem gX3_init_X3_seal : GoodIn wsX3_init (wsV RX3 136 RX3 yX3_seal wsX3_seal) := goodIn_app (goodIn_of _ (by decide +kernel)) ggX3_init_X3_seal
theorem dX3_init_0 : decode cX3_init 0 = .ok (.aload_n 0, 1) := by decide +kernel
theorem dX3_init_1 : decode cX3_init 1 = .ok (.invokespecial 1, 3) := by decide +kernel
theorem dX3_init_4 : decode cX3_init 4 = .ok (.aload_n 0, 1) := by decide +kernel
theorem dX3_init_5 : decode cX3_init 5 = .ok (.bipush 64, 2) := by decide +kernel
theorem dX3_init_7 : decode cX3_init 7 = .ok (.newarray .int, 2) := by decide +kernel
theorem dX3_init_9 : decode cX3_init 9 = .ok (.dup, 1) := by decide +kernel
theorem dX3_init_10 : decode cX3_init 10 = .ok (.iconst 0, 1) := by decide +kernel
theorem dX3_init_11 : decode cX3_init 11 = .ok (.ldc 7, 2) := by decide +kernel
theorem dX3_init_13 : decode cX3_init 13 = .ok (.iastore, 1) := by decide +kernel
theorem dX3_init_14 : decode cX3_init 14 = .ok (.dup, 1) := by decide +kernel
theorem dX3_init_15 : decode cX3_init 15 = .ok (.iconst 1, 1) := by decide +kernel
theorem dX3_init_16 : decode cX3_init 16 = .ok (.ldc 8, 2) := by decide +kernel
theorem dX3_init_18 : decode cX3_init 18 = .ok (.iastore, 1) := by decide +kernel
theorem dX3_init_19 : decode cX3_init 19 = .ok (.dup, 1) := by decide +kernel
theorem dX3_init_20 : decode cX3_init 20 = .ok (.iconst 2, 1) := by decide +kernel
theorem dX3_init_21 : decode cX3_init 21 = .ok (.ldc 9, 2) := by decide +kernel
theorem dX3_init_23 : decode cX3_init 23 = .ok (.iastore, 1) := by decide +kernel
theorem dX3_init_24 : decode cX3_init 24 = .ok (.dup, 1) := by decide +kernel
theorem dX3_init_25 : decode cX3_init 25 = .ok (.iconst 3, 1) := by decide +kernel
theorem dX3_init_26 : decode cX3_init 26 = .ok (.ldc 10, 2) := by decide +kernel
theorem dX3_init_28 : decode cX3_init 28 = .ok (.iastore, 1) := by decide +kernel
theorem dX3_init_29 : decode cX3_init 29 = .ok (.dup, 1) := by decide +kernel
theorem dX3_init_30 : decode cX3_init 30 = .ok (.iconst 4, 1) := by decide +kernel
theorem dX3_init_31 : decode cX3_init 31 = .ok (.ldc 11, 2) := by decide +kernel
theorem dX3_init_33 : decode cX3_init 33 = .ok (.iastore, 1) := by decide +kernel
theorem dX3_init_34 : decode cX3_init 34 = .ok (.dup, 1) := by decide +kernel
theorem dX3_init_35 : decode cX3_init 35 = .ok (.iconst 5, 1) := by decide +kernel
theorem dX3_init_36 : decode cX3_init 36 = .ok (.ldc 12, 2) := by decide +kernel
theorem dX3_init_38 : decode cX3_init 38 = .ok (.iastore, 1) := by decide +kernel
theorem dX3_init_39 : decode cX3_init 39 = .ok (.dup, 1) := by decide +kernel
theorem dX3_init_40 : decode cX3_init 40 = .ok (.bipush 6, 2) := by decide +kernel
theorem dX3_init_42 : decode cX3_init 42 = .ok (.ldc 13, 2) := by decide +kernel
theorem dX3_init_44 : decode cX3_init 44 = .ok (.iastore, 1) := by decide +kernel
theorem dX3_init_45 : decode cX3_init 45 = .ok (.dup, 1) := by decide +kernel
theorem dX3_init_46 : decode cX3_init 46 = .ok (.bipush 7, 2) := by decide +kernel
theorem dX3_init_48 : decode cX3_init 48 = .ok (.ldc 14, 2) := by decide +kernel
theorem dX3_init_50 : decode cX3_init 50 = .ok (.iastore, 1) := by decide +kernel
theorem dX3_init_51 : decode cX3_init 51 = .ok (.dup, 1) := by decide +kernel
theorem dX3_init_52 : decode cX3_init 52 = .ok (.bipush 8, 2) := by decide +kernel
theorem dX3_init_54 : decode cX3_init 54 = .ok (.ldc 15, 2) := by decide +kernel
theorem dX3_init_56 : decode cX3_init 56 = .ok (.iastore, 1) := by decide +kernel
theorem dX3_init_57 : decode cX3_init 57 = .ok (.dup, 1) := by decide +kernel
theorem dX3_init_58 : decode cX3_init 58 = .ok (.bipush 9, 2) := by decide +kernel
theorem dX3_init_60 : decode cX3_init 60 = .ok (.ldc 16, 2) := by decide +kernel
theorem dX3_init_62 : decode cX3_init 62 = .ok (.iastore, 1) := by decide +kernel
theorem dX3_init_63 : decode cX3_init 63 = .ok (.dup, 1) := by decide +kernel
theorem dX3_init_64 : decode cX3_init 64 = .ok (.bipush 10, 2) := by decide +kernel
theorem dX3_init_66 : decode cX3_init 66 = .ok (.ldc 17, 2) := by decide +kernel
theorem dX3_init_68 : decode cX3_init 68 = .ok (.iastore, 1) := by decide +kernel
theorem dX3_init_69 : decode cX3_init 69 = .ok (.dup, 1) := by decide +kernel
theorem dX3_init_70 : decode cX3_init 70 = .ok (.bipush 11, 2) := by decide +kernel
theorem dX3_init_72 : decode cX3_init 72 = .ok (.ldc 18, 2) := by decide +kernel
theorem dX3_init_74 : decode cX3_init 74 = .ok (.iastore, 1) := by decide +kernel
theorem dX3_init_75 : decode cX3_init 75 = .ok (.dup, 1) := by decide +kernel
theorem dX3_init_76 : decode cX3_init 76 = .ok (.bipush 12, 2) := by decide +kernel
theorem dX3_init_78 : decode cX3_init 78 = .ok (.ldc 19, 2) := by decide +kernel
theorem dX3_init_80 : decode cX3_init 80 = .ok (.iastore, 1) := by decide +kernel
theorem dX3_init_81 : decode cX3_init 81 = .ok (.dup, 1) := by decide +kernel
theorem dX3_init_82 : decode cX3_init 82 = .ok (.bipush 13, 2) := by decide +kernel
theorem dX3_init_84 : decode cX3_init 84 = .ok (.ldc 20, 2) := by decide +kernel
theorem dX3_init_86 : decode cX3_init 86 = .ok (.iastore, 1) := by decide +kernel
theorem dX3_init_87 : decode cX3_init 87 = .ok (.dup, 1) := by decide +kernel
theorem dX3_init_88 : decode cX3_init 88 = .ok (.bipush 14, 2) := by decide +kernel
theorem dX3_init_90 : decode cX3_init 90 = .ok (.ldc 21, 2) := by decide +kernel
theorem dX3_init_92 : decode cX3_init 92 = .ok (.iastore, 1) := by decide +kernel
theorem dX3_init_93 : decode cX3_init 93 = .ok (.dup, 1) := by decide +kernel
theorem dX3_init_94 : decode cX3_init 94 = .ok (.bipush 15, 2) := by decide +kernel
theorem dX3_init_96 : decode cX3_init 96 = .ok (.ldc 22, 2) := by decide +kernel
theorem dX3_init_98 : decode cX3_init 98 = .ok (.iastore, 1) := by decide +kernel
theorem dX3_init_99 : decode cX3_init 99 = .ok (.dup, 1) := by decide +kernel
theorem dX3_init_100 : decode cX3_init 100 = .ok (.bipush 16, 2) := by decide +kernel
theorem dX3_init_102 : decode cX3_init 102 = .ok (.ldc 23, 2) := by decide +kernel
theorem dX3_init_104 : decode cX3_init 104 = .ok (.iastore, 1) := by decide +kernel
theorem dX3_init_105 : decode cX3_init 105 = .ok (.dup, 1) := by decide +kernel
theorem dX3_init_106 : decode cX3_init 106 = .ok (.bipush 17, 2) := by decide +kernel
theorem dX3_init_108 : decode cX3_init 108 = .ok (.ldc 24, 2) := by decide +kernel
theorem dX3_init_110 : decode cX3_init 110 = .ok (.iastore, 1) := by decide +kernel
theorem dX3_init_111 : decode cX3_init 111 = .ok (.dup, 1) := by decide +kernel
theorem dX3_init_112 : decode cX3_init 112 = .ok (.bipush 18, 2) := by decide +kernel
theorem dX3_init_114 : decode cX3_init 114 = .ok (.ldc 25, 2) := by decide +kernel
theorem dX3_init_116 : decode cX3_init 116 = .ok (.iastore, 1) := by decide +kernel
theorem dX3_init_117 : decode cX3_init 117 = .ok (.dup, 1) := by decide +kernel
theorem dX3_init_118 : decode cX3_init 118 = .ok (.bipush 19, 2) := by decide +kernel
theorem dX3_init_120 : decode cX3_init 120 = .ok (.ldc 26, 2) := by decide +kernel
theorem dX3_init_122 : decode cX3_init 122 = .ok (.iastore, 1) := by decide +kernel
theorem dX3_init_123 : decode cX3_init 123 = .ok (.dup, 1) := by decide +kernel
theorem dX3_init_124 : decode cX3_init 124 = .ok (.bipush 20, 2) := by decide +kernel
theorem dX3_init_126 : decode cX3_init 126 = .ok (.ldc 27, 2) := by decide +kernel
theorem dX3_init_128 : decode cX3_init 128 = .ok (.iastore, 1) := by decide +kernel
theorem dX3_init_129 : decode cX3_init 129 = .ok (.dup, 1) := by decide +kernel
theorem dX3_init_130 : decode cX3_init 130 = .ok (.bipush 21, 2) := by decide +kernel
theorem dX3_init_132 : decode cX3_init 132 = .ok (.ldc 28, 2) := by decide +kernel
theorem dX3_init_134 : decode cX3_init 134 = .ok (.iastore, 1) := by decide +kernel
theorem dX3_init_135 : decode cX3_init 135 = .ok (.dup, 1) := by decide +kernel
theorem dX3_init_136 : decode cX3_init 136 = .ok (.bipush 22, 2) := by decide +kernel
theorem dX3_init_138 : decode cX3_init 138 = .ok (.ldc 29, 2) := by decide +kernel
theorem dX3_init_140 : decode cX3_init 140 = .ok (.iastore, 1) := by decide +kernel
theorem dX3_init_141 : decode cX3_init 141 = .ok (.dup, 1) := by decide +kernel
theorem dX3_init_142 : decode cX3_init 142 = .ok (.bipush 23, 2) := by decide +kernel
theorem dX3_init_144 : decode cX3_init 144 = .ok (.ldc 30, 2) := by decide +kernel
theorem dX3_init_146 : decode cX3_init 146 = .ok (.iastore, 1) := by decide +kernel
theorem dX3_init_147 : decode cX3_init 147 = .ok (.dup, 1) := by decide +kernel
theorem dX3_init_148 : decode cX3_init 148 = .ok (.bipush 24, 2) := by decide +kernel
theorem dX3_init_150 : decode cX3_init 150 = .ok (.ldc 31, 2) := by decide +kernel
theorem dX3_init_152 : decode cX3_init 152 = .ok (.iastore, 1) := by decide +kernel
theorem dX3_init_153 : decode cX3_init 153 = .ok (.dup, 1) := by decide +kernel
theorem dX3_init_154 : decode cX3_init 154 = .ok (.bipush 25, 2) := by decide +kernel
theorem dX3_init_156 : decode cX3_init 156 = .ok (.ldc 32, 2) := by decide +kernel
theorem dX3_init_158 : decode cX3_init 158 = .ok (.iastore, 1) := by decide +kernel
theorem dX3_init_159 : decode cX3_init 159 = .ok (.dup, 1) := by decide +kernel
theorem dX3_init_160 : decode cX3_init 160 = .ok (.bipush 26, 2) := by decide +kernel
theorem dX3_init_162 : decode cX3_init 162 = .ok (.ldc 33, 2) := by decide +kernel
theorem dX3_init_164 : decode cX3_init 164 = .ok (.iastore, 1) := by decide +kernel
theorem dX3_init_165 : decode cX3_init 165 = .ok (.dup, 1) := by decide +kernel
theorem dX3_init_166 : decode cX3_init 166 = .ok (.bipush 27, 2) := by decide +kernel
theorem dX3_init_168 : decode cX3_init 168 = .ok (.ldc 34, 2) := by decide +kernel
theorem dX3_init_170 : decode cX3_init 170 = .ok (.iastore, 1) := by decide +kernel
theorem dX3_init_171 : decode cX3_init 171 = .ok (.dup, 1) := by decide +kernel
theorem dX3_init_172 : decode cX3_init 172 = .ok (.bipush 28, 2) := by decide +kernel
theorem dX3_init_174 : decode cX3_init 174 = .ok (.ldc 35, 2) := by decide +kernel
theorem dX3_init_176 : decode cX3_init 176 = .ok (.iastore, 1) := by decide +kernel
theorem dX3_init_177 : decode cX3_init 177 = .ok (.dup, 1) := by decide +kernel
theorem dX3_init_178 : decode cX3_init 178 = .ok (.bipush 29, 2) := by decide +kernel
theorem dX3_init_180 : decode cX3_init 180 = .ok (.ldc 36, 2) := by decide +kernel
theorem dX3_init_182 : decode cX3_init 182 = .ok (.iastore, 1) := by decide +kernel
theorem dX3_init_183 : decode cX3_init 183 = .ok (.dup, 1) := by decide +kernel
theorem dX3_init_184 : decode cX3_init 184 = .ok (.bipush 30, 2) := by decide +kernel
theorem dX3_init_186 : decode cX3_init 186 = .ok (.ldc 37, 2) := by decide +kernel
theorem dX3_init_188 : decode cX3_init 188 = .ok (.iastore, 1) := by decide +kernel
theorem dX3_init_189 : decode cX3_init 189 = .ok (.dup, 1) := by decide +kernel
theorem dX3_init_190 : decode cX3_init 190 = .ok (.bipush 31, 2) := by decide +kernel
theorem dX3_init_192 : decode cX3_init 192 = .ok (.ldc 38, 2) := by decide +kernel
theorem dX3_init_194 : decode cX3_init 194 = .ok (.iastore, 1) := by decide +kernel
theorem dX3_init_195 : decode cX3_init 195 = .ok (.dup, 1) := by decide +kernel
theorem dX3_init_196 : decode cX3_init 196 = .ok (.bipush 32, 2) := by decide +kernel
theorem dX3_init_198 : decode cX3_init 198 = .ok (.ldc 39, 2) := by decide +kernel
theorem dX3_init_200 : decode cX3_init 200 = .ok (.iastore, 1) := by decide +kernel
theorem dX3_init_201 : decode cX3_init 201 = .ok (.dup, 1) := by decide +kernel
theorem dX3_init_202 : decode cX3_init 202 = .ok (.bipush 33, 2) := by decide +kernel
theorem dX3_init_204 : decode cX3_init 204 = .ok (.ldc 40, 2) := by decide +kernel
theorem dX3_init_206 : decode cX3_init 206 = .ok (.iastore, 1) := by decide +kernel
theorem dX3_init_207 : decode cX3_init 207 = .ok (.dup, 1) := by decide +kernel
theorem dX3_init_208 : decode cX3_init 208 = .ok (.bipush 34, 2) := by decide +kernel
theorem dX3_init_210 : decode cX3_init 210 = .ok (.ldc 41, 2) := by decide +kernel
theorem dX3_init_212 : decode cX3_init 212 = .ok (.iastore, 1) := by decide +kernel
theorem dX3_init_213 : decode cX3_init 213 = .ok (.dup, 1) := by decide +kernel
theorem dX3_init_214 : decode cX3_init 214 = .ok (.bipush 35, 2) := by decide +kernel
theorem dX3_init_216 : decode cX3_init 216 = .ok (.ldc 42, 2) := by decide +kernel
theorem dX3_init_218 : decode cX3_init 218 = .ok (.iastore, 1) := by decide +kernel
theorem dX3_init_219 : decode cX3_init 219 = .ok (.dup, 1) := by decide +kernel
theorem dX3_init_220 : decode cX3_init 220 = .ok (.bipush 36, 2) := by decide +kernel
theorem dX3_init_222 : decode cX3_init 222 = .ok (.ldc 43, 2) := by decide +kernel
theorem dX3_init_224 : decode cX3_init 224 = .ok (.iastore, 1) := by decide +kernel
theorem dX3_init_225 : decode cX3_init 225 = .ok (.dup, 1) := by decide +kernel
theorem dX3_init_226 : decode cX3_init 226 = .ok (.bipush 37, 2) := by decide +kernel
theorem dX3_init_228 : decode cX3_init 228 = .ok (.ldc 44, 2) := by decide +kernel
theorem dX3_init_230 : decode cX3_init 230 = .ok (.iastore, 1) := by decide +kernel
theorem dX3_init_231 : decode cX3_init 231 = .ok (.dup, 1) := by decide +kernel
theorem dX3_init_232 : decode cX3_init 232 = .ok (.bipush 38, 2) := by decide +kernel
theorem dX3_init_234 : decode cX3_init 234 = .ok (.ldc 45, 2) := by decide +kernel
theorem dX3_init_236 : decode cX3_init 236 = .ok (.iastore, 1) := by decide +kernel
theorem dX3_init_237 : decode cX3_init 237 = .ok (.dup, 1) := by decide +kernel
theorem dX3_init_238 : decode cX3_init 238 = .ok (.bipush 39, 2) := by decide +kernel
theorem dX3_init_240 : decode cX3_init 240 = .ok (.ldc 46, 2) := by decide +kernel
theorem dX3_init_242 : decode cX3_init 242 = .ok (.iastore, 1) := by decide +kernel
theorem dX3_init_243 : decode cX3_init 243 = .ok (.dup, 1) := by decide +kernel
theorem dX3_init_244 : decode cX3_init 244 = .ok (.bipush 40, 2) := by decide +kernel
theorem dX3_init_246 : decode cX3_init 246 = .ok (.ldc 47, 2) := by decide +kernel
theorem dX3_init_248 : decode cX3_init 248 = .ok (.iastore, 1) := by decide +kernel
theorem dX3_init_249 : decode cX3_init 249 = .ok (.dup, 1) := by decide +kernel
theorem dX3_init_250 : decode cX3_init 250 = .ok (.bipush 41, 2) := by decide +kernel
theorem dX3_init_252 : decode cX3_init 252 = .ok (.ldc 48, 2) := by decide +kernel
theorem dX3_init_254 : decode cX3_init 254 = .ok (.iastore, 1) := by decide +kernel
theorem dX3_init_255 : decode cX3_init 255 = .ok (.dup, 1) := by decide +kernel
theorem dX3_init_256 : decode cX3_init 256 = .ok (.bipush 42, 2) := by decide +kernel
theorem dX3_init_258 : decode cX3_init 258 = .ok (.ldc 49, 2) := by decide +kernel
theorem dX3_init_260 : decode cX3_init 260 = .ok (.iastore, 1) := by decide +kernel
theorem dX3_init_261 : decode cX3_init 261 = .ok (.dup, 1) := by decide +kernel
theorem dX3_init_262 : decode cX3_init 262 = .ok (.bipush 43, 2) := by decide +kernel
theorem dX3_init_264 : decode cX3_init 264 = .ok (.ldc 50, 2) := by decide +kernel
theorem dX3_init_266 : decode cX3_init 266 = .ok (.iastore, 1) := by decide +kernel
theorem dX3_init_267 : decode cX3_init 267 = .ok (.dup, 1) := by decide +kernel
theorem dX3_init_268 : decode cX3_init 268 = .ok (.bipush 44, 2) := by decide +kernel
theorem dX3_init_270 : decode cX3_init 270 = .ok (.ldc 51, 2) := by decide +kernel
theorem dX3_init_272 : decode cX3_init 272 = .ok (.iastore, 1) := by decide +kernel
theorem dX3_init_273 : decode cX3_init 273 = .ok (.dup, 1) := by decide +kernel
theorem dX3_init_274 : decode cX3_init 274 = .ok (.bipush 45, 2) := by decide +kernel
theorem dX3_init_276 : decode cX3_init 276 = .ok (.ldc 52, 2) := by decide +kernel
theorem dX3_init_278 : decode cX3_init 278 = .ok (.iastore, 1) := by decide +kernel
theorem dX3_init_279 : decode cX3_init 279 = .ok (.dup, 1) := by decide +kernel
theorem dX3_init_280 : decode cX3_init 280 = .ok (.bipush 46, 2) := by decide +kernel
theorem dX3_init_282 : decode cX3_init 282 = .ok (.ldc 53, 2) := by decide +kernel
theorem dX3_init_284 : decode cX3_init 284 = .ok (.iastore, 1) := by decide +kernel
theorem dX3_init_285 : decode cX3_init 285 = .ok (.dup, 1) := by decide +kernel
theorem dX3_init_286 : decode cX3_init 286 = .ok (.bipush 47, 2) := by decide +kernel
theorem dX3_init_288 : decode cX3_init 288 = .ok (.ldc 54, 2) := by decide +kernel
theorem dX3_init_290 : decode cX3_init 290 = .ok (.iastore, 1) := by decide +kernel
theorem dX3_init_291 : decode cX3_init 291 = .ok (.dup, 1) := by decide +kernel
theorem dX3_init_292 : decode cX3_init 292 = .ok (.bipush 48, 2) := by decide +kernel
theorem dX3_init_294 : decode cX3_init 294 = .ok (.ldc 55, 2) := by decide +kernel
theorem dX3_init_296 : decode cX3_init 296 = .ok (.iastore, 1) := by decide +kernel
theorem dX3_init_297 : decode cX3_init 297 = .ok (.dup, 1) := by decide +kernel
theorem dX3_init_298 : decode cX3_init 298 = .ok (.bipush 49, 2) := by decide +kernel
theorem dX3_init_300 : decode cX3_init 300 = .ok (.ldc 56, 2) := by decide +kernel
theorem dX3_init_302 : decode cX3_init 302 = .ok (.iastore, 1) := by decide +kernel
theorem dX3_init_303 : decode cX3_init 303 = .ok (.dup, 1) := by decide +kernel
theorem dX3_init_304 : decode cX3_init 304 = .ok (.bipush 50, 2) := by decide +kernel
theorem dX3_init_306 : decode cX3_init 306 = .ok (.ldc 57, 2) := by decide +kernel
theorem dX3_init_308 : decode cX3_init 308 = .ok (.iastore, 1) := by decide +kernel
theorem dX3_init_309 : decode cX3_init 309 = .ok (.dup, 1) := by decide +kernel
theorem dX3_init_310 : decode cX3_init 310 = .ok (.bipush 51, 2) := by decide +kernel
theorem dX3_init_312 : decode cX3_init 312 = .ok (.ldc 58, 2) := by decide +kernel
theorem dX3_init_314 : decode cX3_init 314 = .ok (.iastore, 1) := by decide +kernel
theorem dX3_init_315 : decode cX3_init 315 = .ok (.dup, 1) := by decide +kernel
theorem dX3_init_316 : decode cX3_init 316 = .ok (.bipush 52, 2) := by decide +kernel
theorem dX3_init_318 : decode cX3_init 318 = .ok (.ldc 59, 2) := by decide +kernel
theorem dX3_init_320 : decode cX3_init 320 = .ok (.iastore, 1) := by decide +kernel
theorem dX3_init_321 : decode cX3_init 321 = .ok (.dup, 1) := by decide +kernel
theorem dX3_init_322 : decode cX3_init 322 = .ok (.bipush 53, 2) := by decide +kernel
theorem dX3_init_324 : decode cX3_init 324 = .ok (.ldc 60, 2) := by decide +kernel
theorem dX3_init_326 : decode cX3_init 326 = .ok (.iastore, 1) := by decide +kernel
theorem dX3_init_327 : decode cX3_init 327 = .ok (.dup, 1) := by decide +kernel
theorem dX3_init_328 : decode cX3_init 328 = .ok (.bipush 54, 2) := by decide +kernel
theorem dX3_init_330 : decode cX3_init 330 = .ok (.ldc 61, 2) := by decide +kernel
theorem dX3_init_332 : decode cX3_init 332 = .ok (.iastore, 1) := by decide +kernel
theorem dX3_init_333 : decode cX3_init 333 = .ok (.dup, 1) := by decide +kernel
theorem dX3_init_334 : decode cX3_init 334 = .ok (.bipush 55, 2) := by decide +kernel
theorem dX3_init_336 : decode cX3_init 336 = .ok (.ldc 62, 2) := by decide +kernel
theorem dX3_init_338 : decode cX3_init 338 = .ok (.iastore, 1) := by decide +kernel
theorem dX3_init_339 : decode cX3_init 339 = .ok (.dup, 1) := by decide +kernel
theorem dX3_init_340 : decode cX3_init 340 = .ok (.bipush 56, 2) := by decide +kernel
theorem dX3_init_342 : decode cX3_init 342 = .ok (.ldc 63, 2) := by decide +kernel
theorem dX3_init_344 : decode cX3_init 344 = .ok (.iastore, 1) := by decide +kernel
theorem dX3_init_345 : decode cX3_init 345 = .ok (.dup, 1) := by decide +kernel
theorem dX3_init_346 : decode cX3_init 346 = .ok (.bipush 57, 2) := by decide +kernel
theorem dX3_init_348 : decode cX3_init 348 = .ok (.ldc 64, 2) := by decide +kernel
theorem dX3_init_350 : decode cX3_init 350 = .ok (.iastore, 1) := by decide +kernel
theorem dX3_init_351 : decode cX3_init 351 = .ok (.dup, 1) := by decide +kernel
theorem dX3_init_352 : decode cX3_init 352 = .ok (.bipush 58, 2) := by decide +kernel
theorem dX3_init_354 : decode cX3_init 354 = .ok (.ldc 65, 2) := by decide +kernel
theorem dX3_init_356 : decode cX3_init 356 = .ok (.iastore, 1) := by decide +kernel
theorem dX3_init_357 : decode cX3_init 357 = .ok (.dup, 1) := by decide +kernel
theorem dX3_init_358 : decode cX3_init 358 = .ok (.bipush 59, 2) := by decide +kernel
theorem dX3_init_360 : decode cX3_init 360 = .ok (.ldc 66, 2) := by decide +kernel
theorem dX3_init_362 : decode cX3_init 362 = .ok (.iastore, 1) := by decide +kernel
theorem dX3_init_363 : decode cX3_init 363 = .ok (.dup, 1) := by decide +kernel
theorem dX3_init_364 : decode cX3_init 364 = .ok (.bipush 60, 2) := by decide +kernel
theorem dX3_init_366 : decode cX3_init 366 = .ok (.ldc 67, 2) := by decide +kernel
theorem dX3_init_368 : decode cX3_init 368 = .ok (.iastore, 1) := by decide +kernel
theorem dX3_init_369 : decode cX3_init 369 = .ok (.dup, 1) := by decide +kernel
theorem dX3_init_370 : decode cX3_init 370 = .ok (.bipush 61, 2) := by decide +kernel
theorem dX3_init_372 : decode cX3_init 372 = .ok (.ldc 68, 2) := by decide +kernel
theorem dX3_init_374 : decode cX3_init 374 = .ok (.iastore, 1) := by decide +kernel
theorem dX3_init_375 : decode cX3_init 375 = .ok (.dup, 1) := by decide +kernel
theorem dX3_init_376 : decode cX3_init 376 = .ok (.bipush 62, 2) := by decide +kernel
theorem dX3_init_378 : decode cX3_init 378 = .ok (.ldc 69, 2) := by decide +kernel
theorem dX3_init_380 : decode cX3_init 380 = .ok (.iastore, 1) := by decide +kernel
theorem dX3_init_381 : decode cX3_init 381 = .ok (.dup, 1) := by decide +kernel
theorem dX3_init_382 : decode cX3_init 382 = .ok (.bipush 63, 2) := by decide +kernel
theorem dX3_init_384 : decode cX3_init 384 = .ok (.ldc 70, 2) := by decide +kernel
theorem dX3_init_386 : decode cX3_init 386 = .ok (.iastore, 1) := by decide +kernel
theorem dX3_init_387 : decode cX3_init 387 = .ok (.putfield 71, 3) := by decide +kernel
theorem dX3_init_390 : decode cX3_init 390 = .ok (.aload_n 0, 1) := by decide +kernel
theorem dX3_init_391 : decode cX3_init 391 = .ok (.bipush 8, 2) := by decide +kernel
theorem dX3_init_393 : decode cX3_init 393 = .ok (.newarray .int, 2) := by decide +kernel
theorem dX3_init_395 : decode cX3_init 395 = .ok (.dup, 1) := by decide +kernel
theorem dX3_init_396 : decode cX3_init 396 = .ok (.iconst 0, 1) := by decide +kernel
theorem dX3_init_397 : decode cX3_init 397 = .ok (.ldc 77, 2) := by decide +kernel
theorem dX3_init_399 : decode cX3_init 399 = .ok (.iastore, 1) := by decide +kernel
theorem dX3_init_400 : decode cX3_init 400 = .ok (.dup, 1) := by decide +kernel
theorem dX3_init_401 : decode cX3_init 401 = .ok (.iconst 1, 1) := by decide +kernel
theorem dX3_init_402 : decode cX3_init 402 = .ok (.ldc 78, 2) := by decide +kernel
theorem dX3_init_404 : decode cX3_init 404 = .ok (.iastore, 1) := by decide +kernel
theorem dX3_init_405 : decode cX3_init 405 = .ok (.dup, 1) := by decide +kernel
theorem dX3_init_406 : decode cX3_init 406 = .ok (.iconst 2, 1) := by decide +kernel
theorem dX3_init_407 : decode cX3_init 407 = .ok (.ldc 79, 2) := by decide +kernel
theorem dX3_init_409 : decode cX3_init 409 = .ok (.iastore, 1) := by decide +kernel
theorem dX3_init_410 : decode cX3_init 410 = .ok (.dup, 1) := by decide +kernel
theorem dX3_init_411 : decode cX3_init 411 = .ok (.iconst 3, 1) := by decide +kernel
theorem dX3_init_412 : decode cX3_init 412 = .ok (.ldc 80, 2) := by decide +kernel
theorem dX3_init_414 : decode cX3_init 414 = .ok (.iastore, 1) := by decide +kernel
theorem dX3_init_415 : decode cX3_init 415 = .ok (.dup, 1) := by decide +kernel
theorem dX3_init_416 : decode cX3_init 416 = .ok (.iconst 4, 1) := by decide +kernel
theorem dX3_init_417 : decode cX3_init 417 = .ok (.ldc 81, 2) := by decide +kernel
theorem dX3_init_419 : decode cX3_init 419 = .ok (.iastore, 1) := by decide +kernel
theorem dX3_init_420 : decode cX3_init 420 = .ok (.dup, 1) := by decide +kernel
theorem dX3_init_421 : decode cX3_init 421 = .ok (.iconst 5, 1) := by decide +kernel
theorem dX3_init_422 : decode cX3_init 422 = .ok (.ldc 82, 2) := by decide +kernel
theorem dX3_init_424 : decode cX3_init 424 = .ok (.iastore, 1) := by decide +kernel
theorem dX3_init_425 : decode cX3_init 425 = .ok (.dup, 1) := by decide +kernel
theorem dX3_init_426 : decode cX3_init 426 = .ok (.bipush 6, 2) := by decide +kernel
theorem dX3_init_428 : decode cX3_init 428 = .ok (.ldc 83, 2) := by decide +kernel
theorem dX3_init_430 : decode cX3_init 430 = .ok (.iastore, 1) := by decide +kernel
theorem dX3_init_431 : decode cX3_init 431 = .ok (.dup, 1) := by decide +kernel
theorem dX3_init_432 : decode cX3_init 432 = .ok (.bipush 7, 2) := by decide +kernel
theorem dX3_init_434 : decode cX3_init 434 = .ok (.ldc 84, 2) := by decide +kernel
theorem dX3_init_436 : decode cX3_init 436 = .ok (.iastore, 1) := by decide +kernel
theorem dX3_init_437 : decode cX3_init 437 = .ok (.putfield 85, 3) := by decide +kernel
theorem dX3_init_440 : decode cX3_init 440 = .ok (.aload_n 0, 1) := by decide +kernel
theorem dX3_init_441 : decode cX3_init 441 = .ok (.sipush 8200, 3) := by decide +kernel
theorem dX3_init_444 : decode cX3_init 444 = .ok (.newarray .int, 2) := by decide +kernel
theorem dX3_init_446 : decode cX3_init 446 = .ok (.putfield 88, 3) := by decide +kernel
theorem dX3_init_449 : decode cX3_init 449 = .ok (.aload_n 0, 1) := by decide +kernel
theorem dX3_init_450 : decode cX3_init 450 = .ok (.bipush 32, 2) := by decide +kernel
theorem dX3_init_452 : decode cX3_init 452 = .ok (.newarray .int, 2) := by decide +kernel
theorem dX3_init_454 : decode cX3_init 454 = .ok (.putfield 91, 3) := by decide +kernel
theorem dX3_init_457 : decode cX3_init 457 = .ok (.aload_n 0, 1) := by decide +kernel
theorem dX3_init_458 : decode cX3_init 458 = .ok (.bipush 64, 2) := by decide +kernel
theorem dX3_init_460 : decode cX3_init 460 = .ok (.newarray .int, 2) := by decide +kernel
theorem dX3_init_462 : decode cX3_init 462 = .ok (.putfield 94, 3) := by decide +kernel
theorem dX3_init_465 : decode cX3_init 465 = .ok (.aload_n 0, 1) := by decide +kernel
theorem dX3_init_466 : decode cX3_init 466 = .ok (.sipush 8200, 3) := by decide +kernel
theorem dX3_init_469 : decode cX3_init 469 = .ok (.newarray .int, 2) := by decide +kernel
theorem dX3_init_471 : decode cX3_init 471 = .ok (.putfield 97, 3) := by decide +kernel
theorem dX3_init_474 : decode cX3_init 474 = .ok (.aload_n 0, 1) := by decide +kernel
theorem dX3_init_475 : decode cX3_init 475 = .ok (.bipush 32, 2) := by decide +kernel
theorem dX3_init_477 : decode cX3_init 477 = .ok (.newarray .int, 2) := by decide +kernel
theorem dX3_init_479 : decode cX3_init 479 = .ok (.putfield 100, 3) := by decide +kernel
theorem dX3_init_482 : decode cX3_init 482 = .ok (.aload_n 0, 1) := by decide +kernel
theorem dX3_init_483 : decode cX3_init 483 = .ok (.sipush 256, 3) := by decide +kernel
theorem dX3_init_486 : decode cX3_init 486 = .ok (.newarray .int, 2) := by decide +kernel
theorem dX3_init_488 : decode cX3_init 488 = .ok (.putfield 103, 3) := by decide +kernel
theorem dX3_init_491 : decode cX3_init 491 = .ok (.aload_n 0, 1) := by decide +kernel
theorem dX3_init_492 : decode cX3_init 492 = .ok (.bipush 32, 2) := by decide +kernel
theorem dX3_init_494 : decode cX3_init 494 = .ok (.newarray .int, 2) := by decide +kernel
theorem dX3_init_496 : decode cX3_init 496 = .ok (.putfield 106, 3) := by decide +kernel
theorem dX3_init_499 : decode cX3_init 499 = .ok (.aload_n 0, 1) := by decide +kernel
theorem dX3_init_500 : decode cX3_init 500 = .ok (.bipush 64, 2) := by decide +kernel
theorem dX3_init_502 : decode cX3_init 502 = .ok (.newarray .int, 2) := by decide +kernel
theorem dX3_init_504 : decode cX3_init 504 = .ok (.putfield 109, 3) := by decide +kernel
theorem dX3_init_507 : decode cX3_init 507 = .ok (.aload_n 0, 1) := by decide +kernel
theorem dX3_init_508 : decode cX3_init 508 = .ok (.bipush 8, 2) := by decide +kernel
theorem dX3_init_510 : decode cX3_init 510 = .ok (.newarray .int, 2) := by decide +kernel
theorem dX3_init_512 : decode cX3_init 512 = .ok (.putfield 112, 3) := by decide +kernel
theorem dX3_init_515 : decode cX3_init 515 = .ok (.aload_n 0, 1) := by decide +kernel
theorem dX3_init_516 : decode cX3_init 516 = .ok (.bipush 8, 2) := by decide +kernel
theorem dX3_init_518 : decode cX3_init 518 = .ok (.newarray .int, 2) := by decide +kernel
theorem dX3_init_520 : decode cX3_init 520 = .ok (.putfield 115, 3) := by decide +kernel
theorem dX3_init_523 : decode cX3_init 523 = .ok (.aload_n 0, 1) := by decide +kernel
theorem dX3_init_524 : decode cX3_init 524 = .ok (.sipush 8200, 3) := by decide +kernel
theorem dX3_init_527 : decode cX3_init 527 = .ok (.newarray .int, 2) := by decide +kernel
theorem dX3_init_529 : decode cX3_init 529 = .ok (.putfield 118, 3) := by decide +kernel
theorem dX3_init_532 : decode cX3_init 532 = .ok (.aload_n 0, 1) := by decide +kernel
theorem dX3_init_533 : decode cX3_init 533 = .ok (.iload_n 1, 1) := by decide +kernel
theorem dX3_init_534 : decode cX3_init 534 = .ok (.iconst 1, 1) := by decide +kernel
theorem dX3_init_535 : decode cX3_init 535 = .ok (.if_icmp .ge 7, 3) := by decide +kernel
theorem dX3_init_538 : decode cX3_init 538 = .ok (.iconst 1, 1) := by decide +kernel
theorem dX3_init_539 : decode cX3_init 539 = .ok (.goto 15, 3) := by decide +kernel
theorem dX3_init_542 : decode cX3_init 542 = .ok (.iload_n 1, 1) := by decide +kernel
theorem dX3_init_543 : decode cX3_init 543 = .ok (.bipush 64, 2) := by decide +kernel
theorem dX3_init_545 : decode cX3_init 545 = .ok (.if_icmp .le 8, 3) := by decide +kernel
theorem dX3_init_548 : decode cX3_init 548 = .ok (.bipush 64, 2) := by decide +kernel
theorem dX3_init_550 : decode cX3_init 550 = .ok (.goto 4, 3) := by decide +kernel
theorem dX3_init_553 : decode cX3_init 553 = .ok (.iload_n 1, 1) := by decide +kernel
theorem dX3_init_554 : decode cX3_init 554 = .ok (.putfield 121, 3) := by decide +kernel
theorem dX3_init_557 : decode cX3_init 557 = .ok (.aload_n 0, 1) := by decide +kernel
theorem dX3_init_558 : decode cX3_init 558 = .ok (.aload_n 0, 1) := by decide +kernel
theorem dX3_init_559 : decode cX3_init 559 = .ok (.aload_n 0, 1) := by decide +kernel
theorem dX3_init_560 : decode cX3_init 560 = .ok (.invokevirtual 125, 3) := by decide +kernel
theorem dX3_init_563 : decode cX3_init 563 = .ok (.iconst 0, 1) := by decide +kernel
theorem dX3_init_564 : decode cX3_init 564 = .ok (.invokevirtual 129, 3) := by decide +kernel
theorem dX3_init_567 : decode cX3_init 567 = .ok (.putfield 133, 3) := by decide +kernel
theorem dX3_init_570 : decode cX3_init 570 = .ok (.aload_n 0, 1) := by decide +kernel
theorem dX3_init_571 : decode cX3_init 571 = .ok (.invokevirtual 136, 3) := by decide +kernel
theorem dX3_init_574 : decode cX3_init 574 = .ok (.pop, 1) := by decide +kernel
theorem dX3_init_575 : decode cX3_init 575 = .ok (.return_, 1) := by decide +kernel
theorem dX3_turned_0 : decode cX3_turned 0 = .ok (.iload_n 0, 1) := by decide +kernel
theorem dX3_turned_1 : decode cX3_turned 1 = .ok (.iload_n 1, 1) := by decide +kernel
theorem dX3_turned_2 : decode cX3_turned 2 = .ok (.iushr, 1) := by decide +kernel
theorem dX3_turned_3 : decode cX3_turned 3 = .ok (.iload_n 0, 1) := by decide +kernel
theorem dX3_turned_4 : decode cX3_turned 4 = .ok (.bipush 32, 2) := by decide +kernel
theorem dX3_turned_6 : decode cX3_turned 6 = .ok (.iload_n 1, 1) := by decide +kernel
theorem dX3_turned_7 : decode cX3_turned 7 = .ok (.isub, 1) := by decide +kernel
theorem dX3_turned_8 : decode cX3_turned 8 = .ok (.ishl, 1) := by decide +kernel
theorem dX3_turned_9 : decode cX3_turned 9 = .ok (.ior, 1) := by decide +kernel
theorem dX3_turned_10 : decode cX3_turned 10 = .ok (.ireturn, 1) := by decide +kernel
theorem dX3_add_0 : decode cX3_add 0 = .ok (.aload_n 0, 1) := by decide +kernel
theorem dX3_add_1 : decode cX3_add 1 = .ok (.getfield 103, 3) := by decide +kernel
theorem dX3_add_4 : decode cX3_add 4 = .ok (.aload_n 0, 1) := by decide +kernel
theorem dX3_add_5 : decode cX3_add 5 = .ok (.getfield 139, 3) := by decide +kernel
theorem dX3_add_8 : decode cX3_add 8 = .ok (.iload_n 1, 1) := by decide +kernel
theorem dX3_add_9 : decode cX3_add 9 = .ok (.sipush 255, 3) := by decide +kernel
theorem dX3_add_12 : decode cX3_add 12 = .ok (.iand, 1) := by decide +kernel
theorem dX3_add_13 : decode cX3_add 13 = .ok (.iastore, 1) := by decide +kernel
theorem dX3_add_14 : decode cX3_add 14 = .ok (.aload_n 0, 1) := by decide +kernel
theorem dX3_add_15 : decode cX3_add 15 = .ok (.dup, 1) := by decide +kernel
theorem dX3_add_16 : decode cX3_add 16 = .ok (.getfield 139, 3) := by decide +kernel
theorem dX3_add_19 : decode cX3_add 19 = .ok (.iconst 1, 1) := by decide +kernel
theorem dX3_add_20 : decode cX3_add 20 = .ok (.iadd, 1) := by decide +kernel
theorem dX3_add_21 : decode cX3_add 21 = .ok (.putfield 139, 3) := by decide +kernel
theorem dX3_add_24 : decode cX3_add 24 = .ok (.return_, 1) := by decide +kernel
set_option maxRecDepth 20000 in
theorem ggX3_hashRow_X3_add : GoodIn wsX3_hashRow wsX3_add := goodIn_r _ [9, 10, 1, 25, 26, 27, 28, 29, 30, 31, 32, 33, 34, 35, 36, 37, 38, 39, 40, 41, 42, 43, 44] (by decide +kernel) (by decide +kernel)
set_option maxRecDepth 20000 in
theorem gX3_hashRow_X3_add : GoodIn wsX3_hashRow (wsV RX3 142 RX3 yX3_add wsX3_add) := goodIn_app (goodIn_of _ (by decide +kernel)) ggX3_hashRow_X3_add
set_option maxRecDepth 20000 in
theorem ggX3_hashRow_X3_mix : GoodIn wsX3_hashRow wsX3_mix := goodIn_r _ [14, 15, 10, 16, 2, 17, 18, 8, 19, 20, 21, 22, 23, 24, 25, 26, 27, 28, 29, 30, 31, 32, 33, 34, 35, 36, 37, 38, 39, 40, 41, 42, 43, 44] (by decide +kernel) (by decide +kernel)
set_option maxRecDepth 20000 in
theorem gX3_hashRow_X3_mix : GoodIn wsX3_hashRow (wsV RX3 146 RX3 yX3_mix wsX3_mix) := goodIn_app (goodIn_of _ (by decide +kernel)) ggX3_hashRow_X3_mix
theorem dX3_hashRow_0 : decode cX3_hashRow 0 = .ok (.bipush 8, 2) := by decide +kernel
theorem dX3_hashRow_2 : decode cX3_hashRow 2 = .ok (.aload_n 0, 1) := by decide +kernel
theorem dX3_hashRow_3 : decode cX3_hashRow 3 = .ok (.getfield 139, 3) := by decide +kernel
theorem dX3_hashRow_6 : decode cX3_hashRow 6 = .ok (.imul, 1) := by decide +kernel
theorem dX3_hashRow_7 : decode cX3_hashRow 7 = .ok (.istore_n 1, 1) := by decide +kernel
theorem dX3_hashRow_8 : decode cX3_hashRow 8 = .ok (.aload_n 0, 1) := by decide +kernel
theorem dX3_hashRow_9 : decode cX3_hashRow 9 = .ok (.sipush 128, 3) := by decide +kernel
theorem dX3_hashRow_12 : decode cX3_hashRow 12 = .ok (.invokevirtual 142, 3) := by decide +kernel
theorem dX3_hashRow_15 : decode cX3_hashRow 15 = .ok (.aload_n 0, 1) := by decide +kernel
theorem dX3_hashRow_16 : decode cX3_hashRow 16 = .ok (.getfield 139, 3) := by decide +kernel
theorem dX3_hashRow_19 : decode cX3_hashRow 19 = .ok (.bipush 64, 2) := by decide +kernel
theorem dX3_hashRow_21 : decode cX3_hashRow 21 = .ok (.irem, 1) := by decide +kernel
theorem dX3_hashRow_22 : decode cX3_hashRow 22 = .ok (.bipush 56, 2) := by decide +kernel
theorem dX3_hashRow_24 : decode cX3_hashRow 24 = .ok (.if_icmp .eq 11, 3) := by decide +kernel
theorem dX3_hashRow_27 : decode cX3_hashRow 27 = .ok (.aload_n 0, 1) := by decide +kernel
theorem dX3_hashRow_28 : decode cX3_hashRow 28 = .ok (.iconst 0, 1) := by decide +kernel
theorem dX3_hashRow_29 : decode cX3_hashRow 29 = .ok (.invokevirtual 142, 3) := by decide +kernel
theorem dX3_hashRow_32 : decode cX3_hashRow 32 = .ok (.goto (-17), 3) := by decide +kernel
theorem dX3_hashRow_35 : decode cX3_hashRow 35 = .ok (.iconst 0, 1) := by decide +kernel
theorem dX3_hashRow_36 : decode cX3_hashRow 36 = .ok (.istore_n 2, 1) := by decide +kernel
theorem dX3_hashRow_37 : decode cX3_hashRow 37 = .ok (.iload_n 2, 1) := by decide +kernel
theorem dX3_hashRow_38 : decode cX3_hashRow 38 = .ok (.bipush 8, 2) := by decide +kernel
theorem dX3_hashRow_40 : decode cX3_hashRow 40 = .ok (.if_icmp .ge 33, 3) := by decide +kernel
theorem dX3_hashRow_43 : decode cX3_hashRow 43 = .ok (.aload_n 0, 1) := by decide +kernel
theorem dX3_hashRow_44 : decode cX3_hashRow 44 = .ok (.iload_n 2, 1) := by decide +kernel
theorem dX3_hashRow_45 : decode cX3_hashRow 45 = .ok (.iconst 4, 1) := by decide +kernel
theorem dX3_hashRow_46 : decode cX3_hashRow 46 = .ok (.if_icmp .ge 7, 3) := by decide +kernel
theorem dX3_hashRow_49 : decode cX3_hashRow 49 = .ok (.iconst 0, 1) := by decide +kernel
theorem dX3_hashRow_50 : decode cX3_hashRow 50 = .ok (.goto 14, 3) := by decide +kernel
theorem dX3_hashRow_53 : decode cX3_hashRow 53 = .ok (.iload_n 1, 1) := by decide +kernel
theorem dX3_hashRow_54 : decode cX3_hashRow 54 = .ok (.bipush 24, 2) := by decide +kernel
theorem dX3_hashRow_56 : decode cX3_hashRow 56 = .ok (.bipush 8, 2) := by decide +kernel
theorem dX3_hashRow_58 : decode cX3_hashRow 58 = .ok (.iload_n 2, 1) := by decide +kernel
theorem dX3_hashRow_59 : decode cX3_hashRow 59 = .ok (.iconst 4, 1) := by decide +kernel
theorem dX3_hashRow_60 : decode cX3_hashRow 60 = .ok (.isub, 1) := by decide +kernel
theorem dX3_hashRow_61 : decode cX3_hashRow 61 = .ok (.imul, 1) := by decide +kernel
theorem dX3_hashRow_62 : decode cX3_hashRow 62 = .ok (.isub, 1) := by decide +kernel
theorem dX3_hashRow_63 : decode cX3_hashRow 63 = .ok (.iushr, 1) := by decide +kernel
theorem dX3_hashRow_64 : decode cX3_hashRow 64 = .ok (.invokevirtual 142, 3) := by decide +kernel
theorem dX3_hashRow_67 : decode cX3_hashRow 67 = .ok (.iinc 2 1, 3) := by decide +kernel
theorem dX3_hashRow_70 : decode cX3_hashRow 70 = .ok (.goto (-33), 3) := by decide +kernel
theorem dX3_hashRow_73 : decode cX3_hashRow 73 = .ok (.iconst 0, 1) := by decide +kernel
theorem dX3_hashRow_74 : decode cX3_hashRow 74 = .ok (.istore_n 2, 1) := by decide +kernel
theorem dX3_hashRow_75 : decode cX3_hashRow 75 = .ok (.iload_n 2, 1) := by decide +kernel
theorem dX3_hashRow_76 : decode cX3_hashRow 76 = .ok (.bipush 8, 2) := by decide +kernel
theorem dX3_hashRow_78 : decode cX3_hashRow 78 = .ok (.if_icmp .ge 21, 3) := by decide +kernel
theorem dX3_hashRow_81 : decode cX3_hashRow 81 = .ok (.aload_n 0, 1) := by decide +kernel
theorem dX3_hashRow_82 : decode cX3_hashRow 82 = .ok (.getfield 112, 3) := by decide +kernel
theorem dX3_hashRow_85 : decode cX3_hashRow 85 = .ok (.iload_n 2, 1) := by decide +kernel
theorem dX3_hashRow_86 : decode cX3_hashRow 86 = .ok (.aload_n 0, 1) := by decide +kernel
theorem dX3_hashRow_87 : decode cX3_hashRow 87 = .ok (.getfield 85, 3) := by decide +kernel
theorem dX3_hashRow_90 : decode cX3_hashRow 90 = .ok (.iload_n 2, 1) := by decide +kernel
theorem dX3_hashRow_91 : decode cX3_hashRow 91 = .ok (.iaload, 1) := by decide +kernel
theorem dX3_hashRow_92 : decode cX3_hashRow 92 = .ok (.iastore, 1) := by decide +kernel
theorem dX3_hashRow_93 : decode cX3_hashRow 93 = .ok (.iinc 2 1, 3) := by decide +kernel
theorem dX3_hashRow_96 : decode cX3_hashRow 96 = .ok (.goto (-21), 3) := by decide +kernel
theorem dX3_hashRow_99 : decode cX3_hashRow 99 = .ok (.iconst 0, 1) := by decide +kernel
theorem dX3_hashRow_100 : decode cX3_hashRow 100 = .ok (.istore_n 2, 1) := by decide +kernel
theorem dX3_hashRow_101 : decode cX3_hashRow 101 = .ok (.iload_n 2, 1) := by decide +kernel
theorem dX3_hashRow_102 : decode cX3_hashRow 102 = .ok (.aload_n 0, 1) := by decide +kernel
theorem dX3_hashRow_103 : decode cX3_hashRow 103 = .ok (.getfield 139, 3) := by decide +kernel
theorem dX3_hashRow_106 : decode cX3_hashRow 106 = .ok (.if_icmp .ge 14, 3) := by decide +kernel
theorem dX3_hashRow_109 : decode cX3_hashRow 109 = .ok (.aload_n 0, 1) := by decide +kernel
theorem dX3_hashRow_110 : decode cX3_hashRow 110 = .ok (.iload_n 2, 1) := by decide +kernel
theorem dX3_hashRow_111 : decode cX3_hashRow 111 = .ok (.invokevirtual 146, 3) := by decide +kernel
theorem dX3_hashRow_114 : decode cX3_hashRow 114 = .ok (.iinc 2 64, 3) := by decide +kernel
theorem dX3_hashRow_117 : decode cX3_hashRow 117 = .ok (.goto (-16), 3) := by decide +kernel
theorem dX3_hashRow_120 : decode cX3_hashRow 120 = .ok (.iconst 0, 1) := by decide +kernel
theorem dX3_hashRow_121 : decode cX3_hashRow 121 = .ok (.istore_n 2, 1) := by decide +kernel
theorem dX3_hashRow_122 : decode cX3_hashRow 122 = .ok (.iload_n 2, 1) := by decide +kernel
theorem dX3_hashRow_123 : decode cX3_hashRow 123 = .ok (.bipush 32, 2) := by decide +kernel
theorem dX3_hashRow_125 : decode cX3_hashRow 125 = .ok (.if_icmp .ge 37, 3) := by decide +kernel
theorem dX3_hashRow_128 : decode cX3_hashRow 128 = .ok (.aload_n 0, 1) := by decide +kernel
theorem dX3_hashRow_129 : decode cX3_hashRow 129 = .ok (.getfield 106, 3) := by decide +kernel
theorem dX3_hashRow_132 : decode cX3_hashRow 132 = .ok (.iload_n 2, 1) := by decide +kernel
theorem dX3_hashRow_133 : decode cX3_hashRow 133 = .ok (.aload_n 0, 1) := by decide +kernel
theorem dX3_hashRow_134 : decode cX3_hashRow 134 = .ok (.getfield 112, 3) := by decide +kernel
theorem dX3_hashRow_137 : decode cX3_hashRow 137 = .ok (.iload_n 2, 1) := by decide +kernel
theorem dX3_hashRow_138 : decode cX3_hashRow 138 = .ok (.iconst 4, 1) := by decide +kernel
theorem dX3_hashRow_139 : decode cX3_hashRow 139 = .ok (.idiv, 1) := by decide +kernel
theorem dX3_hashRow_140 : decode cX3_hashRow 140 = .ok (.iaload, 1) := by decide +kernel
theorem dX3_hashRow_141 : decode cX3_hashRow 141 = .ok (.bipush 24, 2) := by decide +kernel
theorem dX3_hashRow_143 : decode cX3_hashRow 143 = .ok (.bipush 8, 2) := by decide +kernel
theorem dX3_hashRow_145 : decode cX3_hashRow 145 = .ok (.iload_n 2, 1) := by decide +kernel
theorem dX3_hashRow_146 : decode cX3_hashRow 146 = .ok (.iconst 4, 1) := by decide +kernel
theorem dX3_hashRow_147 : decode cX3_hashRow 147 = .ok (.irem, 1) := by decide +kernel
theorem dX3_hashRow_148 : decode cX3_hashRow 148 = .ok (.imul, 1) := by decide +kernel
theorem dX3_hashRow_149 : decode cX3_hashRow 149 = .ok (.isub, 1) := by decide +kernel
theorem dX3_hashRow_150 : decode cX3_hashRow 150 = .ok (.iushr, 1) := by decide +kernel
theorem dX3_hashRow_151 : decode cX3_hashRow 151 = .ok (.sipush 255, 3) := by decide +kernel
theorem dX3_hashRow_154 : decode cX3_hashRow 154 = .ok (.iand, 1) := by decide +kernel
theorem dX3_hashRow_155 : decode cX3_hashRow 155 = .ok (.iastore, 1) := by decide +kernel
theorem dX3_hashRow_156 : decode cX3_hashRow 156 = .ok (.iinc 2 1, 3) := by decide +kernel
theorem dX3_hashRow_159 : decode cX3_hashRow 159 = .ok (.goto (-37), 3) := by decide +kernel
theorem dX3_hashRow_162 : decode cX3_hashRow 162 = .ok (.return_, 1) := by decide +kernel
set_option maxRecDepth 20000 in
theorem ggX3_mix_X3_turned : GoodIn wsX3_mix wsX3_turned := goodIn_r _ [8] (by decide +kernel) (by decide +kernel)
set_option maxRecDepth 20000 in
theorem gX3_mix_X3_turned : GoodIn wsX3_mix (va_wsS RX3 149 yX3_turned wsX3_turned) := goodIn_app (goodIn_of _ (by decide +kernel)) ggX3_mix_X3_turned
set_option maxRecDepth 20000 in
theorem ggX3_mix_X3_round : GoodIn wsX3_mix wsX3_round := goodIn_r _ [12, 3, 13, 1, 5, 6, 7, 8, 14, 15, 16, 17, 18, 19, 20, 21, 22, 23, 24, 25, 26, 27, 28, 29, 30, 31, 32, 33] (by decide +kernel) (by decide +kernel)
set_option maxRecDepth 20000 in
theorem gX3_mix_X3_round : GoodIn wsX3_mix (wsV RX3 152 RX3 yX3_round wsX3_round) := goodIn_app (goodIn_of _ (by decide +kernel)) ggX3_mix_X3_round
theorem dX3_mix_0 : decode cX3_mix 0 = .ok (.iconst 0, 1) := by decide +kernel
theorem dX3_mix_1 : decode cX3_mix 1 = .ok (.istore_n 2, 1) := by decide +kernel
theorem dX3_mix_2 : decode cX3_mix 2 = .ok (.iload_n 2, 1) := by decide +kernel
theorem dX3_mix_3 : decode cX3_mix 3 = .ok (.bipush 16, 2) := by decide +kernel
theorem dX3_mix_5 : decode cX3_mix 5 = .ok (.if_icmp .ge 63, 3) := by decide +kernel
theorem dX3_mix_8 : decode cX3_mix 8 = .ok (.iload_n 1, 1) := by decide +kernel
theorem dX3_mix_9 : decode cX3_mix 9 = .ok (.iconst 4, 1) := by decide +kernel
theorem dX3_mix_10 : decode cX3_mix 10 = .ok (.iload_n 2, 1) := by decide +kernel
theorem dX3_mix_11 : decode cX3_mix 11 = .ok (.imul, 1) := by decide +kernel
theorem dX3_mix_12 : decode cX3_mix 12 = .ok (.iadd, 1) := by decide +kernel
theorem dX3_mix_13 : decode cX3_mix 13 = .ok (.istore_n 3, 1) := by decide +kernel
theorem dX3_mix_14 : decode cX3_mix 14 = .ok (.aload_n 0, 1) := by decide +kernel
theorem dX3_mix_15 : decode cX3_mix 15 = .ok (.getfield 109, 3) := by decide +kernel
theorem dX3_mix_18 : decode cX3_mix 18 = .ok (.iload_n 2, 1) := by decide +kernel
theorem dX3_mix_19 : decode cX3_mix 19 = .ok (.aload_n 0, 1) := by decide +kernel
theorem dX3_mix_20 : decode cX3_mix 20 = .ok (.getfield 103, 3) := by decide +kernel
theorem dX3_mix_23 : decode cX3_mix 23 = .ok (.iload_n 3, 1) := by decide +kernel
theorem dX3_mix_24 : decode cX3_mix 24 = .ok (.iaload, 1) := by decide +kernel
theorem dX3_mix_25 : decode cX3_mix 25 = .ok (.bipush 24, 2) := by decide +kernel
theorem dX3_mix_27 : decode cX3_mix 27 = .ok (.ishl, 1) := by decide +kernel
theorem dX3_mix_28 : decode cX3_mix 28 = .ok (.aload_n 0, 1) := by decide +kernel
theorem dX3_mix_29 : decode cX3_mix 29 = .ok (.getfield 103, 3) := by decide +kernel
theorem dX3_mix_32 : decode cX3_mix 32 = .ok (.iload_n 3, 1) := by decide +kernel
theorem dX3_mix_33 : decode cX3_mix 33 = .ok (.iconst 1, 1) := by decide +kernel
theorem dX3_mix_34 : decode cX3_mix 34 = .ok (.iadd, 1) := by decide +kernel
theorem dX3_mix_35 : decode cX3_mix 35 = .ok (.iaload, 1) := by decide +kernel
theorem dX3_mix_36 : decode cX3_mix 36 = .ok (.bipush 16, 2) := by decide +kernel
theorem dX3_mix_38 : decode cX3_mix 38 = .ok (.ishl, 1) := by decide +kernel
theorem dX3_mix_39 : decode cX3_mix 39 = .ok (.ior, 1) := by decide +kernel
theorem dX3_mix_40 : decode cX3_mix 40 = .ok (.aload_n 0, 1) := by decide +kernel
theorem dX3_mix_41 : decode cX3_mix 41 = .ok (.getfield 103, 3) := by decide +kernel
theorem dX3_mix_44 : decode cX3_mix 44 = .ok (.iload_n 3, 1) := by decide +kernel
theorem dX3_mix_45 : decode cX3_mix 45 = .ok (.iconst 2, 1) := by decide +kernel
theorem dX3_mix_46 : decode cX3_mix 46 = .ok (.iadd, 1) := by decide +kernel
theorem dX3_mix_47 : decode cX3_mix 47 = .ok (.iaload, 1) := by decide +kernel
theorem dX3_mix_48 : decode cX3_mix 48 = .ok (.bipush 8, 2) := by decide +kernel
theorem dX3_mix_50 : decode cX3_mix 50 = .ok (.ishl, 1) := by decide +kernel
theorem dX3_mix_51 : decode cX3_mix 51 = .ok (.ior, 1) := by decide +kernel
theorem dX3_mix_52 : decode cX3_mix 52 = .ok (.aload_n 0, 1) := by decide +kernel
theorem dX3_mix_53 : decode cX3_mix 53 = .ok (.getfield 103, 3) := by decide +kernel
theorem dX3_mix_56 : decode cX3_mix 56 = .ok (.iload_n 3, 1) := by decide +kernel
theorem dX3_mix_57 : decode cX3_mix 57 = .ok (.iconst 3, 1) := by decide +kernel
theorem dX3_mix_58 : decode cX3_mix 58 = .ok (.iadd, 1) := by decide +kernel
theorem dX3_mix_59 : decode cX3_mix 59 = .ok (.iaload, 1) := by decide +kernel
theorem dX3_mix_60 : decode cX3_mix 60 = .ok (.ior, 1) := by decide +kernel
theorem dX3_mix_61 : decode cX3_mix 61 = .ok (.iastore, 1) := by decide +kernel
theorem dX3_mix_62 : decode cX3_mix 62 = .ok (.iinc 2 1, 3) := by decide +kernel
theorem dX3_mix_65 : decode cX3_mix 65 = .ok (.goto (-63), 3) := by decide +kernel
theorem dX3_mix_68 : decode cX3_mix 68 = .ok (.bipush 16, 2) := by decide +kernel
theorem dX3_mix_70 : decode cX3_mix 70 = .ok (.istore_n 2, 1) := by decide +kernel
theorem dX3_mix_71 : decode cX3_mix 71 = .ok (.iload_n 2, 1) := by decide +kernel
theorem dX3_mix_72 : decode cX3_mix 72 = .ok (.bipush 64, 2) := by decide +kernel
theorem dX3_mix_74 : decode cX3_mix 74 = .ok (.if_icmp .ge 102, 3) := by decide +kernel
theorem dX3_mix_77 : decode cX3_mix 77 = .ok (.aload_n 0, 1) := by decide +kernel
theorem dX3_mix_78 : decode cX3_mix 78 = .ok (.getfield 109, 3) := by decide +kernel
theorem dX3_mix_81 : decode cX3_mix 81 = .ok (.iload_n 2, 1) := by decide +kernel
theorem dX3_mix_82 : decode cX3_mix 82 = .ok (.bipush 15, 2) := by decide +kernel
theorem dX3_mix_84 : decode cX3_mix 84 = .ok (.isub, 1) := by decide +kernel
theorem dX3_mix_85 : decode cX3_mix 85 = .ok (.iaload, 1) := by decide +kernel
theorem dX3_mix_86 : decode cX3_mix 86 = .ok (.istore_n 3, 1) := by decide +kernel
theorem dX3_mix_87 : decode cX3_mix 87 = .ok (.aload_n 0, 1) := by decide +kernel
theorem dX3_mix_88 : decode cX3_mix 88 = .ok (.getfield 109, 3) := by decide +kernel
theorem dX3_mix_91 : decode cX3_mix 91 = .ok (.iload_n 2, 1) := by decide +kernel
theorem dX3_mix_92 : decode cX3_mix 92 = .ok (.iconst 2, 1) := by decide +kernel
theorem dX3_mix_93 : decode cX3_mix 93 = .ok (.isub, 1) := by decide +kernel
theorem dX3_mix_94 : decode cX3_mix 94 = .ok (.iaload, 1) := by decide +kernel
theorem dX3_mix_95 : decode cX3_mix 95 = .ok (.istore 4, 2) := by decide +kernel
theorem dX3_mix_97 : decode cX3_mix 97 = .ok (.iload_n 3, 1) := by decide +kernel
theorem dX3_mix_98 : decode cX3_mix 98 = .ok (.bipush 7, 2) := by decide +kernel
theorem dX3_mix_100 : decode cX3_mix 100 = .ok (.invokestatic 149, 3) := by decide +kernel
theorem dX3_mix_103 : decode cX3_mix 103 = .ok (.iload_n 3, 1) := by decide +kernel
theorem dX3_mix_104 : decode cX3_mix 104 = .ok (.bipush 18, 2) := by decide +kernel
theorem dX3_mix_106 : decode cX3_mix 106 = .ok (.invokestatic 149, 3) := by decide +kernel
theorem dX3_mix_109 : decode cX3_mix 109 = .ok (.ixor, 1) := by decide +kernel
theorem dX3_mix_110 : decode cX3_mix 110 = .ok (.iload_n 3, 1) := by decide +kernel
theorem dX3_mix_111 : decode cX3_mix 111 = .ok (.iconst 3, 1) := by decide +kernel
theorem dX3_mix_112 : decode cX3_mix 112 = .ok (.iushr, 1) := by decide +kernel
theorem dX3_mix_113 : decode cX3_mix 113 = .ok (.ixor, 1) := by decide +kernel
theorem dX3_mix_114 : decode cX3_mix 114 = .ok (.istore 5, 2) := by decide +kernel
theorem dX3_mix_116 : decode cX3_mix 116 = .ok (.iload 4, 2) := by decide +kernel
theorem dX3_mix_118 : decode cX3_mix 118 = .ok (.bipush 17, 2) := by decide +kernel
theorem dX3_mix_120 : decode cX3_mix 120 = .ok (.invokestatic 149, 3) := by decide +kernel
theorem dX3_mix_123 : decode cX3_mix 123 = .ok (.iload 4, 2) := by decide +kernel
theorem dX3_mix_125 : decode cX3_mix 125 = .ok (.bipush 19, 2) := by decide +kernel
theorem dX3_mix_127 : decode cX3_mix 127 = .ok (.invokestatic 149, 3) := by decide +kernel
end
section
set_option maxHeartbeats 4000000 in
set_option maxRecDepth 100000 in
theorem c_X2_isBelow (l : Launch) (G : va_G) (cA : ClassId) (tF tC : Nat) (g : Nat → Nat) (sz N : Nat) (hN : 1 ≤ N ∧ N ≤ 64) (D R F KD KR FL SU WO : Nat → Int32) (ln kp rd wr ft : Int32) (x : Int32) (zn : Nat) (hn : zn < 2 ^ 31) : CI l yX2_isBelow wsX2_isBelow 0 0 G cA tF tC g 13 sz (xW g cA N D R F KD KR FL SU WO ln kp rd wr ft) [.int x, .int (nI zn)] (fun (u : Unit) => xW g cA N D R F KD KR FL SU WO ln kp rd wr ft) (fun r _ => r = inB x zn) := by
  refine x_entryZ (cc := cX2_isBelow) (maxL := 2) (by decide) rfl (fun _ => rfl) (Nat.le_of_ble_eq_true rfl) ?_
  intro p e s m args below meth c Q hx hb hml hown hts hK hP hD hS hT hret ls hl
  have hown : s.vm.findClass RX2 = some m.cls := hown
  have hl : lv_has ls 2 [(0, .int x), (1, .int (nI zn))] := hl
  refine lv_iload_n hx hb dX2_isBelow_0 rfl (lv_at hl 0 rfl) ?_
  refine lv_if_lt (tgt := 13) hx hb dX2_isBelow_1 (by decide) (fun c_1 => ?_) (fun c_1 => ?_)
  · skip
    have hc := inB_f1 (n := zn) c_1
    refine lv_iconst (v := 0) hx hb dX2_isBelow_13 (by decide) ?_
    exact hret _ () _ _ _ _ dX2_isBelow_14 hP hD hS rfl hc.symm
  · skip
    have hc1 := c_1
    refine lv_iload_n hx hb dX2_isBelow_4 rfl (lv_at hl 0 rfl) ?_
    refine lv_iload_n hx hb dX2_isBelow_5 rfl (lv_at hl 1 rfl) ?_
    refine lv_icmp_ge (tgt := 13) hx hb dX2_isBelow_6 (by decide) (fun c_2 => ?_) (fun c_2 => ?_)
    · skip
      have hc := inB_f2 hn c_2
      refine lv_iconst (v := 0) hx hb dX2_isBelow_13 (by decide) ?_
      exact hret _ () _ _ _ _ dX2_isBelow_14 hP hD hS rfl hc.symm
    · skip
      have hc := inB_t hn hc1 c_2
      refine lv_iconst (v := 1) hx hb dX2_isBelow_9 (by decide) ?_
      refine lv_goto (tgt := 14) hx hb dX2_isBelow_10 (by decide) ?_
      exact hret _ () _ _ _ _ dX2_isBelow_14 hP hD hS rfl hc.symm

set_option maxHeartbeats 4000000 in
set_option maxRecDepth 100000 in
theorem c_X1_hasPage (l : Launch) (G : va_G) (cA : ClassId) (tF tC : Nat) (g : Nat → Nat) (sz N : Nat) (hN : 1 ≤ N ∧ N ≤ 64) (D R F KD KR FL SU WO : Nat → Int32) (ln kp rd wr ft : Int32) (x : Int32) : CI l yX1_hasPage wsX1_hasPage 1 21 G cA tF tC g 13 sz (xW g cA N D R F KD KR FL SU WO ln kp rd wr ft) [.ref (g 1), .int x] (fun (u : Unit) => xW g cA N D R F KD KR FL SU WO ln kp rd wr ft) (fun r _ => r = inB x N) := by
  refine x_entryZ (cc := cX1_hasPage) (maxL := 2) (by decide) rfl (fun _ => rfl) (Nat.le_of_ble_eq_true rfl) ?_
  intro p e s m args below meth c Q hx hb hml hown hts hK hP hD hS hT hret ls hl
  have hown : s.vm.findClass RX1 = some m.cls := hown
  have hl : lv_has ls 2 [(0, .ref (g 1)), (1, .int x)] := hl
  have hinX1 : ∀ w ∈ wsX10, w ∈ wsX1_hasPage := by decide +kernel
  refine lv_iload_n hx hb dX1_hasPage_0 rfl (lv_at hl 1 rfl) ?_
  refine lv_aload_n hx hb dX1_hasPage_1 rfl (lv_at hl 0 rfl) ?_
  refine va_get (D := G) (ci := 1) (v := .int (nI N)) (C := RX1) (T := TX1) (N := 6) hx hb hts hinX1 hown hK hP 1 rfl rfl 0 (by decide) (hts (.fieldLink RX1 9 "SealedPages$Layout" "pageCount" "I") (by decide +kernel)) (fun _ h => h) rfl dX1_hasPage_2 ?_
  refine x_ni (host := "SealedPages") ⟨hx, hb, hml, hown, hts⟩ (c_X2_isBelow l G cA tF tC g _ N hN D R F KD KR FL SU WO ln kp rd wr ft x N (by omega)) ⟨va_cnB 2 hts gX1_hasPage_X2_isBelow_n31 rfl rfl rfl (show va_Nw (.methodLinkNest RX1 31 yX2_isBelow "SealedPages") s from hT.2.2.2.2) (hts (.initialized RX2) (by decide +kernel)) (by decide +kernel) ⟨Nat.le_of_ble_eq_true rfl, Nat.le_of_ble_eq_true rfl⟩, hts (.static yX2_isBelow) (by decide +kernel), trivial⟩ hK hP hD hS hT rfl rfl hl.1 rfl (Nat.le_of_ble_eq_true rfl) dX1_hasPage_5 ⟨Nat.le_refl _, Nat.le_refl _⟩ (fun r_2 u H locs hp_1 hP hD hS => ?_)
  have hP : va_P G vwCl (xW g cA N D R F KD KR FL SU WO ln kp rd wr ft) _ := hP
  have hD : va_D _ (xW g cA N D R F KD KR FL SU WO ln kp rd wr ft) := hD
  have hp_1 : r_2 = inB x N := hp_1
  subst hp_1
  exact hret _ () _ _ _ _ dX1_hasPage_8 hP hD hS (inB_z _ _) rfl

set_option maxHeartbeats 4000000 in
set_option maxRecDepth 100000 in
theorem c_X1_hasNode (l : Launch) (G : va_G) (cA : ClassId) (tF tC : Nat) (g : Nat → Nat) (sz N : Nat) (hN : 1 ≤ N ∧ N ≤ 64) (D R F KD KR FL SU WO : Nat → Int32) (ln kp rd wr ft : Int32) (x y : Int32) : CI l yX1_hasNode wsX1_hasNode 1 21 G cA tF tC g 13 sz (xW g cA N D R F KD KR FL SU WO ln kp rd wr ft) [.ref (g 1), .int x, .int y] (fun (u : Unit) => xW g cA N D R F KD KR FL SU WO ln kp rd wr ft) (fun r _ => r = inN N x y) := by
  refine x_entryZ (cc := cX1_hasNode) (maxL := 3) (by decide) rfl (fun _ => rfl) (Nat.le_of_ble_eq_true rfl) ?_
  intro p e s m args below meth c Q hx hb hml hown hts hK hP hD hS hT hret ls hl
  have hown : s.vm.findClass RX1 = some m.cls := hown
  have hl : lv_has ls 3 [(0, .ref (g 1)), (1, .int x), (2, .int y)] := hl
  have hinX1 : ∀ w ∈ wsX10, w ∈ wsX1_hasNode := by decide +kernel
  have hz := siz_le hN
  have hse := siz_eq N
  have hnd := nds_le hN
  have hlv := lvs_in hN
  refine lv_iload_n hx hb dX1_hasNode_0 rfl (lv_at hl 1 rfl) ?_
  refine lv_aload_n hx hb dX1_hasNode_1 rfl (lv_at hl 0 rfl) ?_
  refine va_get (D := G) (ci := 1) (v := .int (nI (lvs N))) (C := RX1) (T := TX1) (N := 6) hx hb hts hinX1 hown hK hP 1 rfl rfl 1 (by decide) (hts (.fieldLink RX1 22 "SealedPages$Layout" "levelCount" "I") (by decide +kernel)) (fun _ h => h) rfl dX1_hasNode_2 ?_
  refine x_ni (host := "SealedPages") ⟨hx, hb, hml, hown, hts⟩ (c_X2_isBelow l G cA tF tC g _ N hN D R F KD KR FL SU WO ln kp rd wr ft x (lvs N) (by omega)) ⟨va_cnB 2 hts gX1_hasNode_X2_isBelow_n31 rfl rfl rfl (show va_Nw (.methodLinkNest RX1 31 yX2_isBelow "SealedPages") s from hT.2.2.2.2) (hts (.initialized RX2) (by decide +kernel)) (by decide +kernel) ⟨Nat.le_of_ble_eq_true rfl, Nat.le_of_ble_eq_true rfl⟩, hts (.static yX2_isBelow) (by decide +kernel), trivial⟩ hK hP hD hS hT rfl rfl hl.1 rfl (Nat.le_of_ble_eq_true rfl) dX1_hasNode_5 ⟨Nat.le_refl _, Nat.le_refl _⟩ (fun r_2 u H locs hp_1 hP hD hS => ?_)
  have hP : va_P G vwCl (xW g cA N D R F KD KR FL SU WO ln kp rd wr ft) _ := hP
  have hD : va_D _ (xW g cA N D R F KD KR FL SU WO ln kp rd wr ft) := hD
  have hp_1 : r_2 = inB x (lvs N) := hp_1
  subst hp_1
  refine lv_if_eq (tgt := 28) hx hb dX1_hasNode_8 (by decide) (fun c_3 => ?_) (fun c_3 => ?_)
  · skip
    have hc := (inN_0 (y := y) c_3).symm
    refine lv_iconst (v := 0) hx hb dX1_hasNode_28 (by decide) ?_
    exact hret _ () _ _ _ _ dX1_hasNode_29 hP hD hS rfl hc
  · skip
    obtain ⟨zq, hq, rfl⟩ := inB_1 (by omega) c_3
    have hnq := nod_le N hN.1 zq
    have hl : lv_has ls 3 [(0, .ref (g 1)), (1, .int (nI zq)), (2, .int y)] := hl
    refine lv_iload_n hx hb dX1_hasNode_11 rfl (lv_at hl 2 rfl) ?_
    refine lv_aload_n hx hb dX1_hasNode_12 rfl (lv_at hl 0 rfl) ?_
    refine va_get (D := G) (ci := 1) (v := .ref (g 9)) (C := RX1) (T := TX1) (N := 6) hx hb hts hinX1 hown hK hP 1 rfl rfl 4 (by decide) (hts (.fieldLink RX1 15 "SealedPages$Layout" "widths" "[I") (by decide +kernel)) (fun _ h => h) rfl dX1_hasNode_13 ?_
    refine lv_iload_n hx hb dX1_hasNode_16 rfl (lv_at hl 1 rfl) ?_
    refine x_ald (i := zq) hx hb hK hP 9 0 rfl rfl (by omega) (by decide) dX1_hasNode_17 ?_
    refine x_eqi (y := nI (nod N zq)) (wid_at hq) ?_
    refine x_ni (host := "SealedPages") ⟨hx, hb, hml, hown, hts⟩ (c_X2_isBelow l G cA tF tC g _ N hN D R F KD KR FL SU WO ln kp rd wr ft y (nod N zq) (by omega)) ⟨va_cnB 2 hts gX1_hasNode_X2_isBelow_n31 rfl rfl rfl (show va_Nw (.methodLinkNest RX1 31 yX2_isBelow "SealedPages") s from hT.2.2.2.2) (hts (.initialized RX2) (by decide +kernel)) (by decide +kernel) ⟨Nat.le_of_ble_eq_true rfl, Nat.le_of_ble_eq_true rfl⟩, hts (.static yX2_isBelow) (by decide +kernel), trivial⟩ hK hP hD hS hT rfl rfl hl.1 rfl (Nat.le_of_ble_eq_true rfl) dX1_hasNode_18 ⟨Nat.le_refl _, Nat.le_refl _⟩ (fun r_5 u H locs hp_4 hP hD hS => ?_)
    have hP : va_P G vwCl (xW g cA N D R F KD KR FL SU WO ln kp rd wr ft) _ := hP
    have hD : va_D _ (xW g cA N D R F KD KR FL SU WO ln kp rd wr ft) := hD
    have hp_4 : r_5 = inB y (nod N zq) := hp_4
    subst hp_4
    refine lv_if_eq (tgt := 28) hx hb dX1_hasNode_21 (by decide) (fun c_6 => ?_) (fun c_6 => ?_)
    · skip
      have hc : (0 : Int32) = inN N (nI zq) y := by rw [inN_o hN hq, c_6]
      refine lv_iconst (v := 0) hx hb dX1_hasNode_28 (by decide) ?_
      exact hret _ () _ _ _ _ dX1_hasNode_29 hP hD hS rfl hc
    · skip
      have hc : (1 : Int32) = inN N (nI zq) y := by rw [inN_o hN hq]; exact ((inB_01 _ _).resolve_left c_6).symm
      refine lv_iconst (v := 1) hx hb dX1_hasNode_24 (by decide) ?_
      refine lv_goto (tgt := 29) hx hb dX1_hasNode_25 (by decide) ?_
      exact hret _ () _ _ _ _ dX1_hasNode_29 hP hD hS rfl hc

set_option maxHeartbeats 4000000 in
set_option maxRecDepth 100000 in
theorem c_X1_placeOfPage (l : Launch) (G : va_G) (cA : ClassId) (tF tC : Nat) (g : Nat → Nat) (sz N : Nat) (hN : 1 ≤ N ∧ N ≤ 64) (D R F KD KR FL SU WO : Nat → Int32) (ln kp rd wr ft : Int32) (p0 : Nat) : CI l yX1_placeOfPage wsX1_placeOfPage 0 0 G cA tF tC g 13 sz (xW g cA N D R F KD KR FL SU WO ln kp rd wr ft) [.ref (g 1), .int (nI p0)] (fun (u : Unit) => xW g cA N D R F KD KR FL SU WO ln kp rd wr ft) (fun r _ => r = nI (8 + 64 * p0)) := by
  refine x_entryI (cc := cX1_placeOfPage) (maxL := 2) (by decide) rfl (fun _ => rfl) (Nat.le_of_ble_eq_true rfl) ?_
  intro p e s m args below meth c Q hx hb hml hown hts hK hP hD hS hT hret ls hl
  have hown : s.vm.findClass RX1 = some m.cls := hown
  have hl : lv_has ls 2 [(0, .ref (g 1)), (1, .int (nI p0))] := hl
  refine lv_bipush (v := 8) hx hb dX1_placeOfPage_0 (by decide) ?_
  refine lv_bipush (v := 64) hx hb dX1_placeOfPage_2 (by decide) ?_
  refine lv_iload_n hx hb dX1_placeOfPage_4 rfl (lv_at hl 1 rfl) ?_
  refine lv_imul hx hb dX1_placeOfPage_5 ?_
  refine x_eqi (y := nI (64 * p0)) (pk_mul 64 p0) ?_
  refine lv_iadd hx hb dX1_placeOfPage_6 ?_
  refine x_eqi (y := nI (8 + (64 * p0))) (nI_add 8 (64 * p0)) ?_
  exact hret _ () _ _ _ _ dX1_placeOfPage_7 hP hD hS rfl

set_option maxHeartbeats 4000000 in
set_option maxRecDepth 100000 in
theorem c_X1_numberOfNode (l : Launch) (G : va_G) (cA : ClassId) (tF tC : Nat) (g : Nat → Nat) (sz N : Nat) (hN : 1 ≤ N ∧ N ≤ 64) (D R F KD KR FL SU WO : Nat → Int32) (ln kp rd wr ft : Int32) (ql qk : Nat) (hql : ql < lvs N) : CI l yX1_numberOfNode wsX1_numberOfNode 0 0 G cA tF tC g 13 sz (xW g cA N D R F KD KR FL SU WO ln kp rd wr ft) [.ref (g 1), .int (nI ql), .int (nI qk)] (fun (u : Unit) => xW g cA N D R F KD KR FL SU WO ln kp rd wr ft) (fun r _ => r = nI (ahd N ql + qk)) := by
  refine x_entryI (cc := cX1_numberOfNode) (maxL := 3) (by decide) rfl (fun _ => rfl) (Nat.le_of_ble_eq_true rfl) ?_
  intro p e s m args below meth c Q hx hb hml hown hts hK hP hD hS hT hret ls hl
  have hown : s.vm.findClass RX1 = some m.cls := hown
  have hl : lv_has ls 3 [(0, .ref (g 1)), (1, .int (nI ql)), (2, .int (nI qk))] := hl
  have hinX1 : ∀ w ∈ wsX10, w ∈ wsX1_numberOfNode := by decide +kernel
  have hz := siz_le hN
  have hse := siz_eq N
  have hnd := nds_le hN
  have hlv := lvs_in hN
  refine lv_aload_n hx hb dX1_numberOfNode_0 rfl (lv_at hl 0 rfl) ?_
  refine va_get (D := G) (ci := 1) (v := .ref (g 10)) (C := RX1) (T := TX1) (N := 6) hx hb hts hinX1 hown hK hP 1 rfl rfl 5 (by decide) (hts (.fieldLink RX1 19 "SealedPages$Layout" "nodesAhead" "[I") (by decide +kernel)) (fun _ h => h) rfl dX1_numberOfNode_1 ?_
  refine lv_iload_n hx hb dX1_numberOfNode_4 rfl (lv_at hl 1 rfl) ?_
  refine x_ald (i := ql) hx hb hK hP 10 0 rfl rfl (by omega) (by decide) dX1_numberOfNode_5 ?_
  refine x_eqi (y := nI (ahd N ql)) (ahA_at hql) ?_
  refine lv_iload_n hx hb dX1_numberOfNode_6 rfl (lv_at hl 2 rfl) ?_
  refine lv_iadd hx hb dX1_numberOfNode_7 ?_
  refine x_eqi (y := nI ((ahd N ql) + qk)) (nI_add (ahd N ql) qk) ?_
  exact hret _ () _ _ _ _ dX1_numberOfNode_8 hP hD hS rfl

set_option maxHeartbeats 4000000 in
set_option maxRecDepth 100000 in
theorem c_X1_placeOfNode (l : Launch) (G : va_G) (cA : ClassId) (tF tC : Nat) (g : Nat → Nat) (sz N : Nat) (hN : 1 ≤ N ∧ N ≤ 64) (D R F KD KR FL SU WO : Nat → Int32) (ln kp rd wr ft : Int32) (ql qk : Nat) (hql : ql < lvs N) : CI l yX1_placeOfNode wsX1_placeOfNode 1 22 G cA tF tC g 13 sz (xW g cA N D R F KD KR FL SU WO ln kp rd wr ft) [.ref (g 1), .int (nI ql), .int (nI qk)] (fun (u : Unit) => xW g cA N D R F KD KR FL SU WO ln kp rd wr ft) (fun r _ => r = nI (plc N ql qk)) := by
  refine x_entryI (cc := cX1_placeOfNode) (maxL := 3) (by decide) rfl (fun _ => rfl) (Nat.le_of_ble_eq_true rfl) ?_
  intro p e s m args below meth c Q hx hb hml hown hts hK hP hD hS hT hret ls hl
  have hown : s.vm.findClass RX1 = some m.cls := hown
  have hl : lv_has ls 3 [(0, .ref (g 1)), (1, .int (nI ql)), (2, .int (nI qk))] := hl
  have hinX1 : ∀ w ∈ wsX10, w ∈ wsX1_placeOfNode := by decide +kernel
  have hz := siz_le hN
  have hse := siz_eq N
  have hnd := nds_le hN
  have hlv := lvs_in hN
  refine lv_bipush (v := 8) hx hb dX1_placeOfNode_0 (by decide) ?_
  refine lv_bipush (v := 64) hx hb dX1_placeOfNode_2 (by decide) ?_
  refine lv_aload_n hx hb dX1_placeOfNode_4 rfl (lv_at hl 0 rfl) ?_
  refine va_get (D := G) (ci := 1) (v := .int (nI N)) (C := RX1) (T := TX1) (N := 6) hx hb hts hinX1 hown hK hP 1 rfl rfl 0 (by decide) (hts (.fieldLink RX1 9 "SealedPages$Layout" "pageCount" "I") (by decide +kernel)) (fun _ h => h) rfl dX1_placeOfNode_5 ?_
  refine lv_imul hx hb dX1_placeOfNode_8 ?_
  refine x_eqi (y := nI (64 * N)) (pk_mul 64 N) ?_
  refine lv_iadd hx hb dX1_placeOfNode_9 ?_
  refine x_eqi (y := nI (8 + (64 * N))) (nI_add 8 (64 * N)) ?_
  refine lv_bipush (v := 32) hx hb dX1_placeOfNode_10 (by decide) ?_
  refine lv_aload_n hx hb dX1_placeOfNode_12 rfl (lv_at hl 0 rfl) ?_
  refine lv_iload_n hx hb dX1_placeOfNode_13 rfl (lv_at hl 1 rfl) ?_
  refine lv_iload_n hx hb dX1_placeOfNode_14 rfl (lv_at hl 2 rfl) ?_
  refine x_vi ⟨hx, hb, hml, hown, hts⟩ (c_X1_numberOfNode l G cA tF tC g _ N hN D R F KD KR FL SU WO ln kp rd wr ft ql qk hql) (cwV 2 hts gX1_placeOfNode_X1_numberOfNode rfl rfl rfl (by decide +kernel) ⟨Nat.le_of_ble_eq_true rfl, Nat.le_of_ble_eq_true rfl⟩) hK hP hD hS hT rfl 1 1 rfl rfl rfl hl.1 rfl (Nat.le_of_ble_eq_true rfl) dX1_placeOfNode_15 ⟨Nat.le_refl _, Nat.le_refl _⟩ (fun r_2 u H locs hp_1 hP hD hS => ?_)
  have hP : va_P G vwCl (xW g cA N D R F KD KR FL SU WO ln kp rd wr ft) _ := hP
  have hD : va_D _ (xW g cA N D R F KD KR FL SU WO ln kp rd wr ft) := hD
  have hp_1 : r_2 = nI (ahd N ql + qk) := hp_1
  subst hp_1
  refine lv_imul hx hb dX1_placeOfNode_18 ?_
  refine x_eqi (y := nI (32 * (ahd N ql + qk))) (pk_mul 32 (ahd N ql + qk)) ?_
  refine lv_iadd hx hb dX1_placeOfNode_19 ?_
  refine x_eqi (y := nI ((8 + (64 * N)) + (32 * (ahd N ql + qk)))) (nI_add (8 + (64 * N)) (32 * (ahd N ql + qk))) ?_
  exact hret _ () _ _ _ _ dX1_placeOfNode_20 hP hD hS rfl

set_option maxHeartbeats 4000000 in
set_option maxRecDepth 100000 in
theorem c_X2_nodeBesideWay (l : Launch) (G : va_G) (cA : ClassId) (tF tC : Nat) (g : Nat → Nat) (sz N : Nat) (hN : 1 ≤ N ∧ N ≤ 64) (D R F KD KR FL SU WO : Nat → Int32) (ln kp rd wr ft : Int32) (p0 ql : Nat) (hp0 : p0 < 64) (hql : ql < 7) : CI l yX2_nodeBesideWay wsX2_nodeBesideWay 0 0 G cA tF tC g 13 sz (xW g cA N D R F KD KR FL SU WO ln kp rd wr ft) [.int (nI p0), .int (nI ql)] (fun (u : Unit) => xW g cA N D R F KD KR FL SU WO ln kp rd wr ft) (fun r _ => r = nI (bsd p0 ql)) := by
  refine x_entryI (cc := cX2_nodeBesideWay) (maxL := 2) (by decide) rfl (fun _ => rfl) (Nat.le_of_ble_eq_true rfl) ?_
  intro p e s m args below meth c Q hx hb hml hown hts hK hP hD hS hT hret ls hl
  have hown : s.vm.findClass RX2 = some m.cls := hown
  have hl : lv_has ls 2 [(0, .int (nI p0)), (1, .int (nI ql))] := hl
  have hpw : p0 / 2 ^ ql ≤ p0 := Nat.div_le_self _ _
  refine lv_iload_n hx hb dX2_nodeBesideWay_0 rfl (lv_at hl 0 rfl) ?_
  refine lv_iload_n hx hb dX2_nodeBesideWay_1 rfl (lv_at hl 1 rfl) ?_
  refine lv_ishr hx hb dX2_nodeBesideWay_2 ?_
  refine x_eqi (y := nI (p0 / 2 ^ ql)) (pk_shrN (n := p0) (by omega) _ ql (s_l _ (by omega))) ?_
  refine lv_iconst (v := 1) hx hb dX2_nodeBesideWay_3 (by decide) ?_
  refine lv_ixor hx hb dX2_nodeBesideWay_4 ?_
  refine x_eqi (y := nI (bsd p0 ql)) (by rw [show (1 : Int32) = nI 1 from rfl, nx_xor, xor1 _ (by omega)]; rfl) ?_
  exact hret _ () _ _ _ _ dX2_nodeBesideWay_5 hP hD hS rfl

set_option maxHeartbeats 4000000 in
set_option maxRecDepth 100000 in
theorem c_X2_headByteAsTold (l : Launch) (G : va_G) (cA : ClassId) (tF tC : Nat) (g : Nat → Nat) (sz N : Nat) (hN : 1 ≤ N ∧ N ≤ 64) (D R F KD KR FL SU WO : Nat → Int32) (ln kp rd wr ft : Int32) (zi : Nat) (hi : zi < 8) : CI l yX2_headByteAsTold wsX2_headByteAsTold 0 0 G cA tF tC g 13 sz (xW g cA N D R F KD KR FL SU WO ln kp rd wr ft) [.ref (g 0), .int (nI zi)] (fun (u : Unit) => xW g cA N D R F KD KR FL SU WO ln kp rd wr ft) (fun r _ => r = hed N zi) := by
  refine x_entryI (cc := cX2_headByteAsTold) (maxL := 2) (by decide) rfl (fun _ => rfl) (Nat.le_of_ble_eq_true rfl) ?_
  intro p e s m args below meth c Q hx hb hml hown hts hK hP hD hS hT hret ls hl
  have hown : s.vm.findClass RX2 = some m.cls := hown
  have hl : lv_has ls 2 [(0, .ref (g 0)), (1, .int (nI zi))] := hl
  have hinX1 : ∀ w ∈ wsX10, w ∈ wsX2_headByteAsTold := by decide +kernel
  have hinX2 : ∀ w ∈ wsX20, w ∈ wsX2_headByteAsTold := by decide +kernel
  refine lv_iload_n hx hb dX2_headByteAsTold_0 rfl (lv_at hl 1 rfl) ?_
  rcases (show zi = 0 ∨ zi = 1 ∨ zi = 2 ∨ zi = 3 ∨ 4 ≤ zi by omega) with h4 | h4 | h4 | h4 | h4
  · skip
    subst h4
    refine lv_tableIn (off := 31) (tgt := 32) hx hb dX2_headByteAsTold_1 (by decide) (by decide) (by decide) (by decide) ?_
    refine lv_bipush (v := 83) hx hb dX2_headByteAsTold_32 (by decide) ?_
    exact hret _ () _ _ _ _ dX2_headByteAsTold_34 hP hD hS rfl
  · skip
    subst h4
    refine lv_tableIn (off := 34) (tgt := 35) hx hb dX2_headByteAsTold_1 (by decide) (by decide) (by decide) (by decide) ?_
    refine lv_bipush (v := 73) hx hb dX2_headByteAsTold_35 (by decide) ?_
    exact hret _ () _ _ _ _ dX2_headByteAsTold_37 hP hD hS rfl
  · skip
    subst h4
    refine lv_tableIn (off := 37) (tgt := 38) hx hb dX2_headByteAsTold_1 (by decide) (by decide) (by decide) (by decide) ?_
    refine lv_aload_n hx hb dX2_headByteAsTold_38 rfl (lv_at hl 0 rfl) ?_
    refine va_get (D := G) (ci := 2) (v := .ref (g 1)) (C := RX2) (T := TX2) (N := 12) hx hb hts hinX2 hown hK hP 0 rfl rfl 0 (by decide) (hts (.fieldLink RX2 23 "SealedPages" "layout" "LSealedPages$Layout;") (by decide +kernel)) (fun _ h => h) rfl dX2_headByteAsTold_39 ?_
    refine va_get (D := G) (ci := 1) (v := .int (nI N)) (C := RX1) (T := TX1) (N := 6) hx hb hts hinX1 hown hK hP 1 rfl rfl 0 (by decide) (hts (.fieldLink RX2 109 "SealedPages$Layout" "pageCount" "I") (by decide +kernel)) (fun _ h => h) rfl dX2_headByteAsTold_42 ?_
    exact hret _ () _ _ _ _ dX2_headByteAsTold_45 hP hD hS rfl
  · skip
    subst h4
    refine lv_tableIn (off := 45) (tgt := 46) hx hb dX2_headByteAsTold_1 (by decide) (by decide) (by decide) (by decide) ?_
    refine lv_bipush (v := 64) hx hb dX2_headByteAsTold_46 (by decide) ?_
    exact hret _ () _ _ _ _ dX2_headByteAsTold_48 hP hD hS rfl
  · skip
    refine lv_tableOut (tgt := 49) hx hb dX2_headByteAsTold_1 (Or.inr (by rw [nI_toInt (by omega)]; omega)) (by decide) ?_
    refine lv_iconst (v := 0) hx hb dX2_headByteAsTold_49 (by decide) ?_
    exact hret _ () _ _ _ _ dX2_headByteAsTold_50 hP hD hS (by unfold hed; rw [if_neg (by omega), if_neg (by omega), if_neg (by omega), if_neg (by omega)])

set_option maxHeartbeats 4000000 in
set_option maxRecDepth 100000 in
theorem c_X2_hashNode (l : Launch) (G : va_G) (cA : ClassId) (tF tC : Nat) (g : Nat → Nat) (sz N : Nat) (hN : 1 ≤ N ∧ N ≤ 64) (D R F KD KR FL SU WO : Nat → Int32) (ln kp rd wr ft : Int32) (ql qk : Nat) (hql : ql < lvs N) (hqk : qk < nod N ql) : CV l yX2_hashNode wsX2_hashNode 3 80 G cA tF tC g 13 sz (xW g cA N D R F KD KR FL SU WO ln kp rd wr ft) [.ref (g 0), .int (nI ql), .int (nI qk)] (fun (u : (Nat → Int32) × (Nat → Int32) × Int32) => xW g cA N D R F KD KR FL u.1 u.2.1 u.2.2 kp rd wr ft) (fun u => ag 32 (hby u.1) (nsha N D ql qk)) := by
  refine x_entryV (cc := cX2_hashNode) (maxL := 4) (by decide) rfl (fun _ => rfl) (Nat.le_of_ble_eq_true rfl) ?_
  intro p e s m args below meth c Q hx hb hml hown hts hK hP hD hS hT hret ls hl
  have hown : s.vm.findClass RX2 = some m.cls := hown
  have hl : lv_has ls 4 [(0, .ref (g 0)), (1, .int (nI ql)), (2, .int (nI qk))] := hl
  have hinX2 : ∀ w ∈ wsX20, w ∈ wsX2_hashNode := by decide +kernel
  have hz := siz_le hN
  have hse := siz_eq N
  have hnd := nds_le hN
  have hlv := lvs_in hN
  have hnl := nlen_in N ql qk
  have hpg := fun (h : ql = 0) => page_in (N := N) (p := qk) (by subst h; exact hqk)
  have hkn := nod_le N hN.1 ql
  obtain ⟨zf, ef⟩ : ∃ z, z = pad (nmsg D ql qk (nbas N ql qk)) (nlen N ql qk) := ⟨_, rfl⟩
  have hs0 : Str zf (va_cpy hC SU 0 0 8) WO 0 := Str0 (cpy_hC SU)
  refine lv_aload_n hx hb dX2_hashNode_0 rfl (lv_at hl 0 rfl) ?_
  refine va_get (D := G) (ci := 2) (v := .ref (g 2)) (C := RX2) (T := TX2) (N := 12) hx hb hts hinX2 hown hK hP 0 rfl rfl 1 (by decide) (hts (.fieldLink RX2 30 "SealedPages" "hasher" "LSealedPages$Hasher;") (by decide +kernel)) (fun _ h => h) rfl dX2_hashNode_1 ?_
  refine x_vv ⟨hx, hb, hml, hown, hts⟩ (c_X0_begin l G cA tF tC g _ N hN D R F KD KR FL SU WO ln kp rd wr ft ) (cwV 0 hts gX2_hashNode_X0_begin rfl rfl rfl (by decide +kernel) ⟨Nat.le_of_ble_eq_true rfl, Nat.le_of_ble_eq_true rfl⟩) hK hP hD hS hT rfl 2 0 rfl rfl rfl hl.1 rfl (Nat.le_of_ble_eq_true rfl) dX2_hashNode_4 ⟨Nat.le_refl _, Nat.le_refl _⟩ (fun u H locs hp_1 hP hD hS => ?_)
  have hP : va_P G vwCl (xW g cA N D R F KD KR FL (va_cpy hC SU 0 0 8) WO (nI 0) kp rd wr ft) _ := hP
  have hD : va_D _ (xW g cA N D R F KD KR FL (va_cpy hC SU 0 0 8) WO (nI 0) kp rd wr ft) := hD
  refine lv_aload_n hx hb dX2_hashNode_7 rfl (lv_at hl 0 rfl) ?_
  refine va_get (D := G) (ci := 2) (v := .ref (g 2)) (C := RX2) (T := TX2) (N := 12) hx hb hts hinX2 hown hK hP 0 rfl rfl 1 (by decide) (hts (.fieldLink RX2 30 "SealedPages" "hasher" "LSealedPages$Hasher;") (by decide +kernel)) (fun _ h => h) rfl dX2_hashNode_8 ?_
  refine lv_iload_n hx hb dX2_hashNode_11 rfl (lv_at hl 1 rfl) ?_
  refine x_vv ⟨hx, hb, hml, hown, hts⟩ (c_X0_addByte l G cA tF tC g _ N hN D R F KD KR FL (va_cpy hC SU 0 0 8) WO kp rd wr ft 0 zf (nI ql) hs0 (by rw [ef, msg_0 (by omega)]) (by omega)) (cwV 1 hts gX2_hashNode_X0_addByte rfl rfl rfl (by decide +kernel) ⟨Nat.le_of_ble_eq_true rfl, Nat.le_of_ble_eq_true rfl⟩) hK hP hD hS hT rfl 2 0 rfl rfl rfl hl.1 rfl (Nat.le_of_ble_eq_true rfl) dX2_hashNode_12 ⟨Nat.le_refl _, Nat.le_refl _⟩ (fun u H locs hs1 hP hD hS => ?_)
  obtain ⟨SU1, WO1⟩ := u
  have hP : va_P G vwCl (xW g cA N D R F KD KR FL SU1 WO1 (nI (0 + 1)) kp rd wr ft) _ := hP
  have hD : va_D _ (xW g cA N D R F KD KR FL SU1 WO1 (nI (0 + 1)) kp rd wr ft) := hD
  refine lv_aload_n hx hb dX2_hashNode_15 rfl (lv_at hl 0 rfl) ?_
  refine va_get (D := G) (ci := 2) (v := .ref (g 2)) (C := RX2) (T := TX2) (N := 12) hx hb hts hinX2 hown hK hP 0 rfl rfl 1 (by decide) (hts (.fieldLink RX2 30 "SealedPages" "hasher" "LSealedPages$Hasher;") (by decide +kernel)) (fun _ h => h) rfl dX2_hashNode_16 ?_
  refine lv_iload_n hx hb dX2_hashNode_19 rfl (lv_at hl 2 rfl) ?_
  refine x_vv ⟨hx, hb, hml, hown, hts⟩ (c_X0_addByte l G cA tF tC g _ N hN D R F KD KR FL SU1 WO1 kp rd wr ft (0 + 1) zf (nI qk) hs1 (by rw [ef, msg_1 (by omega)]) (by omega)) (cwV 1 hts gX2_hashNode_X0_addByte rfl rfl rfl (by decide +kernel) ⟨Nat.le_of_ble_eq_true rfl, Nat.le_of_ble_eq_true rfl⟩) hK hP hD hS hT rfl 2 0 rfl rfl rfl hl.1 rfl (Nat.le_of_ble_eq_true rfl) dX2_hashNode_20 ⟨Nat.le_refl _, Nat.le_refl _⟩ (fun u H locs hs2 hP hD hS => ?_)
  obtain ⟨SU2, WO2⟩ := u
  have hP : va_P G vwCl (xW g cA N D R F KD KR FL SU2 WO2 (nI (0 + 1 + 1)) kp rd wr ft) _ := hP
  have hD : va_D _ (xW g cA N D R F KD KR FL SU2 WO2 (nI (0 + 1 + 1)) kp rd wr ft) := hD
  refine lv_iload_n hx hb dX2_hashNode_23 rfl (lv_at hl 1 rfl) ?_
  refine lv_if_ne (tgt := 51) hx hb dX2_hashNode_24 (by decide) (fun c_5 => ?_) (fun c_5 => ?_)
  · skip
    have c_5 : ¬ ql = 0 := fun z => c_5 ((nI_eq (a := ql) (b := 0) (by omega) (by omega)).mpr z)
    have hq0 : ¬ ql = 0 := c_5
    have hbl := below_in hN hq0 hql hqk
    refine lv_aload_n hx hb dX2_hashNode_51 rfl (lv_at hl 0 rfl) ?_
    refine va_get (D := G) (ci := 2) (v := .ref (g 1)) (C := RX2) (T := TX2) (N := 12) hx hb hts hinX2 hown hK hP 0 rfl rfl 0 (by decide) (hts (.fieldLink RX2 23 "SealedPages" "layout" "LSealedPages$Layout;") (by decide +kernel)) (fun _ h => h) rfl dX2_hashNode_52 ?_
    refine lv_iload_n hx hb dX2_hashNode_55 rfl (lv_at hl 1 rfl) ?_
    refine lv_iconst (v := 1) hx hb dX2_hashNode_56 (by decide) ?_
    refine lv_isub hx hb dX2_hashNode_57 ?_
    refine x_eqi (y := nI (ql - 1)) (pk_sub (a := ql) (b := 1) (by omega)) ?_
    refine lv_iconst (v := 2) hx hb dX2_hashNode_58 (by decide) ?_
    refine lv_iload_n hx hb dX2_hashNode_59 rfl (lv_at hl 2 rfl) ?_
    refine lv_imul hx hb dX2_hashNode_60 ?_
    refine x_eqi (y := nI (2 * qk)) (pk_mul 2 qk) ?_
    refine lv_iconst (v := 1) hx hb dX2_hashNode_61 (by decide) ?_
    refine lv_iadd hx hb dX2_hashNode_62 ?_
    refine x_eqi (y := nI ((2 * qk) + 1)) (nI_add (2 * qk) 1) ?_
    refine x_vi ⟨hx, hb, hml, hown, hts⟩ (c_X1_hasNode l G cA tF tC g _ N hN D R F KD KR FL SU2 WO2 (nI (0 + 1 + 1)) kp rd wr ft (nI (ql - 1)) (nI (2 * qk + 1))) (cwV 2 hts gX2_hashNode_X1_hasNode rfl rfl rfl (by decide +kernel) ⟨Nat.le_of_ble_eq_true rfl, Nat.le_of_ble_eq_true rfl⟩) hK hP hD hS hT rfl 1 1 rfl rfl rfl hl.1 rfl (Nat.le_of_ble_eq_true rfl) dX2_hashNode_63 ⟨Nat.le_refl _, Nat.le_refl _⟩ (fun r_7 u H locs hp_6 hP hD hS => ?_)
    have hP : va_P G vwCl (xW g cA N D R F KD KR FL SU2 WO2 (nI (0 + 1 + 1)) kp rd wr ft) _ := hP
    have hD : va_D _ (xW g cA N D R F KD KR FL SU2 WO2 (nI (0 + 1 + 1)) kp rd wr ft) := hD
    have hp_6 : r_7 = inN N (nI (ql - 1)) (nI (2 * qk + 1)) := hp_6
    subst hp_6
    refine lv_if_eq (tgt := 73) hx hb dX2_hashNode_66 (by decide) (fun c_8 => ?_) (fun c_8 => ?_)
    · skip
      have hq1 : ¬ 2 * qk + 1 < nod N (ql - 1) := fun h => by rw [inN_n hN (by omega) (by omega), if_pos h] at c_8; exact absurd c_8 (by decide)
      have hlen : nlen N ql qk = 0 + 1 + 1 + 1 * 32 := nlen_1 hq0 hq1
      refine lv_iconst (v := 1) hx hb dX2_hashNode_73 (by decide) ?_
      refine lv_istore_n (lv' := [(3, .int 1), (0, .ref (g 0)), (1, .int (nI ql)), (2, .int (nI qk))]) hx hb dX2_hashNode_74 rfl hl (by decide) rfl (fun ls hl => ?_)
      refine lv_aload_n hx hb dX2_hashNode_75 rfl (lv_at hl 1 rfl) ?_
      refine va_get (D := G) (ci := 2) (v := .ref (g 2)) (C := RX2) (T := TX2) (N := 12) hx hb hts hinX2 hown hK hP 0 rfl rfl 1 (by decide) (hts (.fieldLink RX2 30 "SealedPages" "hasher" "LSealedPages$Hasher;") (by decide +kernel)) (fun _ h => h) rfl dX2_hashNode_76 ?_
      refine lv_aload_n hx hb dX2_hashNode_79 rfl (lv_at hl 1 rfl) ?_
      refine va_get (D := G) (ci := 2) (v := .ref (g 3)) (C := RX2) (T := TX2) (N := 12) hx hb hts hinX2 hown hK hP 0 rfl rfl 2 (by decide) (hts (.fieldLink RX2 38 "SealedPages" "diskBytes" "[I") (by decide +kernel)) (fun _ h => h) rfl dX2_hashNode_80 ?_
      refine lv_aload_n hx hb dX2_hashNode_83 rfl (lv_at hl 1 rfl) ?_
      refine va_get (D := G) (ci := 2) (v := .ref (g 1)) (C := RX2) (T := TX2) (N := 12) hx hb hts hinX2 hown hK hP 0 rfl rfl 0 (by decide) (hts (.fieldLink RX2 23 "SealedPages" "layout" "LSealedPages$Layout;") (by decide +kernel)) (fun _ h => h) rfl dX2_hashNode_84 ?_
      refine lv_iload_n hx hb dX2_hashNode_87 rfl (lv_at hl 2 rfl) ?_
      refine lv_iconst (v := 1) hx hb dX2_hashNode_88 (by decide) ?_
      refine lv_isub hx hb dX2_hashNode_89 ?_
      refine x_eqi (y := nI (ql - 1)) (pk_sub (a := ql) (b := 1) (by omega)) ?_
      refine lv_iconst (v := 2) hx hb dX2_hashNode_90 (by decide) ?_
      refine lv_iload_n hx hb dX2_hashNode_91 rfl (lv_at hl 3 rfl) ?_
      refine lv_imul hx hb dX2_hashNode_92 ?_
      refine x_eqi (y := nI (2 * qk)) (pk_mul 2 qk) ?_
      refine x_vi ⟨hx, hb, hml, hown, hts⟩ (c_X1_placeOfNode l G cA tF tC g _ N hN D R F KD KR FL SU2 WO2 (nI (0 + 1 + 1)) kp rd wr ft (ql - 1) (2 * qk) (by omega)) (cwV 2 hts gX2_hashNode_X1_placeOfNode rfl rfl rfl (by decide +kernel) ⟨Nat.le_of_ble_eq_true rfl, Nat.le_of_ble_eq_true rfl⟩) hK hP hD hS hT rfl 1 1 rfl rfl rfl hl.1 rfl (Nat.le_of_ble_eq_true rfl) dX2_hashNode_93 ⟨Nat.le_refl _, Nat.le_refl _⟩ (fun r_10 u H locs hp_9 hP hD hS => ?_)
      have hP : va_P G vwCl (xW g cA N D R F KD KR FL SU2 WO2 (nI (0 + 1 + 1)) kp rd wr ft) _ := hP
      have hD : va_D _ (xW g cA N D R F KD KR FL SU2 WO2 (nI (0 + 1 + 1)) kp rd wr ft) := hD
      have hp_9 : r_10 = nI (plc N (ql - 1) (2 * qk)) := hp_9
      subst hp_9
      refine lv_iload_n hx hb dX2_hashNode_96 rfl (lv_at hl 0 rfl) ?_
      refine lv_bipush (v := 32) hx hb dX2_hashNode_97 (by decide) ?_
      refine lv_imul hx hb dX2_hashNode_99 ?_
      refine x_eqi (y := nI (1 * 32)) (pk_mul 1 32) ?_
      refine x_vv ⟨hx, hb, hml, hown, hts⟩ (c_X0_addRow_D l G cA tF tC g _ N hN D R F KD KR FL SU2 WO2 kp rd wr ft (0 + 1 + 1) zf (plc N (ql - 1) (2 * qk)) (1 * 32) hs2 (by omega) (fun q hq => by rw [ef, msg_2 (by omega), nbas_1 hq0]) (by omega)) (cwV 3 hts gX2_hashNode_X0_addRow rfl rfl rfl (by decide +kernel) ⟨Nat.le_of_ble_eq_true rfl, Nat.le_of_ble_eq_true rfl⟩) hK hP hD hS hT rfl 2 0 rfl rfl rfl hl.1 rfl (Nat.le_of_ble_eq_true rfl) dX2_hashNode_100 ⟨Nat.le_refl _, Nat.le_refl _⟩ (fun u H locs hs5 hP hD hS => ?_)
      obtain ⟨SU5, WO5⟩ := u
      have hP : va_P G vwCl (xW g cA N D R F KD KR FL SU5 WO5 (nI (0 + 1 + 1 + 1 * 32)) kp rd wr ft) _ := hP
      have hD : va_D _ (xW g cA N D R F KD KR FL SU5 WO5 (nI (0 + 1 + 1 + 1 * 32)) kp rd wr ft) := hD
      rw [← hlen] at hP hD
      refine lv_aload_n hx hb dX2_hashNode_103 rfl (lv_at hl 1 rfl) ?_
      refine va_get (D := G) (ci := 2) (v := .ref (g 2)) (C := RX2) (T := TX2) (N := 12) hx hb hts hinX2 hown hK hP 0 rfl rfl 1 (by decide) (hts (.fieldLink RX2 30 "SealedPages" "hasher" "LSealedPages$Hasher;") (by decide +kernel)) (fun _ h => h) rfl dX2_hashNode_104 ?_
      refine x_vv ⟨hx, hb, hml, hown, hts⟩ (c_X0_finish l G cA tF tC g _ N hN D R F KD KR FL SU5 WO5 kp rd wr ft (nlen N ql qk) (nmsg D ql qk (nbas N ql qk)) (by rw [← ef, hlen]; exact hs5) (by omega)) (cwV 0 hts gX2_hashNode_X0_finish rfl rfl rfl (by decide +kernel) ⟨Nat.le_of_ble_eq_true rfl, Nat.le_of_ble_eq_true rfl⟩) hK hP hD hS hT rfl 2 0 rfl rfl rfl hl.1 rfl (Nat.le_of_ble_eq_true rfl) dX2_hashNode_107 ⟨Nat.le_refl _, Nat.le_refl _⟩ (fun u H locs hs6 hP hD hS => ?_)
      obtain ⟨SU6, WO6⟩ := u
      have hP : va_P G vwCl (xW g cA N D R F KD KR FL SU6 WO6 (nI (64 * nbk (nlen N ql qk))) kp rd wr ft) _ := hP
      have hD : va_D _ (xW g cA N D R F KD KR FL SU6 WO6 (nI (64 * nbk (nlen N ql qk))) kp rd wr ft) := hD
      exact hret (SU6, WO6, nI (64 * nbk (nlen N ql qk))) _ _ _ _ dX2_hashNode_110 hP hD hS (hby_ag hs6)
    · skip
      have hq1 : 2 * qk + 1 < nod N (ql - 1) := Decidable.byContradiction (fun h => by rw [inN_n hN (by omega) (by omega), if_neg h] at c_8; exact c_8 rfl)
      have hlen : nlen N ql qk = 0 + 1 + 1 + 2 * 32 := nlen_2 hq0 hq1
      have hbl2 := hbl.2.2 hq1
      refine lv_iconst (v := 2) hx hb dX2_hashNode_69 (by decide) ?_
      refine lv_goto (tgt := 74) hx hb dX2_hashNode_70 (by decide) ?_
      refine lv_istore_n (lv' := [(3, .int 2), (0, .ref (g 0)), (1, .int (nI ql)), (2, .int (nI qk))]) hx hb dX2_hashNode_74 rfl hl (by decide) rfl (fun ls hl => ?_)
      refine lv_aload_n hx hb dX2_hashNode_75 rfl (lv_at hl 1 rfl) ?_
      refine va_get (D := G) (ci := 2) (v := .ref (g 2)) (C := RX2) (T := TX2) (N := 12) hx hb hts hinX2 hown hK hP 0 rfl rfl 1 (by decide) (hts (.fieldLink RX2 30 "SealedPages" "hasher" "LSealedPages$Hasher;") (by decide +kernel)) (fun _ h => h) rfl dX2_hashNode_76 ?_
      refine lv_aload_n hx hb dX2_hashNode_79 rfl (lv_at hl 1 rfl) ?_
      refine va_get (D := G) (ci := 2) (v := .ref (g 3)) (C := RX2) (T := TX2) (N := 12) hx hb hts hinX2 hown hK hP 0 rfl rfl 2 (by decide) (hts (.fieldLink RX2 38 "SealedPages" "diskBytes" "[I") (by decide +kernel)) (fun _ h => h) rfl dX2_hashNode_80 ?_
      refine lv_aload_n hx hb dX2_hashNode_83 rfl (lv_at hl 1 rfl) ?_
      refine va_get (D := G) (ci := 2) (v := .ref (g 1)) (C := RX2) (T := TX2) (N := 12) hx hb hts hinX2 hown hK hP 0 rfl rfl 0 (by decide) (hts (.fieldLink RX2 23 "SealedPages" "layout" "LSealedPages$Layout;") (by decide +kernel)) (fun _ h => h) rfl dX2_hashNode_84 ?_
      refine lv_iload_n hx hb dX2_hashNode_87 rfl (lv_at hl 2 rfl) ?_
      refine lv_iconst (v := 1) hx hb dX2_hashNode_88 (by decide) ?_
      refine lv_isub hx hb dX2_hashNode_89 ?_
      refine x_eqi (y := nI (ql - 1)) (pk_sub (a := ql) (b := 1) (by omega)) ?_
      refine lv_iconst (v := 2) hx hb dX2_hashNode_90 (by decide) ?_
      refine lv_iload_n hx hb dX2_hashNode_91 rfl (lv_at hl 3 rfl) ?_
      refine lv_imul hx hb dX2_hashNode_92 ?_
      refine x_eqi (y := nI (2 * qk)) (pk_mul 2 qk) ?_
      refine x_vi ⟨hx, hb, hml, hown, hts⟩ (c_X1_placeOfNode l G cA tF tC g _ N hN D R F KD KR FL SU2 WO2 (nI (0 + 1 + 1)) kp rd wr ft (ql - 1) (2 * qk) (by omega)) (cwV 2 hts gX2_hashNode_X1_placeOfNode rfl rfl rfl (by decide +kernel) ⟨Nat.le_of_ble_eq_true rfl, Nat.le_of_ble_eq_true rfl⟩) hK hP hD hS hT rfl 1 1 rfl rfl rfl hl.1 rfl (Nat.le_of_ble_eq_true rfl) dX2_hashNode_93 ⟨Nat.le_refl _, Nat.le_refl _⟩ (fun r_14 u H locs hp_13 hP hD hS => ?_)
      have hP : va_P G vwCl (xW g cA N D R F KD KR FL SU2 WO2 (nI (0 + 1 + 1)) kp rd wr ft) _ := hP
      have hD : va_D _ (xW g cA N D R F KD KR FL SU2 WO2 (nI (0 + 1 + 1)) kp rd wr ft) := hD
      have hp_13 : r_14 = nI (plc N (ql - 1) (2 * qk)) := hp_13
      subst hp_13
      refine lv_iload_n hx hb dX2_hashNode_96 rfl (lv_at hl 0 rfl) ?_
      refine lv_bipush (v := 32) hx hb dX2_hashNode_97 (by decide) ?_
      refine lv_imul hx hb dX2_hashNode_99 ?_
      refine x_eqi (y := nI (2 * 32)) (pk_mul 2 32) ?_
      refine x_vv ⟨hx, hb, hml, hown, hts⟩ (c_X0_addRow_D l G cA tF tC g _ N hN D R F KD KR FL SU2 WO2 kp rd wr ft (0 + 1 + 1) zf (plc N (ql - 1) (2 * qk)) (2 * 32) hs2 (by omega) (fun q hq => by rw [ef, msg_2 (by omega), nbas_1 hq0]) (by omega)) (cwV 3 hts gX2_hashNode_X0_addRow rfl rfl rfl (by decide +kernel) ⟨Nat.le_of_ble_eq_true rfl, Nat.le_of_ble_eq_true rfl⟩) hK hP hD hS hT rfl 2 0 rfl rfl rfl hl.1 rfl (Nat.le_of_ble_eq_true rfl) dX2_hashNode_100 ⟨Nat.le_refl _, Nat.le_refl _⟩ (fun u H locs hs5 hP hD hS => ?_)
      obtain ⟨SU5, WO5⟩ := u
      have hP : va_P G vwCl (xW g cA N D R F KD KR FL SU5 WO5 (nI (0 + 1 + 1 + 2 * 32)) kp rd wr ft) _ := hP
      have hD : va_D _ (xW g cA N D R F KD KR FL SU5 WO5 (nI (0 + 1 + 1 + 2 * 32)) kp rd wr ft) := hD
      rw [← hlen] at hP hD
      refine lv_aload_n hx hb dX2_hashNode_103 rfl (lv_at hl 1 rfl) ?_
      refine va_get (D := G) (ci := 2) (v := .ref (g 2)) (C := RX2) (T := TX2) (N := 12) hx hb hts hinX2 hown hK hP 0 rfl rfl 1 (by decide) (hts (.fieldLink RX2 30 "SealedPages" "hasher" "LSealedPages$Hasher;") (by decide +kernel)) (fun _ h => h) rfl dX2_hashNode_104 ?_
      refine x_vv ⟨hx, hb, hml, hown, hts⟩ (c_X0_finish l G cA tF tC g _ N hN D R F KD KR FL SU5 WO5 kp rd wr ft (nlen N ql qk) (nmsg D ql qk (nbas N ql qk)) (by rw [← ef, hlen]; exact hs5) (by omega)) (cwV 0 hts gX2_hashNode_X0_finish rfl rfl rfl (by decide +kernel) ⟨Nat.le_of_ble_eq_true rfl, Nat.le_of_ble_eq_true rfl⟩) hK hP hD hS hT rfl 2 0 rfl rfl rfl hl.1 rfl (Nat.le_of_ble_eq_true rfl) dX2_hashNode_107 ⟨Nat.le_refl _, Nat.le_refl _⟩ (fun u H locs hs6 hP hD hS => ?_)
      obtain ⟨SU6, WO6⟩ := u
      have hP : va_P G vwCl (xW g cA N D R F KD KR FL SU6 WO6 (nI (64 * nbk (nlen N ql qk))) kp rd wr ft) _ := hP
      have hD : va_D _ (xW g cA N D R F KD KR FL SU6 WO6 (nI (64 * nbk (nlen N ql qk))) kp rd wr ft) := hD
      exact hret (SU6, WO6, nI (64 * nbk (nlen N ql qk))) _ _ _ _ dX2_hashNode_110 hP hD hS (hby_ag hs6)
  · skip
    have c_5 : ql = 0 := (nI_eq (a := ql) (b := 0) (by omega) (by omega)).mp c_5
    have hq0 : ql = 0 := c_5
    have hlen : nlen N ql qk = 0 + 1 + 1 + 64 := by rw [hq0]; rfl
    have hba : nbas N ql qk = 8 + 64 * qk := by rw [hq0]; rfl
    have hpg := hpg hq0
    refine lv_aload_n hx hb dX2_hashNode_27 rfl (lv_at hl 0 rfl) ?_
    refine va_get (D := G) (ci := 2) (v := .ref (g 2)) (C := RX2) (T := TX2) (N := 12) hx hb hts hinX2 hown hK hP 0 rfl rfl 1 (by decide) (hts (.fieldLink RX2 30 "SealedPages" "hasher" "LSealedPages$Hasher;") (by decide +kernel)) (fun _ h => h) rfl dX2_hashNode_28 ?_
    refine lv_aload_n hx hb dX2_hashNode_31 rfl (lv_at hl 0 rfl) ?_
    refine va_get (D := G) (ci := 2) (v := .ref (g 3)) (C := RX2) (T := TX2) (N := 12) hx hb hts hinX2 hown hK hP 0 rfl rfl 2 (by decide) (hts (.fieldLink RX2 38 "SealedPages" "diskBytes" "[I") (by decide +kernel)) (fun _ h => h) rfl dX2_hashNode_32 ?_
    refine lv_aload_n hx hb dX2_hashNode_35 rfl (lv_at hl 0 rfl) ?_
    refine va_get (D := G) (ci := 2) (v := .ref (g 1)) (C := RX2) (T := TX2) (N := 12) hx hb hts hinX2 hown hK hP 0 rfl rfl 0 (by decide) (hts (.fieldLink RX2 23 "SealedPages" "layout" "LSealedPages$Layout;") (by decide +kernel)) (fun _ h => h) rfl dX2_hashNode_36 ?_
    refine lv_iload_n hx hb dX2_hashNode_39 rfl (lv_at hl 2 rfl) ?_
    refine x_vi ⟨hx, hb, hml, hown, hts⟩ (c_X1_placeOfPage l G cA tF tC g _ N hN D R F KD KR FL SU2 WO2 (nI (0 + 1 + 1)) kp rd wr ft qk) (cwV 1 hts gX2_hashNode_X1_placeOfPage rfl rfl rfl (by decide +kernel) ⟨Nat.le_of_ble_eq_true rfl, Nat.le_of_ble_eq_true rfl⟩) hK hP hD hS hT rfl 1 1 rfl rfl rfl hl.1 rfl (Nat.le_of_ble_eq_true rfl) dX2_hashNode_40 ⟨Nat.le_refl _, Nat.le_refl _⟩ (fun r_18 u H locs hp_17 hP hD hS => ?_)
    have hP : va_P G vwCl (xW g cA N D R F KD KR FL SU2 WO2 (nI (0 + 1 + 1)) kp rd wr ft) _ := hP
    have hD : va_D _ (xW g cA N D R F KD KR FL SU2 WO2 (nI (0 + 1 + 1)) kp rd wr ft) := hD
    have hp_17 : r_18 = nI (8 + 64 * qk) := hp_17
    subst hp_17
    refine lv_bipush (v := 64) hx hb dX2_hashNode_43 (by decide) ?_
    refine x_vv ⟨hx, hb, hml, hown, hts⟩ (c_X0_addRow_D l G cA tF tC g _ N hN D R F KD KR FL SU2 WO2 kp rd wr ft (0 + 1 + 1) zf (8 + 64 * qk) 64 hs2 hpg (fun q hq => by rw [ef, msg_2 (by omega), hba]) (by omega)) (cwV 3 hts gX2_hashNode_X0_addRow rfl rfl rfl (by decide +kernel) ⟨Nat.le_of_ble_eq_true rfl, Nat.le_of_ble_eq_true rfl⟩) hK hP hD hS hT rfl 2 0 rfl rfl rfl hl.1 rfl (Nat.le_of_ble_eq_true rfl) dX2_hashNode_45 ⟨Nat.le_refl _, Nat.le_refl _⟩ (fun u H locs hs5 hP hD hS => ?_)
    obtain ⟨SU5, WO5⟩ := u
    have hP : va_P G vwCl (xW g cA N D R F KD KR FL SU5 WO5 (nI (0 + 1 + 1 + 64)) kp rd wr ft) _ := hP
    have hD : va_D _ (xW g cA N D R F KD KR FL SU5 WO5 (nI (0 + 1 + 1 + 64)) kp rd wr ft) := hD
    refine lv_goto (tgt := 103) hx hb dX2_hashNode_48 (by decide) ?_
    rw [← hlen] at hP hD
    refine lv_aload_n hx hb dX2_hashNode_103 rfl (lv_at hl 0 rfl) ?_
    refine va_get (D := G) (ci := 2) (v := .ref (g 2)) (C := RX2) (T := TX2) (N := 12) hx hb hts hinX2 hown hK hP 0 rfl rfl 1 (by decide) (hts (.fieldLink RX2 30 "SealedPages" "hasher" "LSealedPages$Hasher;") (by decide +kernel)) (fun _ h => h) rfl dX2_hashNode_104 ?_
    refine x_vv ⟨hx, hb, hml, hown, hts⟩ (c_X0_finish l G cA tF tC g _ N hN D R F KD KR FL SU5 WO5 kp rd wr ft (nlen N ql qk) (nmsg D ql qk (nbas N ql qk)) (by rw [← ef, hlen]; exact hs5) (by omega)) (cwV 0 hts gX2_hashNode_X0_finish rfl rfl rfl (by decide +kernel) ⟨Nat.le_of_ble_eq_true rfl, Nat.le_of_ble_eq_true rfl⟩) hK hP hD hS hT rfl 2 0 rfl rfl rfl hl.1 rfl (Nat.le_of_ble_eq_true rfl) dX2_hashNode_107 ⟨Nat.le_refl _, Nat.le_refl _⟩ (fun u H locs hs6 hP hD hS => ?_)
    obtain ⟨SU6, WO6⟩ := u
    have hP : va_P G vwCl (xW g cA N D R F KD KR FL SU6 WO6 (nI (64 * nbk (nlen N ql qk))) kp rd wr ft) _ := hP
    have hD : va_D _ (xW g cA N D R F KD KR FL SU6 WO6 (nI (64 * nbk (nlen N ql qk))) kp rd wr ft) := hD
    exact hret (SU6, WO6, nI (64 * nbk (nlen N ql qk))) _ _ _ _ dX2_hashNode_110 hP hD hS (hby_ag hs6)

set_option maxHeartbeats 4000000 in
set_option maxRecDepth 100000 in
theorem c_X2_hashHeadAndLastNode (l : Launch) (G : va_G) (cA : ClassId) (tF tC : Nat) (g : Nat → Nat) (sz N : Nat) (hN : 1 ≤ N ∧ N ≤ 64) (D R F KD KR FL SU WO : Nat → Int32) (ln kp rd wr ft : Int32)  : CV l yX2_hashHeadAndLastNode wsX2_hashHeadAndLastNode 3 80 G cA tF tC g 13 sz (xW g cA N D R F KD KR FL SU WO ln kp rd wr ft) [.ref (g 0)] (fun (u : (Nat → Int32) × (Nat → Int32) × Int32) => xW g cA N D R F KD KR FL u.1 u.2.1 u.2.2 kp rd wr ft) (fun u => ag 32 (hby u.1) (rsha N D)) := by
  refine x_entryV (cc := cX2_hashHeadAndLastNode) (maxL := 1) (by decide) rfl (fun _ => rfl) (Nat.le_of_ble_eq_true rfl) ?_
  intro p e s m args below meth c Q hx hb hml hown hts hK hP hD hS hT hret ls hl
  have hown : s.vm.findClass RX2 = some m.cls := hown
  have hl : lv_has ls 1 [(0, .ref (g 0))] := hl
  have hinX1 : ∀ w ∈ wsX10, w ∈ wsX2_hashHeadAndLastNode := by decide +kernel
  have hinX2 : ∀ w ∈ wsX20, w ∈ wsX2_hashHeadAndLastNode := by decide +kernel
  have hz := siz_le hN
  have hse := siz_eq N
  have hnd := nds_le hN
  have hlv := lvs_in hN
  have hpl := plc_in hN (show lvs N - 1 < lvs N by omega) (show 0 < nod N (lvs N - 1) by rw [nod_last hN]; omega)
  obtain ⟨zf, ef⟩ : ∃ z, z = pad (rmsg N D) 40 := ⟨_, rfl⟩
  have hs0 : Str zf (va_cpy hC SU 0 0 8) WO 0 := Str0 (cpy_hC SU)
  refine lv_aload_n hx hb dX2_hashHeadAndLastNode_0 rfl (lv_at hl 0 rfl) ?_
  refine va_get (D := G) (ci := 2) (v := .ref (g 2)) (C := RX2) (T := TX2) (N := 12) hx hb hts hinX2 hown hK hP 0 rfl rfl 1 (by decide) (hts (.fieldLink RX2 30 "SealedPages" "hasher" "LSealedPages$Hasher;") (by decide +kernel)) (fun _ h => h) rfl dX2_hashHeadAndLastNode_1 ?_
  refine x_vv ⟨hx, hb, hml, hown, hts⟩ (c_X0_begin l G cA tF tC g _ N hN D R F KD KR FL SU WO ln kp rd wr ft ) (cwV 0 hts gX2_hashHeadAndLastNode_X0_begin rfl rfl rfl (by decide +kernel) ⟨Nat.le_of_ble_eq_true rfl, Nat.le_of_ble_eq_true rfl⟩) hK hP hD hS hT rfl 2 0 rfl rfl rfl hl.1 rfl (Nat.le_of_ble_eq_true rfl) dX2_hashHeadAndLastNode_4 ⟨Nat.le_refl _, Nat.le_refl _⟩ (fun u H locs hp_1 hP hD hS => ?_)
  have hP : va_P G vwCl (xW g cA N D R F KD KR FL (va_cpy hC SU 0 0 8) WO (nI 0) kp rd wr ft) _ := hP
  have hD : va_D _ (xW g cA N D R F KD KR FL (va_cpy hC SU 0 0 8) WO (nI 0) kp rd wr ft) := hD
  refine lv_aload_n hx hb dX2_hashHeadAndLastNode_7 rfl (lv_at hl 0 rfl) ?_
  refine va_get (D := G) (ci := 2) (v := .ref (g 2)) (C := RX2) (T := TX2) (N := 12) hx hb hts hinX2 hown hK hP 0 rfl rfl 1 (by decide) (hts (.fieldLink RX2 30 "SealedPages" "hasher" "LSealedPages$Hasher;") (by decide +kernel)) (fun _ h => h) rfl dX2_hashHeadAndLastNode_8 ?_
  refine lv_aload_n hx hb dX2_hashHeadAndLastNode_11 rfl (lv_at hl 0 rfl) ?_
  refine va_get (D := G) (ci := 2) (v := .ref (g 3)) (C := RX2) (T := TX2) (N := 12) hx hb hts hinX2 hown hK hP 0 rfl rfl 2 (by decide) (hts (.fieldLink RX2 38 "SealedPages" "diskBytes" "[I") (by decide +kernel)) (fun _ h => h) rfl dX2_hashHeadAndLastNode_12 ?_
  refine lv_iconst (v := 0) hx hb dX2_hashHeadAndLastNode_15 (by decide) ?_
  refine lv_bipush (v := 8) hx hb dX2_hashHeadAndLastNode_16 (by decide) ?_
  refine x_vv ⟨hx, hb, hml, hown, hts⟩ (c_X0_addRow_D l G cA tF tC g _ N hN D R F KD KR FL (va_cpy hC SU 0 0 8) WO kp rd wr ft 0 zf 0 8 hs0 (by omega) (fun q hq => by rw [ef, rmsg_a hq]) (by omega)) (cwV 3 hts gX2_hashHeadAndLastNode_X0_addRow rfl rfl rfl (by decide +kernel) ⟨Nat.le_of_ble_eq_true rfl, Nat.le_of_ble_eq_true rfl⟩) hK hP hD hS hT rfl 2 0 rfl rfl rfl hl.1 rfl (Nat.le_of_ble_eq_true rfl) dX2_hashHeadAndLastNode_18 ⟨Nat.le_refl _, Nat.le_refl _⟩ (fun u H locs hs1 hP hD hS => ?_)
  obtain ⟨SU1, WO1⟩ := u
  have hP : va_P G vwCl (xW g cA N D R F KD KR FL SU1 WO1 (nI (0 + 8)) kp rd wr ft) _ := hP
  have hD : va_D _ (xW g cA N D R F KD KR FL SU1 WO1 (nI (0 + 8)) kp rd wr ft) := hD
  refine lv_aload_n hx hb dX2_hashHeadAndLastNode_21 rfl (lv_at hl 0 rfl) ?_
  refine va_get (D := G) (ci := 2) (v := .ref (g 2)) (C := RX2) (T := TX2) (N := 12) hx hb hts hinX2 hown hK hP 0 rfl rfl 1 (by decide) (hts (.fieldLink RX2 30 "SealedPages" "hasher" "LSealedPages$Hasher;") (by decide +kernel)) (fun _ h => h) rfl dX2_hashHeadAndLastNode_22 ?_
  refine lv_aload_n hx hb dX2_hashHeadAndLastNode_25 rfl (lv_at hl 0 rfl) ?_
  refine va_get (D := G) (ci := 2) (v := .ref (g 3)) (C := RX2) (T := TX2) (N := 12) hx hb hts hinX2 hown hK hP 0 rfl rfl 2 (by decide) (hts (.fieldLink RX2 38 "SealedPages" "diskBytes" "[I") (by decide +kernel)) (fun _ h => h) rfl dX2_hashHeadAndLastNode_26 ?_
  refine lv_aload_n hx hb dX2_hashHeadAndLastNode_29 rfl (lv_at hl 0 rfl) ?_
  refine va_get (D := G) (ci := 2) (v := .ref (g 1)) (C := RX2) (T := TX2) (N := 12) hx hb hts hinX2 hown hK hP 0 rfl rfl 0 (by decide) (hts (.fieldLink RX2 23 "SealedPages" "layout" "LSealedPages$Layout;") (by decide +kernel)) (fun _ h => h) rfl dX2_hashHeadAndLastNode_30 ?_
  refine lv_aload_n hx hb dX2_hashHeadAndLastNode_33 rfl (lv_at hl 0 rfl) ?_
  refine va_get (D := G) (ci := 2) (v := .ref (g 1)) (C := RX2) (T := TX2) (N := 12) hx hb hts hinX2 hown hK hP 0 rfl rfl 0 (by decide) (hts (.fieldLink RX2 23 "SealedPages" "layout" "LSealedPages$Layout;") (by decide +kernel)) (fun _ h => h) rfl dX2_hashHeadAndLastNode_34 ?_
  refine va_get (D := G) (ci := 1) (v := .int (nI (lvs N))) (C := RX1) (T := TX1) (N := 6) hx hb hts hinX1 hown hK hP 1 rfl rfl 1 (by decide) (hts (.fieldLink RX2 100 "SealedPages$Layout" "levelCount" "I") (by decide +kernel)) (fun _ h => h) rfl dX2_hashHeadAndLastNode_37 ?_
  refine lv_iconst (v := 1) hx hb dX2_hashHeadAndLastNode_40 (by decide) ?_
  refine lv_isub hx hb dX2_hashHeadAndLastNode_41 ?_
  refine x_eqi (y := nI ((lvs N) - 1)) (pk_sub (a := lvs N) (b := 1) (by omega)) ?_
  refine lv_iconst (v := 0) hx hb dX2_hashHeadAndLastNode_42 (by decide) ?_
  refine x_vi ⟨hx, hb, hml, hown, hts⟩ (c_X1_placeOfNode l G cA tF tC g _ N hN D R F KD KR FL SU1 WO1 (nI (0 + 8)) kp rd wr ft (lvs N - 1) 0 (by omega)) (cwV 2 hts gX2_hashHeadAndLastNode_X1_placeOfNode rfl rfl rfl (by decide +kernel) ⟨Nat.le_of_ble_eq_true rfl, Nat.le_of_ble_eq_true rfl⟩) hK hP hD hS hT rfl 1 1 rfl rfl rfl hl.1 rfl (Nat.le_of_ble_eq_true rfl) dX2_hashHeadAndLastNode_43 ⟨Nat.le_refl _, Nat.le_refl _⟩ (fun r_5 u H locs hp_4 hP hD hS => ?_)
  have hP : va_P G vwCl (xW g cA N D R F KD KR FL SU1 WO1 (nI (0 + 8)) kp rd wr ft) _ := hP
  have hD : va_D _ (xW g cA N D R F KD KR FL SU1 WO1 (nI (0 + 8)) kp rd wr ft) := hD
  have hp_4 : r_5 = nI (plc N (lvs N - 1) 0) := hp_4
  subst hp_4
  refine lv_bipush (v := 32) hx hb dX2_hashHeadAndLastNode_46 (by decide) ?_
  refine x_vv ⟨hx, hb, hml, hown, hts⟩ (c_X0_addRow_D l G cA tF tC g _ N hN D R F KD KR FL SU1 WO1 kp rd wr ft (0 + 8) zf (plc N (lvs N - 1) 0) 32 hs1 (by omega) (fun q hq => by rw [ef, rmsg_b hq]) (by omega)) (cwV 3 hts gX2_hashHeadAndLastNode_X0_addRow rfl rfl rfl (by decide +kernel) ⟨Nat.le_of_ble_eq_true rfl, Nat.le_of_ble_eq_true rfl⟩) hK hP hD hS hT rfl 2 0 rfl rfl rfl hl.1 rfl (Nat.le_of_ble_eq_true rfl) dX2_hashHeadAndLastNode_48 ⟨Nat.le_refl _, Nat.le_refl _⟩ (fun u H locs hs5 hP hD hS => ?_)
  obtain ⟨SU5, WO5⟩ := u
  have hP : va_P G vwCl (xW g cA N D R F KD KR FL SU5 WO5 (nI (0 + 8 + 32)) kp rd wr ft) _ := hP
  have hD : va_D _ (xW g cA N D R F KD KR FL SU5 WO5 (nI (0 + 8 + 32)) kp rd wr ft) := hD
  refine lv_aload_n hx hb dX2_hashHeadAndLastNode_51 rfl (lv_at hl 0 rfl) ?_
  refine va_get (D := G) (ci := 2) (v := .ref (g 2)) (C := RX2) (T := TX2) (N := 12) hx hb hts hinX2 hown hK hP 0 rfl rfl 1 (by decide) (hts (.fieldLink RX2 30 "SealedPages" "hasher" "LSealedPages$Hasher;") (by decide +kernel)) (fun _ h => h) rfl dX2_hashHeadAndLastNode_52 ?_
  refine x_vv ⟨hx, hb, hml, hown, hts⟩ (c_X0_finish l G cA tF tC g _ N hN D R F KD KR FL SU5 WO5 kp rd wr ft 40 (rmsg N D) (by rw [← ef]; exact hs5) (by omega)) (cwV 0 hts gX2_hashHeadAndLastNode_X0_finish rfl rfl rfl (by decide +kernel) ⟨Nat.le_of_ble_eq_true rfl, Nat.le_of_ble_eq_true rfl⟩) hK hP hD hS hT rfl 2 0 rfl rfl rfl hl.1 rfl (Nat.le_of_ble_eq_true rfl) dX2_hashHeadAndLastNode_55 ⟨Nat.le_refl _, Nat.le_refl _⟩ (fun u H locs hs6 hP hD hS => ?_)
  obtain ⟨SU6, WO6⟩ := u
  have hP : va_P G vwCl (xW g cA N D R F KD KR FL SU6 WO6 (nI (64 * nbk 40)) kp rd wr ft) _ := hP
  have hD : va_D _ (xW g cA N D R F KD KR FL SU6 WO6 (nI (64 * nbk 40)) kp rd wr ft) := hD
  exact hret (SU6, WO6, nI (64 * nbk 40)) _ _ _ _ dX2_hashHeadAndLastNode_58 hP hD hS (hby_ag hs6)

set_option maxHeartbeats 4000000 in
set_option maxRecDepth 100000 in
theorem c_X2_faultAboveTree (l : Launch) (G : va_G) (cA : ClassId) (tF tC : Nat) (g : Nat → Nat) (sz N : Nat) (hN : 1 ≤ N ∧ N ≤ 64) (D R F KD KR FL SU WO : Nat → Int32) (ln kp rd wr ft : Int32)  : CI l yX2_faultAboveTree wsX2_faultAboveTree 4 100 G cA tF tC g 13 sz (xW g cA N D R F KD KR FL SU WO ln kp rd wr ft) [.ref (g 0)] (fun (u : (Nat → Int32) × (Nat → Int32) × Int32) => xW g cA N D R F KD KR FL u.1 u.2.1 u.2.2 kp rd wr ft) (fun r _ => r = nI (fltA N D R)) := by
  refine x_entryI (cc := cX2_faultAboveTree) (maxL := 2) (by decide) rfl (fun _ => rfl) (Nat.le_of_ble_eq_true rfl) ?_
  intro p e s m args below meth c Q hx hb hml hown hts hK hP hD hS hT hret ls hl
  have hown : s.vm.findClass RX2 = some m.cls := hown
  have hl : lv_has ls 2 [(0, .ref (g 0))] := hl
  have hinX2 : ∀ w ∈ wsX20, w ∈ wsX2_faultAboveTree := by decide +kernel
  have hz := siz_le hN
  have hse := siz_eq N
  have hnd := nds_le hN
  have hlv := lvs_in hN
  refine lv_iconst (v := 0) hx hb dX2_faultAboveTree_0 (by decide) ?_
  refine lv_istore_n (lv' := [(1, .int 0), (0, .ref (g 0))]) hx hb dX2_faultAboveTree_1 rfl hl (by decide) rfl (fun ls hl => ?_)
  have loop_2 : ∀ (n_2 : Nat) (zi : Nat), (8 - zi) < n_2 → zi ≤ 8 → eqN D (hed N) zi = true → ∀ (H : Heap) (locs : List Loc) (ls : Array Slot), va_P G vwCl (xW g cA N D R F KD KR FL SU WO ln kp rd wr ft) H → va_D (wA g 13 s.heap.size) (xW g cA N D R F KD KR FL SU WO ln kp rd wr ft) → va_S (wA g 13 s.heap.size) s.heap H locs → lv_has ls 2 [(0, .ref (g 0)), (1, .int (nI zi))] → W p l e { frames := 4, cells := 0, slots := 0, locals := 100 } s m args below meth c H locs 0 0 Q (F0 m 2 ls []) := by
    intro n_2
    induction n_2 with
    | zero => intro zi hm_2; exact absurd hm_2 (Nat.not_lt_zero _)
    | succ n_2 ih_2 =>
      intro zi hm_2 hi he H locs ls hP hD hS hl
      refine lv_iload_n hx hb dX2_faultAboveTree_2 rfl (lv_at hl 1 rfl) ?_
      refine lv_bipush (v := 8) hx hb dX2_faultAboveTree_3 (by decide) ?_
      refine lv_icmp_ge (tgt := 30) hx hb dX2_faultAboveTree_5 (by decide) (fun c_1 => ?_) (fun c_1 => ?_)
      · skip
        have c_1 : 8 ≤ zi := (nI_leI (a := 8) (b := zi) (by omega) (by omega)).mp c_1
        obtain rfl : zi = 8 := by omega
        have hhok : hok N D = true := he
        have hl : lv_has ls 2 [(0, .ref (g 0)), (1, .int (nI 8))] := hl
        refine lv_aload_n hx hb dX2_faultAboveTree_30 rfl (lv_at hl 0 rfl) ?_
        refine x_vv ⟨hx, hb, hml, hown, hts⟩ (c_X2_hashHeadAndLastNode l G cA tF tC g _ N hN D R F KD KR FL SU WO ln kp rd wr ft ) (cwV 0 hts gX2_faultAboveTree_X2_hashHeadAndLastNode rfl rfl rfl (by decide +kernel) ⟨Nat.le_of_ble_eq_true rfl, Nat.le_of_ble_eq_true rfl⟩) hK hP hD hS hT rfl 0 2 rfl rfl rfl hl.1 rfl (Nat.le_of_ble_eq_true rfl) dX2_faultAboveTree_31 ⟨Nat.le_refl _, Nat.le_refl _⟩ (fun u H locs hs1 hP hD hS => ?_)
        obtain ⟨SU1, WO1, ln1⟩ := u
        have hP : va_P G vwCl (xW g cA N D R F KD KR FL SU1 WO1 ln1 kp rd wr ft) _ := hP
        have hD : va_D _ (xW g cA N D R F KD KR FL SU1 WO1 ln1 kp rd wr ft) := hD
        refine lv_aload_n hx hb dX2_faultAboveTree_34 rfl (lv_at hl 0 rfl) ?_
        refine va_get (D := G) (ci := 2) (v := .ref (g 2)) (C := RX2) (T := TX2) (N := 12) hx hb hts hinX2 hown hK hP 0 rfl rfl 1 (by decide) (hts (.fieldLink RX2 30 "SealedPages" "hasher" "LSealedPages$Hasher;") (by decide +kernel)) (fun _ h => h) rfl dX2_faultAboveTree_35 ?_
        refine lv_aload_n hx hb dX2_faultAboveTree_38 rfl (lv_at hl 0 rfl) ?_
        refine va_get (D := G) (ci := 2) (v := .ref (g 4)) (C := RX2) (T := TX2) (N := 12) hx hb hts hinX2 hown hK hP 0 rfl rfl 3 (by decide) (hts (.fieldLink RX2 42 "SealedPages" "rootBytes" "[I") (by decide +kernel)) (fun _ h => h) rfl dX2_faultAboveTree_39 ?_
        refine lv_iconst (v := 0) hx hb dX2_faultAboveTree_42 (by decide) ?_
        refine x_vi ⟨hx, hb, hml, hown, hts⟩ (c_X0_resultIsAt_R l G cA tF tC g _ N hN D R F KD KR FL SU1 WO1 ln1 kp rd wr ft 0 (by omega)) (cwV 2 hts gX2_faultAboveTree_X0_resultIsAt rfl rfl rfl (by decide +kernel) ⟨Nat.le_of_ble_eq_true rfl, Nat.le_of_ble_eq_true rfl⟩) hK hP hD hS hT rfl 2 0 rfl rfl rfl hl.1 rfl (Nat.le_of_ble_eq_true rfl) dX2_faultAboveTree_43 ⟨Nat.le_refl _, Nat.le_refl _⟩ (fun r_3 u H locs hb9 hP hD hS => ?_)
        have hP : va_P G vwCl (xW g cA N D R F KD KR FL SU1 WO1 ln1 kp rd wr ft) _ := hP
        have hD : va_D _ (xW g cA N D R F KD KR FL SU1 WO1 ln1 kp rd wr ft) := hD
        have hb9 : r_3 = bI (rok N D R) := by rw [hb9, eqN_cong (f := fun zi => R (0 + zi)) (f' := R) (h := hby SU1) (h' := rsha N D) (fun zj hj => by show R (0 + zj) = R zj; rw [Nat.zero_add]) hs1]; rfl
        subst hb9
        refine lv_if_eq (tgt := 53) hx hb dX2_faultAboveTree_46 (by decide) (fun c_4 => ?_) (fun c_4 => ?_)
        · skip
          have hc := c_4
          refine lv_iconst (v := 2) hx hb dX2_faultAboveTree_53 (by decide) ?_
          exact hret _ (SU1, WO1, ln1) _ _ _ _ dX2_faultAboveTree_54 hP hD hS (by rw [fltA_b hhok]; first | (rw [if_pos (bI_1 hc)]; rfl) | (rw [bI_0 hc]; rfl))
        · skip
          have hc := c_4
          refine lv_iconst (v := 0) hx hb dX2_faultAboveTree_49 (by decide) ?_
          refine lv_goto (tgt := 54) hx hb dX2_faultAboveTree_50 (by decide) ?_
          exact hret _ (SU1, WO1, ln1) _ _ _ _ dX2_faultAboveTree_54 hP hD hS (by rw [fltA_b hhok]; first | (rw [if_pos (bI_1 hc)]; rfl) | (rw [bI_0 hc]; rfl))
      · skip
        have c_1 : ¬ 8 ≤ zi := fun z => c_1 ((nI_leI (a := 8) (b := zi) (by omega) (by omega)).mpr z)
        refine lv_aload_n hx hb dX2_faultAboveTree_8 rfl (lv_at hl 0 rfl) ?_
        refine va_get (D := G) (ci := 2) (v := .ref (g 3)) (C := RX2) (T := TX2) (N := 12) hx hb hts hinX2 hown hK hP 0 rfl rfl 2 (by decide) (hts (.fieldLink RX2 38 "SealedPages" "diskBytes" "[I") (by decide +kernel)) (fun _ h => h) rfl dX2_faultAboveTree_9 ?_
        refine lv_iload_n hx hb dX2_faultAboveTree_12 rfl (lv_at hl 1 rfl) ?_
        refine x_ald (i := zi) hx hb hK hP 3 0 rfl rfl (by omega) (by have := siz_le hN; have := nds_le hN; omega) dX2_faultAboveTree_13 ?_
        refine lv_aload_n hx hb dX2_faultAboveTree_14 rfl (lv_at hl 0 rfl) ?_
        refine lv_iload_n hx hb dX2_faultAboveTree_15 rfl (lv_at hl 1 rfl) ?_
        refine x_vi ⟨hx, hb, hml, hown, hts⟩ (c_X2_headByteAsTold l G cA tF tC g _ N hN D R F KD KR FL SU WO ln kp rd wr ft zi (by omega)) (cwV 1 hts gX2_faultAboveTree_X2_headByteAsTold rfl rfl rfl (by decide +kernel) ⟨Nat.le_of_ble_eq_true rfl, Nat.le_of_ble_eq_true rfl⟩) hK hP hD hS hT rfl 0 2 rfl rfl rfl hl.1 rfl (Nat.le_of_ble_eq_true rfl) dX2_faultAboveTree_16 ⟨Nat.le_refl _, Nat.le_refl _⟩ (fun r_6 u H locs hp_5 hP hD hS => ?_)
        have hP : va_P G vwCl (xW g cA N D R F KD KR FL SU WO ln kp rd wr ft) _ := hP
        have hD : va_D _ (xW g cA N D R F KD KR FL SU WO ln kp rd wr ft) := hD
        have hp_5 : r_6 = hed N zi := hp_5
        subst hp_5
        refine lv_icmp_eq (tgt := 24) hx hb dX2_faultAboveTree_19 (by decide) (fun c_7 => ?_) (fun c_7 => ?_)
        · skip
          have hc := c_7
          refine lv_iinc (v := nI (zi + 1)) (lv' := [(1, .int (nI (zi + 1))), (0, .ref (g 0))]) hx hb dX2_faultAboveTree_24 hl (k := 1) rfl (nI_1 _) (by decide) rfl (fun ls hl => ?_)
          refine lv_goto (tgt := 2) hx hb dX2_faultAboveTree_27 (by decide) ?_
          exact ih_2 (zi + 1) (by omega) (by omega) (by rw [eqN_s, he]; simp [hc]) _ _ _ hP hD hS (lv_sub hl [1, 0] rfl)
        · skip
          have hc := c_7
          refine lv_iconst (v := 1) hx hb dX2_faultAboveTree_22 (by decide) ?_
          exact hret _ (SU, WO, ln) _ _ _ _ dX2_faultAboveTree_23 hP hD hS (by rw [fltA_1 (eqN_no (f := D) (h := hed N) hc (show zi < 8 by omega))]; rfl)
  exact loop_2 _ 0 (Nat.lt_succ_self _) (by omega) rfl _ _ _ hP hD hS (lv_sub hl [1, 0] rfl)

set_option maxHeartbeats 4000000 in
set_option maxRecDepth 100000 in
theorem c_X2_faultOfNode (l : Launch) (G : va_G) (cA : ClassId) (tF tC : Nat) (g : Nat → Nat) (sz N : Nat) (hN : 1 ≤ N ∧ N ≤ 64) (D R F KD KR FL SU WO : Nat → Int32) (ln kp rd wr ft : Int32) (ql qk : Nat) (hql : ql < lvs N) (hqk : qk < nod N ql) : CI l yX2_faultOfNode wsX2_faultOfNode 4 103 G cA tF tC g 13 sz (xW g cA N D R F KD KR FL SU WO ln kp rd wr ft) [.ref (g 0), .int (nI ql), .int (nI qk)] (fun (u : (Nat → Int32) × (Nat → Int32) × Int32) => xW g cA N D R F KD KR FL u.1 u.2.1 u.2.2 kp rd wr ft) (fun r _ => r = nI (nf N D ql qk)) := by
  refine x_entryI (cc := cX2_faultOfNode) (maxL := 3) (by decide) rfl (fun _ => rfl) (Nat.le_of_ble_eq_true rfl) ?_
  intro p e s m args below meth c Q hx hb hml hown hts hK hP hD hS hT hret ls hl
  have hown : s.vm.findClass RX2 = some m.cls := hown
  have hl : lv_has ls 3 [(0, .ref (g 0)), (1, .int (nI ql)), (2, .int (nI qk))] := hl
  have hinX2 : ∀ w ∈ wsX20, w ∈ wsX2_faultOfNode := by decide +kernel
  have hz := siz_le hN
  have hse := siz_eq N
  have hnd := nds_le hN
  have hlv := lvs_in hN
  have hpl := plc_in hN hql hqk
  refine lv_aload_n hx hb dX2_faultOfNode_0 rfl (lv_at hl 0 rfl) ?_
  refine lv_iload_n hx hb dX2_faultOfNode_1 rfl (lv_at hl 1 rfl) ?_
  refine lv_iload_n hx hb dX2_faultOfNode_2 rfl (lv_at hl 2 rfl) ?_
  refine x_vv ⟨hx, hb, hml, hown, hts⟩ (c_X2_hashNode l G cA tF tC g _ N hN D R F KD KR FL SU WO ln kp rd wr ft ql qk hql hqk) (cwV 2 hts gX2_faultOfNode_X2_hashNode rfl rfl rfl (by decide +kernel) ⟨Nat.le_of_ble_eq_true rfl, Nat.le_of_ble_eq_true rfl⟩) hK hP hD hS hT rfl 0 2 rfl rfl rfl hl.1 rfl (Nat.le_of_ble_eq_true rfl) dX2_faultOfNode_3 ⟨Nat.le_refl _, Nat.le_refl _⟩ (fun u H locs hs1 hP hD hS => ?_)
  obtain ⟨SU1, WO1, ln1⟩ := u
  have hP : va_P G vwCl (xW g cA N D R F KD KR FL SU1 WO1 ln1 kp rd wr ft) _ := hP
  have hD : va_D _ (xW g cA N D R F KD KR FL SU1 WO1 ln1 kp rd wr ft) := hD
  refine lv_aload_n hx hb dX2_faultOfNode_6 rfl (lv_at hl 0 rfl) ?_
  refine va_get (D := G) (ci := 2) (v := .ref (g 2)) (C := RX2) (T := TX2) (N := 12) hx hb hts hinX2 hown hK hP 0 rfl rfl 1 (by decide) (hts (.fieldLink RX2 30 "SealedPages" "hasher" "LSealedPages$Hasher;") (by decide +kernel)) (fun _ h => h) rfl dX2_faultOfNode_7 ?_
  refine lv_aload_n hx hb dX2_faultOfNode_10 rfl (lv_at hl 0 rfl) ?_
  refine va_get (D := G) (ci := 2) (v := .ref (g 3)) (C := RX2) (T := TX2) (N := 12) hx hb hts hinX2 hown hK hP 0 rfl rfl 2 (by decide) (hts (.fieldLink RX2 38 "SealedPages" "diskBytes" "[I") (by decide +kernel)) (fun _ h => h) rfl dX2_faultOfNode_11 ?_
  refine lv_aload_n hx hb dX2_faultOfNode_14 rfl (lv_at hl 0 rfl) ?_
  refine va_get (D := G) (ci := 2) (v := .ref (g 1)) (C := RX2) (T := TX2) (N := 12) hx hb hts hinX2 hown hK hP 0 rfl rfl 0 (by decide) (hts (.fieldLink RX2 23 "SealedPages" "layout" "LSealedPages$Layout;") (by decide +kernel)) (fun _ h => h) rfl dX2_faultOfNode_15 ?_
  refine lv_iload_n hx hb dX2_faultOfNode_18 rfl (lv_at hl 1 rfl) ?_
  refine lv_iload_n hx hb dX2_faultOfNode_19 rfl (lv_at hl 2 rfl) ?_
  refine x_vi ⟨hx, hb, hml, hown, hts⟩ (c_X1_placeOfNode l G cA tF tC g _ N hN D R F KD KR FL SU1 WO1 ln1 kp rd wr ft ql qk hql) (cwV 2 hts gX2_faultOfNode_X1_placeOfNode rfl rfl rfl (by decide +kernel) ⟨Nat.le_of_ble_eq_true rfl, Nat.le_of_ble_eq_true rfl⟩) hK hP hD hS hT rfl 1 1 rfl rfl rfl hl.1 rfl (Nat.le_of_ble_eq_true rfl) dX2_faultOfNode_20 ⟨Nat.le_refl _, Nat.le_refl _⟩ (fun r_3 u H locs hp_2 hP hD hS => ?_)
  have hP : va_P G vwCl (xW g cA N D R F KD KR FL SU1 WO1 ln1 kp rd wr ft) _ := hP
  have hD : va_D _ (xW g cA N D R F KD KR FL SU1 WO1 ln1 kp rd wr ft) := hD
  have hp_2 : r_3 = nI (plc N ql qk) := hp_2
  subst hp_2
  refine x_vi ⟨hx, hb, hml, hown, hts⟩ (c_X0_resultIsAt_D l G cA tF tC g _ N hN D R F KD KR FL SU1 WO1 ln1 kp rd wr ft (plc N ql qk) hpl) (cwV 2 hts gX2_faultOfNode_X0_resultIsAt rfl rfl rfl (by decide +kernel) ⟨Nat.le_of_ble_eq_true rfl, Nat.le_of_ble_eq_true rfl⟩) hK hP hD hS hT rfl 2 0 rfl rfl rfl hl.1 rfl (Nat.le_of_ble_eq_true rfl) dX2_faultOfNode_23 ⟨Nat.le_refl _, Nat.le_refl _⟩ (fun r_4 u H locs hb9 hP hD hS => ?_)
  have hP : va_P G vwCl (xW g cA N D R F KD KR FL SU1 WO1 ln1 kp rd wr ft) _ := hP
  have hD : va_D _ (xW g cA N D R F KD KR FL SU1 WO1 ln1 kp rd wr ft) := hD
  have hb9 : r_4 = bI (nok N D ql qk) := by rw [hb9, eqN_cong ag_rf hs1]; rfl
  subst hb9
  refine lv_if_eq (tgt := 33) hx hb dX2_faultOfNode_26 (by decide) (fun c_5 => ?_) (fun c_5 => ?_)
  · skip
    have hc := c_5
    refine lv_iconst (v := 3) hx hb dX2_faultOfNode_33 (by decide) ?_
    refine lv_iload_n hx hb dX2_faultOfNode_34 rfl (lv_at hl 1 rfl) ?_
    refine lv_iadd hx hb dX2_faultOfNode_35 ?_
    refine x_eqi (y := nI (3 + ql)) (nI_add 3 ql) ?_
    exact hret _ (SU1, WO1, ln1) _ _ _ _ dX2_faultOfNode_36 hP hD hS (by unfold nf; first | (rw [if_pos (bI_1 hc)]; rfl) | (rw [bI_0 hc]; rfl))
  · skip
    have hc := c_5
    refine lv_iconst (v := 0) hx hb dX2_faultOfNode_29 (by decide) ?_
    refine lv_goto (tgt := 36) hx hb dX2_faultOfNode_30 (by decide) ?_
    exact hret _ (SU1, WO1, ln1) _ _ _ _ dX2_faultOfNode_36 hP hD hS (by unfold nf; first | (rw [if_pos (bI_1 hc)]; rfl) | (rw [bI_0 hc]; rfl))

set_option maxHeartbeats 4000000 in
set_option maxRecDepth 100000 in
theorem c_X2_sealNode (l : Launch) (G : va_G) (cA : ClassId) (tF tC : Nat) (g : Nat → Nat) (sz N : Nat) (hN : 1 ≤ N ∧ N ≤ 64) (D R F KD KR FL SU WO : Nat → Int32) (ln kp rd wr ft : Int32) (ql qk : Nat) (hql : ql < lvs N) (hqk : qk < nod N ql) : CV l yX2_sealNode wsX2_sealNode 4 103 G cA tF tC g 13 sz (xW g cA N D R F KD KR FL SU WO ln kp rd wr ft) [.ref (g 0), .int (nI ql), .int (nI qk)] (fun (u : (Nat → Int32) × (Nat → Int32) × Int32) => xW g cA N (sNode N D ql qk) R F KD KR FL u.1 u.2.1 u.2.2 kp rd wr ft) (fun _ => True) := by
  refine x_entryV (cc := cX2_sealNode) (maxL := 3) (by decide) rfl (fun _ => rfl) (Nat.le_of_ble_eq_true rfl) ?_
  intro p e s m args below meth c Q hx hb hml hown hts hK hP hD hS hT hret ls hl
  have hown : s.vm.findClass RX2 = some m.cls := hown
  have hl : lv_has ls 3 [(0, .ref (g 0)), (1, .int (nI ql)), (2, .int (nI qk))] := hl
  have hinX2 : ∀ w ∈ wsX20, w ∈ wsX2_sealNode := by decide +kernel
  have hz := siz_le hN
  have hse := siz_eq N
  have hnd := nds_le hN
  have hlv := lvs_in hN
  have hpl := plc_in hN hql hqk
  refine lv_aload_n hx hb dX2_sealNode_0 rfl (lv_at hl 0 rfl) ?_
  refine lv_iload_n hx hb dX2_sealNode_1 rfl (lv_at hl 1 rfl) ?_
  refine lv_iload_n hx hb dX2_sealNode_2 rfl (lv_at hl 2 rfl) ?_
  refine x_vv ⟨hx, hb, hml, hown, hts⟩ (c_X2_hashNode l G cA tF tC g _ N hN D R F KD KR FL SU WO ln kp rd wr ft ql qk hql hqk) (cwV 2 hts gX2_sealNode_X2_hashNode rfl rfl rfl (by decide +kernel) ⟨Nat.le_of_ble_eq_true rfl, Nat.le_of_ble_eq_true rfl⟩) hK hP hD hS hT rfl 0 2 rfl rfl rfl hl.1 rfl (Nat.le_of_ble_eq_true rfl) dX2_sealNode_3 ⟨Nat.le_refl _, Nat.le_refl _⟩ (fun u H locs hs1 hP hD hS => ?_)
  obtain ⟨SU1, WO1, ln1⟩ := u
  have hP : va_P G vwCl (xW g cA N D R F KD KR FL SU1 WO1 ln1 kp rd wr ft) _ := hP
  have hD : va_D _ (xW g cA N D R F KD KR FL SU1 WO1 ln1 kp rd wr ft) := hD
  refine lv_aload_n hx hb dX2_sealNode_6 rfl (lv_at hl 0 rfl) ?_
  refine va_get (D := G) (ci := 2) (v := .ref (g 2)) (C := RX2) (T := TX2) (N := 12) hx hb hts hinX2 hown hK hP 0 rfl rfl 1 (by decide) (hts (.fieldLink RX2 30 "SealedPages" "hasher" "LSealedPages$Hasher;") (by decide +kernel)) (fun _ h => h) rfl dX2_sealNode_7 ?_
  refine lv_aload_n hx hb dX2_sealNode_10 rfl (lv_at hl 0 rfl) ?_
  refine va_get (D := G) (ci := 2) (v := .ref (g 3)) (C := RX2) (T := TX2) (N := 12) hx hb hts hinX2 hown hK hP 0 rfl rfl 2 (by decide) (hts (.fieldLink RX2 38 "SealedPages" "diskBytes" "[I") (by decide +kernel)) (fun _ h => h) rfl dX2_sealNode_11 ?_
  refine lv_aload_n hx hb dX2_sealNode_14 rfl (lv_at hl 0 rfl) ?_
  refine va_get (D := G) (ci := 2) (v := .ref (g 1)) (C := RX2) (T := TX2) (N := 12) hx hb hts hinX2 hown hK hP 0 rfl rfl 0 (by decide) (hts (.fieldLink RX2 23 "SealedPages" "layout" "LSealedPages$Layout;") (by decide +kernel)) (fun _ h => h) rfl dX2_sealNode_15 ?_
  refine lv_iload_n hx hb dX2_sealNode_18 rfl (lv_at hl 1 rfl) ?_
  refine lv_iload_n hx hb dX2_sealNode_19 rfl (lv_at hl 2 rfl) ?_
  refine x_vi ⟨hx, hb, hml, hown, hts⟩ (c_X1_placeOfNode l G cA tF tC g _ N hN D R F KD KR FL SU1 WO1 ln1 kp rd wr ft ql qk hql) (cwV 2 hts gX2_sealNode_X1_placeOfNode rfl rfl rfl (by decide +kernel) ⟨Nat.le_of_ble_eq_true rfl, Nat.le_of_ble_eq_true rfl⟩) hK hP hD hS hT rfl 1 1 rfl rfl rfl hl.1 rfl (Nat.le_of_ble_eq_true rfl) dX2_sealNode_20 ⟨Nat.le_refl _, Nat.le_refl _⟩ (fun r_3 u H locs hp_2 hP hD hS => ?_)
  have hP : va_P G vwCl (xW g cA N D R F KD KR FL SU1 WO1 ln1 kp rd wr ft) _ := hP
  have hD : va_D _ (xW g cA N D R F KD KR FL SU1 WO1 ln1 kp rd wr ft) := hD
  have hp_2 : r_3 = nI (plc N ql qk) := hp_2
  subst hp_2
  refine x_vv ⟨hx, hb, hml, hown, hts⟩ (c_X0_copyResult_D l G cA tF tC g _ N hN D R F KD KR FL SU1 WO1 ln1 kp rd wr ft (plc N ql qk) hpl) (cwV 2 hts gX2_sealNode_X0_copyResult rfl rfl rfl (by decide +kernel) ⟨Nat.le_of_ble_eq_true rfl, Nat.le_of_ble_eq_true rfl⟩) hK hP hD hS hT rfl 2 0 rfl rfl rfl hl.1 rfl (Nat.le_of_ble_eq_true rfl) dX2_sealNode_23 ⟨Nat.le_refl _, Nat.le_refl _⟩ (fun u H locs hp_4 hP hD hS => ?_)
  have hP : va_P G vwCl (xW g cA N (va_cpy (hby SU1) D 0 (plc N ql qk) 32) R F KD KR FL SU1 WO1 ln1 kp rd wr ft) _ := hP
  have hD : va_D _ (xW g cA N (va_cpy (hby SU1) D 0 (plc N ql qk) 32) R F KD KR FL SU1 WO1 ln1 kp rd wr ft) := hD
  have ec_6 : va_cpy (hby SU1) D 0 (plc N ql qk) 32 = sNode N D ql qk := cpy_ag (fun q hq => by rw [Nat.zero_add]; exact hs1 q hq)
  rw [ec_6] at hP hD
  exact hret (SU1, WO1, ln1) _ _ _ _ dX2_sealNode_26 hP hD hS trivial

set_option maxHeartbeats 4000000 in
set_option maxRecDepth 100000 in
theorem c_X2_sealRoot (l : Launch) (G : va_G) (cA : ClassId) (tF tC : Nat) (g : Nat → Nat) (sz N : Nat) (hN : 1 ≤ N ∧ N ≤ 64) (D R F KD KR FL SU WO : Nat → Int32) (ln kp rd wr ft : Int32)  : CV l yX2_sealRoot wsX2_sealRoot 4 100 G cA tF tC g 13 sz (xW g cA N D R F KD KR FL SU WO ln kp rd wr ft) [.ref (g 0)] (fun (u : (Nat → Int32) × (Nat → Int32) × Int32) => xW g cA N D (sRoot N D R) F KD KR FL u.1 u.2.1 u.2.2 kp rd wr ft) (fun _ => True) := by
  refine x_entryV (cc := cX2_sealRoot) (maxL := 1) (by decide) rfl (fun _ => rfl) (Nat.le_of_ble_eq_true rfl) ?_
  intro p e s m args below meth c Q hx hb hml hown hts hK hP hD hS hT hret ls hl
  have hown : s.vm.findClass RX2 = some m.cls := hown
  have hl : lv_has ls 1 [(0, .ref (g 0))] := hl
  have hinX2 : ∀ w ∈ wsX20, w ∈ wsX2_sealRoot := by decide +kernel
  have hz := siz_le hN
  have hse := siz_eq N
  have hnd := nds_le hN
  have hlv := lvs_in hN
  refine lv_aload_n hx hb dX2_sealRoot_0 rfl (lv_at hl 0 rfl) ?_
  refine x_vv ⟨hx, hb, hml, hown, hts⟩ (c_X2_hashHeadAndLastNode l G cA tF tC g _ N hN D R F KD KR FL SU WO ln kp rd wr ft ) (cwV 0 hts gX2_sealRoot_X2_hashHeadAndLastNode rfl rfl rfl (by decide +kernel) ⟨Nat.le_of_ble_eq_true rfl, Nat.le_of_ble_eq_true rfl⟩) hK hP hD hS hT rfl 0 2 rfl rfl rfl hl.1 rfl (Nat.le_of_ble_eq_true rfl) dX2_sealRoot_1 ⟨Nat.le_refl _, Nat.le_refl _⟩ (fun u H locs hs1 hP hD hS => ?_)
  obtain ⟨SU1, WO1, ln1⟩ := u
  have hP : va_P G vwCl (xW g cA N D R F KD KR FL SU1 WO1 ln1 kp rd wr ft) _ := hP
  have hD : va_D _ (xW g cA N D R F KD KR FL SU1 WO1 ln1 kp rd wr ft) := hD
  refine lv_aload_n hx hb dX2_sealRoot_4 rfl (lv_at hl 0 rfl) ?_
  refine va_get (D := G) (ci := 2) (v := .ref (g 2)) (C := RX2) (T := TX2) (N := 12) hx hb hts hinX2 hown hK hP 0 rfl rfl 1 (by decide) (hts (.fieldLink RX2 30 "SealedPages" "hasher" "LSealedPages$Hasher;") (by decide +kernel)) (fun _ h => h) rfl dX2_sealRoot_5 ?_
  refine lv_aload_n hx hb dX2_sealRoot_8 rfl (lv_at hl 0 rfl) ?_
  refine va_get (D := G) (ci := 2) (v := .ref (g 4)) (C := RX2) (T := TX2) (N := 12) hx hb hts hinX2 hown hK hP 0 rfl rfl 3 (by decide) (hts (.fieldLink RX2 42 "SealedPages" "rootBytes" "[I") (by decide +kernel)) (fun _ h => h) rfl dX2_sealRoot_9 ?_
  refine lv_iconst (v := 0) hx hb dX2_sealRoot_12 (by decide) ?_
  refine x_vv ⟨hx, hb, hml, hown, hts⟩ (c_X0_copyResult_R l G cA tF tC g _ N hN D R F KD KR FL SU1 WO1 ln1 kp rd wr ft 0 (by omega)) (cwV 2 hts gX2_sealRoot_X0_copyResult rfl rfl rfl (by decide +kernel) ⟨Nat.le_of_ble_eq_true rfl, Nat.le_of_ble_eq_true rfl⟩) hK hP hD hS hT rfl 2 0 rfl rfl rfl hl.1 rfl (Nat.le_of_ble_eq_true rfl) dX2_sealRoot_13 ⟨Nat.le_refl _, Nat.le_refl _⟩ (fun u H locs hp_2 hP hD hS => ?_)
  have hP : va_P G vwCl (xW g cA N D (va_cpy (hby SU1) R 0 0 32) F KD KR FL SU1 WO1 ln1 kp rd wr ft) _ := hP
  have hD : va_D _ (xW g cA N D (va_cpy (hby SU1) R 0 0 32) F KD KR FL SU1 WO1 ln1 kp rd wr ft) := hD
  have ec_4 : va_cpy (hby SU1) R 0 0 32 = sRoot N D R := cpy_ag (fun q hq => by rw [Nat.zero_add]; exact hs1 q hq)
  rw [ec_4] at hP hD
  exact hret (SU1, WO1, ln1) _ _ _ _ dX2_sealRoot_16 hP hD hS trivial
end
