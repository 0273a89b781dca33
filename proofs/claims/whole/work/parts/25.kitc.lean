/-! own kit for constructors: an object and what it makes -/
def oA (h sz : Nat) : Nat → Prop := fun q => q = h ∨ sz ≤ q
def kPre (G : va_G) (cA : ClassId) (tF tC : Nat) (h ci : Nat) (fs : List Value) (E : State → Prop) (sz : Nat) (U : State) : Prop := U.heap.size = sz ∧ va_P G vwCl [(h, .inr (ci, fs))] U.heap ∧ va_K G vwCl [(cA, .int)] U ∧ xT tF tC (oA h sz) U U.heap ∧ E U
def kAt (G : va_G) (cA : ClassId) (A : Nat → Prop) (w : va_W) (t : State) : Prop := va_P G vwCl w t.heap ∧ va_K G vwCl [(cA, .int)] t ∧ va_D A w
/-- a constructor's contract: from its fresh object, with what E says of the tables -/
def CC (l : Launch) (y : MethodName) (ws : List Cond) (fr mc ms lo : Nat) (G : va_G) (cA : ClassId) (tF tC h ci : Nat) (fs : List Value) (E : State → Prop) (sz : Nat) (av : List Value) {S : Type} (ww : S → va_W) (post : S → Prop) : Prop :=
  Met l y ws { frames := fr, cells := mc, slots := ms, locals := lo } (va_Pc (.ref h :: av) (kPre G cA tF tC h ci fs E sz)) (va_Qv post (fun u t => kAt G cA (oA h sz) (ww u) t) (oA h sz)) mc ms (oA h sz)
def eT (_ : State) : Prop := True
def eN (U : State) : Prop := va_Nw (.methodLinkNest "SealedPages" 29 ⟨"SealedPages$Hasher", "<init>", "()V"⟩ "SealedPages") U
theorem eN.warm {u U : State} (hW : u.WarmedH U.vm) (h : eN u) : eN U := va_Nw.warmM hW h
theorem eN.called {U : State} {gf : JFrame} {mk : MethodId} {a : Array Value} (h : eN U) : eN (U.calling gf mk a) := va_Nw.same (u := U) (U := U.calling gf mk a) rfl rfl h
theorem kPre_blind {G : va_G} {cA : ClassId} {tF tC h ci : Nat} {fs : List Value} {E : State → Prop} {sz : Nat} {av : List Value} (hE : ∀ (U : State) (gf : JFrame) (mk : MethodId) (a : Array Value), E U → E (U.calling gf mk a)) : FrameBlind (va_Pc av (kPre G cA tF tC h ci fs E sz)) := by
  intro a U gf mk q
  obtain ⟨q0, q1, qP, qK, qT, qE⟩ := q
  exact ⟨q0, q1, qP, va_K.moved (u := U) (U := U.calling gf mk a) (Vm.Alike.refl U.vm) qK, qT.called, hE U gf mk a qE⟩
theorem one_D {h : Nat} {e : va_E} {A : Nat → Prop} (hA : A h) : va_D A [(h, e)] := by
  have key : ∀ (k : Nat) (q : Nat × va_E), ([(h, e)] : va_W)[k]? = some q → k = 0 ∧ q = (h, e) := by
    intro k q hk
    match k, hk with
    | 0, hk => cases hk; exact ⟨rfl, rfl⟩
    | k + 1, hk => simp at hk
  refine ⟨fun i j x y hi hj _ => ?_, fun k q hk => ?_⟩
  · rw [(key i x hi).1, (key j y hj).1]
  · rw [(key k q hk).2]
    exact hA
section KC
variable {p : Program} {l : Launch} {e : Env} {R : Room} {s : State} {m : MethodId} {args : Array Value} {below : List Frame} {meth : Method} {c : Code} {H : Heap} {locs : List Loc} {cells slots : Nat} {Q : State → Prop}
variable {cc bytes : ByteArray} {pc nL maxL index k fr lo mc ms : Nat} {ls : Array Slot} {rest As st0 : List Value} {G : va_G} {cA : ClassId} {tF tC : Nat} {h ci : Nat} {fs : List Value} {E : State → Prop} {sz : Nat} {w wr : va_W} {own C host : String} {y : MethodName} {ws ws' Ts : List Cond} {S : Type} {ww : S → va_W} {postV : S → Prop} {av : List Value} {A : Nat → Prop}
/-- behind a constructor's call: the other cells, and what it made -/
theorem k_run (hr : va_Run p l e R s m args below meth c H locs cells slots mc ms (F0 m pc ls st0) rest (va_Qv postV (fun u t => kAt G cA (oA h H.size) (ww u) t) (oA h H.size) av.toArray) (oA h H.size)) (hP : va_P G vwCl (wr ++ [(h, .inr (ci, fs))]) H) (hD : va_D A (wr ++ [(h, .inr (ci, fs))])) (hS : va_S A s.heap H locs) (hA : ∀ q, s.heap.size ≤ q → A q)
    (kk : ∀ (u : S) (H1 : Heap) (locs1 : List Loc), postV u → va_P G vwCl (wr ++ ww u) H1 → va_D A (wr ++ ww u) → va_S A s.heap H1 locs1 → W p l e R s m args below meth c H1 locs1 (cells + mc) (slots + ms) Q (F0 m (pc + 3) ls rest)) : W p l e R s m args below meth c H locs cells slots Q (F0 m pc ls st0) := by
  have hlast : (wr ++ [(h, .inr (ci, fs))])[wr.length]? = some (h, .inr (ci, fs)) := by
    rw [List.getElem?_append_right (Nat.le_refl _), Nat.sub_self]
    rfl
  have hAh : A h := hD.2 _ _ hlast
  have hsub : ∀ q, oA h H.size q → A q := fun q z => z.elim (fun z => z ▸ hAh) (fun z => hA q (Nat.le_trans hS.1 z))
  have hin : ∀ (i : Nat) (q : Nat × va_E), wr[i]? = some q → (wr ++ [(h, .inr (ci, fs))])[i]? = some q ∧ i < wr.length := by
    intro i q hi
    have hl := (List.getElem?_eq_some_iff.mp hi).1
    exact ⟨by rw [List.getElem?_append_left hl]; exact hi, hl⟩
  have hout : ∀ (i : Nat) (q : Nat × va_E), wr[i]? = some q → q.1 < H.size ∧ ¬ oA h H.size q.1 := by
    intro i q hi
    obtain ⟨h1, h2⟩ := hin i q hi
    have hlt := (hP i q h1).lt
    refine ⟨hlt, fun z => ?_⟩
    rcases z with z | z
    · have := hD.1 i wr.length q (h, .inr (ci, fs)) h1 hlast z
      omega
    · omega
  refine va_callv hr hS (fun q _ z => hsub q z) hsub (fun u t H1 locs1 ht hvm hw hB hz hk hS1 => ?_)
  obtain ⟨hP1, hK1, hD1⟩ := hB
  rw [ht] at hP1
  refine kk u H1 locs1 hw (va_P.app (fun i q hi => ?_) hP1) (va_D.app ?_ (hD1.weaken (fun _ q _ z => hsub q.1 z)) (fun i j x y hx hy hxy => ?_)) hS1
  · obtain ⟨h1, -⟩ := hin i q hi
    obtain ⟨g1, g2⟩ := hout i q hi
    exact (hP i q h1).kept (hk q.1 g1 g2)
  · refine ⟨fun i j x y hi hj hxy => hD.1 i j x y (hin i x hi).1 (hin j y hj).1 hxy, fun i q hi => hD.2 i q (hin i q hi).1⟩
  · exact (hout i x hx).2 (by rw [hxy]; exact hD1.2 j y hy)
theorem k_pre (hK : va_K G vwCl [(cA, .int)] s) (hP : va_P G vwCl (wr ++ [(h, .inr (ci, fs))]) H) (hD : va_D A (wr ++ [(h, .inr (ci, fs))])) (hS : va_S A s.heap H locs) (hA : ∀ q, s.heap.size ≤ q → A q) (hT : xT tF tC A s s.heap) (hE : ∀ U : State, s.WarmedH U.vm → E U) : ∀ U : State, U.heap = H → s.WarmedH U.vm → kPre G cA tF tC h ci fs E H.size U := by
  have hlast : (wr ++ [(h, .inr (ci, fs))])[wr.length]? = some (h, .inr (ci, fs)) := by
    rw [List.getElem?_append_right (Nat.le_refl _), Nat.sub_self]
    rfl
  have hAh : A h := hD.2 _ _ hlast
  intro U hU hW
  refine ⟨by rw [hU], ?_, va_K.moved hW.alike hK, ?_, hE U hW⟩
  · rw [hU]
    intro i q hi
    match i, hi with
    | 0, hi => cases hi; exact hP _ _ hlast
    | i + 1, hi => simp at hi
  · rw [hU]
    exact ((hT.warm hW).kept hS.2.1).narrow (fun q z => z.elim (fun z => z ▸ hAh) (fun z => hA q (Nat.le_trans hS.1 z)))
theorem k_init (S0 : CallFix p m c cc nL s args Ts own) (hM : CC l y ws fr mc ms lo G cA tF tC h ci fs E H.size As ww postV) (cw : CallB R s args own index y bytes maxL none ws { frames := fr, cells := mc, slots := ms, locals := lo } mc ms k ∧ y.name = "<init>" ∧ (Cond.instanceMethod y).before args s = true)
    (hEc : ∀ (U : State) (gf : JFrame) (mk : MethodId) (a : Array Value), E U → E (U.calling gf mk a)) (hE : ∀ U : State, s.WarmedH U.vm → E U)
    (hK : va_K G vwCl [(cA, .int)] s) (hP : va_P G vwCl (wr ++ [(h, .inr (ci, fs))]) H) (hD : va_D A (wr ++ [(h, .inr (ci, fs))])) (hS : va_S A s.heap H locs) (hA : ∀ q, s.heap.size ≤ q → A q) (hT : xT tF tC A s s.heap)
    (hn : As.length = k) (hsize : ls.size = nL) (hst : st0 = As.reverse ++ .ref h :: rest) (hW : (rest.map fun v => v.category).sum ≤ 8) (hdg : decode cc pc = .ok (.invokespecial index, 3)) (hf : cells + mc ≤ R.cells ∧ slots + ms ≤ R.slots)
    (kk : ∀ (u : S) (H1 : Heap) (locs1 : List Loc), postV u → va_P G vwCl (wr ++ ww u) H1 → va_D A (wr ++ ww u) → va_S A s.heap H1 locs1 → W p l e R s m args below meth c H1 locs1 (cells + mc) (slots + ms) Q (F0 m (pc + 3) ls rest)) : W p l e R s m args below meth c H locs cells slots Q (F0 m pc ls st0) := by
  subst hst
  exact k_run (av := .ref h :: As) (va_runI (As := As) (rest := rest) S0 hM cw ⟨kPre_blind hEc, fun U hU hW => ⟨rfl, k_pre hK hP hD hS hA hT hE U hU hW⟩⟩ rfl hn hsize rfl (lv_room hW) hdg hf) hP hD hS hA kk
theorem k_initN (S0 : CallFix p m c cc nL s args Ts own) (hM : CC l y ws fr mc ms lo G cA tF tC h ci fs E H.size As ww postV) (cw : va_CN R s args own index y host bytes maxL none ws { frames := fr, cells := mc, slots := ms, locals := lo } mc ms k ∧ y.name = "<init>" ∧ (Cond.instanceMethod y).before args s = true)
    (hEc : ∀ (U : State) (gf : JFrame) (mk : MethodId) (a : Array Value), E U → E (U.calling gf mk a)) (hE : ∀ U : State, s.WarmedH U.vm → E U)
    (hK : va_K G vwCl [(cA, .int)] s) (hP : va_P G vwCl (wr ++ [(h, .inr (ci, fs))]) H) (hD : va_D A (wr ++ [(h, .inr (ci, fs))])) (hS : va_S A s.heap H locs) (hA : ∀ q, s.heap.size ≤ q → A q) (hT : xT tF tC A s s.heap)
    (hn : As.length = k) (hsize : ls.size = nL) (hst : st0 = As.reverse ++ .ref h :: rest) (hW : (rest.map fun v => v.category).sum ≤ 8) (hdg : decode cc pc = .ok (.invokespecial index, 3)) (hf : cells + mc ≤ R.cells ∧ slots + ms ≤ R.slots)
    (kk : ∀ (u : S) (H1 : Heap) (locs1 : List Loc), postV u → va_P G vwCl (wr ++ ww u) H1 → va_D A (wr ++ ww u) → va_S A s.heap H1 locs1 → W p l e R s m args below meth c H1 locs1 (cells + mc) (slots + ms) Q (F0 m (pc + 3) ls rest)) : W p l e R s m args below meth c H locs cells slots Q (F0 m pc ls st0) := by
  subst hst
  exact k_run (av := .ref h :: As) (va_runIN (As := As) (rest := rest) S0 hM cw ⟨kPre_blind hEc, fun U hU hW => ⟨rfl, k_pre hK hP hD hS hA hT hE U hU hW⟩⟩ rfl hn hsize rfl (lv_room hW) hdg hf) hP hD hS hA kk
theorem k_entry (hy : plainName y.cls = true) (hyn : y.name = "<init>") (hw : ws = Cond.code y cc maxL none :: ws') (hlen : (lg_sl (.ref h :: av)).length ≤ maxL)
    (body : ∀ (p : Program) (e : Env) (s : State) (m : MethodId) (args : Array Value) (below : List Frame) (meth : Method) (c : Code) (Q : State → Prop), p.tables.exec = Jvm.exec → c.code = cc → c.maxLocals = maxL → s.vm.findClass y.cls = some m.cls → meth.name = "<init>" → (∀ w ∈ ws, w.before args s = true) → va_K G vwCl [(cA, .int)] s → va_P G vwCl [(h, .inr (ci, fs))] s.heap → va_D (oA h s.heap.size) [(h, .inr (ci, fs))] → va_S (oA h s.heap.size) s.heap s.heap [] → (∀ q, s.heap.size ≤ q → oA h s.heap.size q) → xT tF tC (oA h s.heap.size) s s.heap → E s →
      (∀ (u : S) (H : Heap) (locs : List Loc) (pc : Nat) (ls : Array Slot), decode cc pc = .ok (.return_, 1) → va_P G vwCl (ww u) H → va_D (oA h s.heap.size) (ww u) → va_S (oA h s.heap.size) s.heap H locs → postV u → W p l e { frames := fr, cells := mc, slots := ms, locals := lo } s m args below meth c H locs mc ms Q (F0 m pc ls [])) →
      ∀ ls : Array Slot, lv_has ls maxL (lv_args 0 (.ref h :: av)) → W p l e { frames := fr, cells := mc, slots := ms, locals := lo } s m args below meth c s.heap [] 0 0 Q (F0 m 0 ls [])) : CC l y ws fr mc ms lo G cA tF tC h ci fs E sz av ww postV := by
  refine Met.ofW (cc := cc) (maxL := maxL) (ret := none) hy hw ?_
  intro p e s m args below meth c s₁ B hml hv
  obtain ⟨rfl, hsz, hP, hK, hT, hE⟩ := hv
  subst hsz
  have hl := lv_entry (.ref h :: av) (n := maxL) hlen
  rw [lg_entry_eq]
  refine body p e s m _ below meth c _ B.exec B.bytes hml (findClass_of_methodNamed B.named) (by rw [(name_of_methodNamed B.named B.method).1]; exact hyn) (atoms_spec (ws := ws) B.pre) hK hP (one_D (Or.inl rfl)) va_S.rf (fun _ z => Or.inr z) hT hE (fun u H locs pc ls hd hP hD hS hp => ?_) _ hl
  exact W.vret B.exec B.bytes B.returns (fun t ht hW => ⟨⟨u, rfl, hp, by rw [ht]; exact hP, va_K.moved hW.alike hK, hD⟩, hS.F ht⟩) hS.2.2 hd B.notSynchronized
theorem k_newa (hx : p.tables.exec = Jvm.exec) (hb : c.code = cc) (harr : (Cond.arrayClass .int).before args s = true) (hK : va_K G vwCl [(cA, .int)] s) (hP : va_P G vwCl w H) (hD : va_D A w) (hS : va_S A s.heap H locs) (hA : ∀ q, s.heap.size ≤ q → A q) {N' : Nat} (hN : N' < 100000) (hcells : cells + 1 ≤ R.cells) (hslots : slots + N' ≤ R.slots) (hdg : decode cc pc = .ok (.newarray .int, 2))
    (kk : ∀ (q : Nat) (H1 : Heap), va_P G vwCl (w ++ [(q, .inl (cA, N', .inl (fun _ => 0)))]) H1 → va_D A (w ++ [(q, .inl (cA, N', .inl (fun _ => 0)))]) → va_S A s.heap H1 locs → W p l e R s m args below meth c H1 locs (cells + 1) (slots + N') Q (F0 m (pc + 2) ls (.ref q :: rest))) : W p l e R s m args below meth c H locs cells slots Q (F0 m pc ls (.int (nI N') :: rest)) := by
  refine va_newa (atype := .int) (ty := .int) (a0 := (N', .inl (fun _ => 0))) hx hb harr rfl hK hP hD hS hA (fun _ => rfl) (nI_pos (by omega)) (nI_clamp (by omega)) (by show N' * 4 ≤ 536870912; omega) hcells hslots hdg (fun q cB H1 hK2 hP2 hD2 hS2 => ?_)
  have e : cB = cA := by
    have h0 := (hK2.2 0 (cA, .int) rfl).2
    have h1 := (hK2.2 1 (cB, .int) rfl).2
    exact Option.some.inj ((show s.vm.findClass _ = some cB from h1).symm.trans (show s.vm.findClass _ = some cA from h0))
  subst e
  exact kk q H1 hP2 hD2 hS2
end KC
/-! rows for the walks of the constructors -/
def clN (x : Int32) : Nat := if x < 1 then 1 else if 64 < x then 64 else x.toNatClampNeg
theorem clN_mid {x : Int32} (h1 : ¬ x < 1) (h2 : ¬ 64 < x) : ∃ q : Nat, 1 ≤ q ∧ q ≤ 64 ∧ x = nI q ∧ clN x = q := by
  rw [Int32.lt_iff_toInt_lt, show (1 : Int32).toInt = 1 from rfl] at h1
  rw [Int32.lt_iff_toInt_lt, show (64 : Int32).toInt = 64 from rfl] at h2
  obtain ⟨q, hq, rfl⟩ := nI_of (x := x) (by rw [Int32.lt_iff_toInt_lt, Int32.toInt_zero]; omega)
  rw [nI_toInt hq] at h1 h2
  refine ⟨q, by omega, by omega, rfl, ?_⟩
  unfold clN
  rw [if_neg (by rw [Int32.lt_iff_toInt_lt, nI_toInt hq, show (1 : Int32).toInt = 1 from rfl]; omega), if_neg (by rw [Int32.lt_iff_toInt_lt, nI_toInt hq, show (64 : Int32).toInt = 64 from rfl]; omega), nI_clamp hq]
theorem clN_1 {x : Int32} (h : x < 1) : clN x = 1 := by unfold clN; rw [if_pos h]
theorem clN_64 {x : Int32} (h : 64 < x) : clN x = 64 := by
  unfold clN
  rw [if_neg (fun z => by rw [Int32.lt_iff_toInt_lt, show (1 : Int32).toInt = 1 from rfl] at z; rw [Int32.lt_iff_toInt_lt, show (64 : Int32).toInt = 64 from rfl] at h; omega), if_pos h]
theorem clN_in (x : Int32) : 1 ≤ clN x ∧ clN x ≤ 64 := by
  by_cases h1 : x < 1
  · rw [clN_1 h1]; omega
  · by_cases h2 : 64 < x
    · rw [clN_64 h2]; omega
    · obtain ⟨q, a, b, -, d⟩ := clN_mid h1 h2
      rw [d]; exact ⟨a, b⟩
theorem clN_v {x : Int32} (h1 : ¬ x < 1) (h2 : ¬ 64 < x) : x = nI (clN x) := by
  obtain ⟨q, -, -, e, d⟩ := clN_mid h1 h2
  rw [d]; exact e
theorem clN_x (x : Int32) : (if 1 < (if x < 64 then x else 64) then (if x < 64 then x else 64) else 1) = nI (clN x) := by
  have t1 : (1 : Int32).toInt = 1 := rfl
  have t64 : (64 : Int32).toInt = 64 := rfl
  by_cases h1 : x < 1
  · have a : x < 64 := by rw [Int32.lt_iff_toInt_lt, t1] at h1; rw [Int32.lt_iff_toInt_lt, t64]; omega
    have b : ¬ 1 < x := by rw [Int32.lt_iff_toInt_lt, t1] at h1 ⊢; omega
    rw [if_pos a, if_neg b, clN_1 h1]
    rfl
  · by_cases h2 : 64 < x
    · have a : ¬ x < 64 := by rw [Int32.lt_iff_toInt_lt, t64] at h2 ⊢; omega
      rw [if_neg a, if_pos (by decide), clN_64 h2]
      rfl
    · have e := clN_v h1 h2
      by_cases a : x < 64
      · rw [if_pos a]
        by_cases b : 1 < x
        · rw [if_pos b]; exact e
        · rw [if_neg b, ← e]
          rw [Int32.lt_iff_toInt_lt, t1] at h1 b
          exact Int32.toInt_inj.mp (by rw [t1]; omega)
      · rw [if_neg a, if_pos (by decide), ← e]
        rw [Int32.lt_iff_toInt_lt, t64] at h2 a
        exact Int32.toInt_inj.mp (by rw [t64]; omega)
def widK (N j l : Nat) : Int32 := nI (if l < j then nod N l else 0)
def ahK (N j l : Nat) : Int32 := nI (if l < j then ahd N l else 0)
theorem widK_0 (N : Nat) : widK N 0 = fun _ => 0 := by funext l; unfold widK; rw [if_neg (Nat.not_lt_zero _)]; rfl
theorem ahK_0 (N : Nat) : ahK N 0 = fun _ => 0 := by funext l; unfold ahK; rw [if_neg (Nat.not_lt_zero _)]; rfl
theorem widK_s (N j : Nat) : upd (widK N j) j (nI (nod N j)) = widK N (j + 1) := by
  funext l
  unfold upd widK
  by_cases e : l = j
  · rw [if_pos e, if_pos (by omega), e]
  · rw [if_neg e]
    by_cases q : l < j
    · rw [if_pos q, if_pos (by omega)]
    · rw [if_neg q, if_neg (by omega)]
theorem ahK_s (N j : Nat) : upd (ahK N j) j (nI (ahd N j)) = ahK N (j + 1) := by
  funext l
  unfold upd ahK
  by_cases e : l = j
  · rw [if_pos e, if_pos (by omega), e]
  · rw [if_neg e]
    by_cases q : l < j
    · rw [if_pos q, if_pos (by omega)]
    · rw [if_neg q, if_neg (by omega)]
def fK (f : Nat → Int32) (k : Nat) : Nat → Int32 := fun j => if j < k then f j else 0
theorem fK_f {f : Nat → Int32} {v : Int32} (h : v = f 0) : upd (fun _ => 0) 0 v = fK f 1 := by
  funext j
  unfold upd fK
  by_cases e : j = 0
  · rw [if_pos e, if_pos (by omega), e, h]
  · rw [if_neg e, if_neg (by omega)]
theorem fK_s {f : Nat → Int32} {k : Nat} {v : Int32} (h : v = f k) : upd (fK f k) k v = fK f (k + 1) := by
  funext j
  unfold upd fK
  by_cases e : j = k
  · rw [if_pos e, if_pos (by omega), e, h]
  · rw [if_neg e]
    by_cases q : j < k
    · rw [if_pos q, if_pos (by omega)]
    · rw [if_neg q, if_neg (by omega)]
theorem fK_k : fK kC 64 = kC := by
  funext j
  unfold fK
  by_cases q : j < 64
  · rw [if_pos q]
  · rw [if_neg q]
    unfold kC
    rw [List.getD_eq_getElem?_getD, List.getElem?_eq_none (by show 64 ≤ j; omega)]
    rfl
theorem fK_h : fK hC 8 = hC := by
  funext j
  unfold fK
  by_cases q : j < 8
  · rw [if_pos q]
  · rw [if_neg q]
    unfold hC
    rw [List.getD_eq_getElem?_getD, List.getElem?_eq_none (by show 8 ≤ j; omega)]
    rfl
theorem wA_oA {g : Nat → Nat} {n sz : Nat} {w : va_W} (hg : w.map Prod.fst = (List.range n).map g) (hD : va_D (oA (g 0) sz) w) : ∀ q, wA g n sz q → oA (g 0) sz q := by
  intro q hq
  rcases hq with ⟨k, hk, rfl⟩ | hq
  · have h1 : (w.map Prod.fst)[k]? = some (g k) := by rw [hg, List.getElem?_map, List.getElem?_range hk]; rfl
    rw [List.getElem?_map] at h1
    cases h2 : w[k]? with
    | none => rw [h2] at h1; cases h1
    | some x =>
      rw [h2] at h1
      have e : x.1 = g k := Option.some.inj h1
      rw [← e]
      exact hD.2 k x h2
  · exact Or.inr hq
theorem va_S_mono {A B : Nat → Prop} {H0 H : Heap} {locs : List Loc} (hAB : ∀ q, A q → B q) (h : va_S A H0 H locs) : va_S B H0 H locs := ⟨h.1, fun q h1 h2 => h.2.1 q h1 (fun z => h2 (hAB q z)), fun x hx => hAB _ (h.2.2 x hx)⟩
