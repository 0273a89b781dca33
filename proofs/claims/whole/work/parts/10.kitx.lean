/-! own kit: one world for all methods of an object (no cell is made behind its constructor), contracts CI, CV over it -/
def hC (j : Nat) : Int32 := ([1779033703, -1150833019, 1013904242, -1521486534, 1359893119, -1694144372, 528734635, 1541459225] : List Int32).getD j 0
def kC (j : Nat) : Int32 := ([1116352408, 1899447441, -1245643825, -373957723, 961987163, 1508970993, -1841331548, -1424204075, -670586216, 310598401, 607225278, 1426881987, 1925078388, -2132889090, -1680079193, -1046744716, -459576895, -272742522, 264347078, 604807628, 770255983, 1249150122, 1555081692, 1996064986, -1740746414, -1473132947, -1341970488, -1084653625, -958395405, -710438585, 113926993, 338241895, 666307205, 773529912, 1294757372, 1396182291, 1695183700, 1986661051, -2117940946, -1838011259, -1564481375, -1474664885, -1035236496, -949202525, -778901479, -694614492, -200395387, 275423344, 430227734, 506948616, 659060556, 883997877, 958139571, 1322822218, 1537002063, 1747873779, 1955562222, 2024104815, -2067236844, -1933114872, -1866530822, -1538233109, -1090935817, -965641998] : List Int32).getD j 0
def gA (g : Nat → Nat) (n : Nat) : Nat → Prop := fun q => ∃ k, k < n ∧ q = g k
def wA (g : Nat → Nat) (n sz : Nat) : Nat → Prop := fun q => (∃ k, k < n ∧ q = g k) ∨ sz ≤ q
def xN (U : State) : Prop := va_Nw (.methodLinkNest "SealedPages$Layout" 31 ⟨"SealedPages", "isBelow", "(II)Z"⟩ "SealedPages") U
def xT (tF tC : Nat) (A : Nat → Prop) (U : State) (H : Heap) : Prop := va_Z "SealedPages$Hasher" "FIRST_SUMS" "[I" (.ref tF) A U H ∧ va_T .int tF 8 (fun j => .int (hC j)) A U H ∧ va_Z "SealedPages$Hasher" "CONSTANTS" "[I" (.ref tC) A U H ∧ va_T .int tC 64 (fun j => .int (kC j)) A U H ∧ xN U
theorem xT.warm {tF tC : Nat} {A : Nat → Prop} {u U : State} {H : Heap} (hW : u.WarmedH U.vm) (h : xT tF tC A u H) : xT tF tC A U H := ⟨h.1.moved hW.alike, h.2.1.moved hW.alike, h.2.2.1.moved hW.alike, h.2.2.2.1.moved hW.alike, va_Nw.warmM hW h.2.2.2.2⟩
theorem xT.called {tF tC : Nat} {A : Nat → Prop} {U : State} {H : Heap} {gf : JFrame} {mk : MethodId} {a : Array Value} (h : xT tF tC A U H) : xT tF tC A (U.calling gf mk a) H := ⟨va_Z.moved (u := U) (U := U.calling gf mk a) (Vm.Alike.refl U.vm) h.1, va_T.moved (u := U) (U := U.calling gf mk a) (Vm.Alike.refl U.vm) h.2.1, va_Z.moved (u := U) (U := U.calling gf mk a) (Vm.Alike.refl U.vm) h.2.2.1, va_T.moved (u := U) (U := U.calling gf mk a) (Vm.Alike.refl U.vm) h.2.2.2.1, va_Nw.same (u := U) (U := U.calling gf mk a) rfl rfl h.2.2.2.2⟩
theorem xT.kept {tF tC : Nat} {A : Nat → Prop} {U : State} {H H1 : Heap} (h : xT tF tC A U H) (hq : ∀ a : Nat, a < H.size → ¬ A a → H1[a]? = H[a]?) : xT tF tC A U H1 := ⟨h.1.kept hq, h.2.1.kept hq, h.2.2.1.kept hq, h.2.2.2.1.kept hq, h.2.2.2.2⟩
theorem xT.narrow {tF tC : Nat} {A B : Nat → Prop} {U : State} {H : Heap} (h : xT tF tC A U H) (hAB : ∀ q, B q → A q) : xT tF tC B U H := ⟨h.1.narrow hAB, h.2.1.narrow hAB, h.2.2.1.narrow hAB, h.2.2.2.1.narrow hAB, h.2.2.2.2⟩
def cPre (G : va_G) (cA : ClassId) (tF tC : Nat) (g : Nat → Nat) (n : Nat) (w : va_W) (sz : Nat) (U : State) : Prop := U.heap.size = sz ∧ va_P G vwCl w U.heap ∧ va_K G vwCl [(cA, .int)] U ∧ va_D (gA g n) w ∧ xT tF tC (wA g n sz) U U.heap
def cAt (G : va_G) (cA : ClassId) (g : Nat → Nat) (n : Nat) (w : va_W) (t : State) : Prop := va_P G vwCl w t.heap ∧ va_K G vwCl [(cA, .int)] t ∧ va_D (gA g n) w
theorem cPre_blind {G : va_G} {cA : ClassId} {tF tC : Nat} {g : Nat → Nat} {n : Nat} {w : va_W} {sz : Nat} {av : List Value} : FrameBlind (va_Pc av (cPre G cA tF tC g n w sz)) := by
  intro a U gf mk q
  obtain ⟨q0, q1, qP, qK, qD, qT⟩ := q
  exact ⟨q0, q1, qP, va_K.moved (u := U) (U := U.calling gf mk a) (Vm.Alike.refl U.vm) qK, qD, qT.called⟩
def CI (l : Launch) (y : MethodName) (ws : List Cond) (fr lo : Nat) (G : va_G) (cA : ClassId) (tF tC : Nat) (g : Nat → Nat) (n sz : Nat) (w : va_W) (av : List Value) {S : Type} (ww : S → va_W) (post : Int32 → S → Prop) : Prop :=
  Met l y ws { frames := fr, cells := 0, slots := 0, locals := lo } (va_Pc av (cPre G cA tF tC g n w sz)) (va_Qi post (fun u t => cAt G cA g n (ww u) t) (wA g n sz)) 0 0 (wA g n sz)
def CV (l : Launch) (y : MethodName) (ws : List Cond) (fr lo : Nat) (G : va_G) (cA : ClassId) (tF tC : Nat) (g : Nat → Nat) (n sz : Nat) (w : va_W) (av : List Value) {S : Type} (ww : S → va_W) (post : S → Prop) : Prop :=
  Met l y ws { frames := fr, cells := 0, slots := 0, locals := lo } (va_Pc av (cPre G cA tF tC g n w sz)) (va_Qv post (fun u t => cAt G cA g n (ww u) t) (wA g n sz)) 0 0 (wA g n sz)
theorem gA_of {G : Nat → Prop} {g : Nat → Nat} {n : Nat} {w : va_W} (hg : w.map Prod.fst = (List.range n).map g) (hD : va_D G w) : va_D (gA g n) w := by
  refine ⟨hD.1, fun k q hk => ?_⟩
  have h1 : (w.map Prod.fst)[k]? = some q.1 := by rw [List.getElem?_map, hk]; rfl
  rw [hg] at h1
  obtain ⟨j, hj, he⟩ := List.mem_map.mp (List.mem_of_getElem? h1)
  exact ⟨j, List.mem_range.mp hj, he.symm⟩
theorem gA_w {g : Nat → Nat} {n sz : Nat} {w : va_W} (hD : va_D (gA g n) w) : va_D (wA g n sz) w := hD.weaken (fun _ _ _ h => Or.inl h)
section KX
variable {p : Program} {l : Launch} {e : Env} {R : Room} {s : State} {m : MethodId} {args : Array Value} {below : List Frame} {meth : Method} {c : Code} {H : Heap} {locs : List Loc} {cells slots : Nat} {Q : State → Prop}
variable {cc bytes : ByteArray} {pc nL maxL index k fr lo : Nat} {ls : Array Slot} {rest As st0 : List Value} {G : va_G} {cA : ClassId} {tF tC : Nat} {g : Nat → Nat} {n sz : Nat} {w : va_W} {own C host : String} {y : MethodName} {ret : Option FieldType} {ws ws' Ts : List Cond} {b : Nat} {S : Type} {ww : S → va_W} {postI : Int32 → S → Prop} {postV : S → Prop} {av : List Value}
theorem x_pre (hK : va_K G vwCl [(cA, .int)] s) (hP : va_P G vwCl w H) (hD : va_D (wA g n s.heap.size) w) (hS : va_S (wA g n s.heap.size) s.heap H locs) (hT : xT tF tC (wA g n s.heap.size) s s.heap) (hg : w.map Prod.fst = (List.range n).map g) : ∀ U : State, U.heap = H → s.WarmedH U.vm → cPre G cA tF tC g n w H.size U := by
  intro U hU hW
  refine ⟨by rw [hU], by rw [hU]; exact hP, va_K.moved hW.alike hK, gA_of hg hD, ?_⟩
  rw [hU]
  exact ((hT.warm hW).kept hS.2.1).narrow (fun q h => h.elim Or.inl (fun h => Or.inr (Nat.le_trans hS.1 h)))
theorem x_sub (hS : va_S (wA g n s.heap.size) s.heap H locs) : ∀ q, wA g n H.size q → wA g n s.heap.size q := fun q h => h.elim Or.inl (fun h => Or.inr (Nat.le_trans hS.1 h))
theorem x_runI (hr : va_Run p l e R s m args below meth c H locs cells slots 0 0 (F0 m pc ls st0) rest (va_Qi postI (fun u t => cAt G cA g n (ww u) t) (wA g n H.size) av.toArray) (wA g n H.size)) (hS : va_S (wA g n s.heap.size) s.heap H locs)
    (kk : ∀ (r : Int32) (u : S) (H1 : Heap) (locs1 : List Loc), postI r u → va_P G vwCl (ww u) H1 → va_D (wA g n s.heap.size) (ww u) → va_S (wA g n s.heap.size) s.heap H1 locs1 → W p l e R s m args below meth c H1 locs1 cells slots Q (F0 m (pc + 3) ls (.int r :: rest))) : W p l e R s m args below meth c H locs cells slots Q (F0 m pc ls st0) := by
  refine va_calli hr hS (fun q _ h => x_sub hS q h) (x_sub hS) (fun r u t H1 locs1 ht hvm hw hB hz hk hS1 => ?_)
  obtain ⟨hP1, hK1, hD1⟩ := hB
  rw [ht] at hP1
  exact kk r u H1 locs1 hw hP1 (gA_w hD1) hS1
theorem x_runV (hr : va_Run p l e R s m args below meth c H locs cells slots 0 0 (F0 m pc ls st0) rest (va_Qv postV (fun u t => cAt G cA g n (ww u) t) (wA g n H.size) av.toArray) (wA g n H.size)) (hS : va_S (wA g n s.heap.size) s.heap H locs)
    (kk : ∀ (u : S) (H1 : Heap) (locs1 : List Loc), postV u → va_P G vwCl (ww u) H1 → va_D (wA g n s.heap.size) (ww u) → va_S (wA g n s.heap.size) s.heap H1 locs1 → W p l e R s m args below meth c H1 locs1 cells slots Q (F0 m (pc + 3) ls rest)) : W p l e R s m args below meth c H locs cells slots Q (F0 m pc ls st0) := by
  refine va_callv hr hS (fun q _ h => x_sub hS q h) (x_sub hS) (fun u t H1 locs1 ht hvm hw hB hz hk hS1 => ?_)
  obtain ⟨hP1, hK1, hD1⟩ := hB
  rw [ht] at hP1
  exact kk u H1 locs1 hw hP1 (gA_w hD1) hS1
/-- a call of an instance method, int or boolean answer -/
theorem x_vi (S0 : CallFix p m c cc nL s args Ts own) (hM : CI l y ws fr lo G cA tF tC g n H.size w (.ref b :: As) ww postI) (cw : CallW R s args own C index y bytes maxL ret ws { frames := fr, cells := 0, slots := 0, locals := lo } 0 0 k)
    (hK : va_K G vwCl [(cA, .int)] s) (hP : va_P G vwCl w H) (hD : va_D (wA g n s.heap.size) w) (hS : va_S (wA g n s.heap.size) s.heap H locs) (hT : xT tF tC (wA g n s.heap.size) s s.heap) (hg : w.map Prod.fst = (List.range n).map g) (q0 ci : Nat) {fs : List Value} {T : u_T} {N : Nat} (hc : vwCl[ci]? = some (C, T, N)) (he : w[q0]? = some (b, .inr (ci, fs)))
    (hn : As.length = k) (hsize : ls.size = nL) (hst : st0 = As.reverse ++ .ref b :: rest) (hW : (rest.map fun v => v.category).sum ≤ 8) (hdg : decode cc pc = .ok (.invokevirtual index, 3)) (hf : cells ≤ R.cells ∧ slots ≤ R.slots)
    (kk : ∀ (r : Int32) (u : S) (H1 : Heap) (locs1 : List Loc), postI r u → va_P G vwCl (ww u) H1 → va_D (wA g n s.heap.size) (ww u) → va_S (wA g n s.heap.size) s.heap H1 locs1 → W p l e R s m args below meth c H1 locs1 cells slots Q (F0 m (pc + 3) ls (.int r :: rest))) : W p l e R s m args below meth c H locs cells slots Q (F0 m pc ls st0) := by
  subst hst
  exact x_runI (av := .ref b :: As) (va_runV (As := As) (rest := rest) S0 hM cw ⟨cPre_blind, va_recv hK hP hc he, fun U hU hW => ⟨rfl, x_pre hK hP hD hS hT hg U hU hW⟩⟩ rfl hn hsize rfl (lv_room hW) hdg hf) hS kk
theorem x_vv (S0 : CallFix p m c cc nL s args Ts own) (hM : CV l y ws fr lo G cA tF tC g n H.size w (.ref b :: As) ww postV) (cw : CallW R s args own C index y bytes maxL ret ws { frames := fr, cells := 0, slots := 0, locals := lo } 0 0 k)
    (hK : va_K G vwCl [(cA, .int)] s) (hP : va_P G vwCl w H) (hD : va_D (wA g n s.heap.size) w) (hS : va_S (wA g n s.heap.size) s.heap H locs) (hT : xT tF tC (wA g n s.heap.size) s s.heap) (hg : w.map Prod.fst = (List.range n).map g) (q0 ci : Nat) {fs : List Value} {T : u_T} {N : Nat} (hc : vwCl[ci]? = some (C, T, N)) (he : w[q0]? = some (b, .inr (ci, fs)))
    (hn : As.length = k) (hsize : ls.size = nL) (hst : st0 = As.reverse ++ .ref b :: rest) (hW : (rest.map fun v => v.category).sum ≤ 8) (hdg : decode cc pc = .ok (.invokevirtual index, 3)) (hf : cells ≤ R.cells ∧ slots ≤ R.slots)
    (kk : ∀ (u : S) (H1 : Heap) (locs1 : List Loc), postV u → va_P G vwCl (ww u) H1 → va_D (wA g n s.heap.size) (ww u) → va_S (wA g n s.heap.size) s.heap H1 locs1 → W p l e R s m args below meth c H1 locs1 cells slots Q (F0 m (pc + 3) ls rest)) : W p l e R s m args below meth c H locs cells slots Q (F0 m pc ls st0) := by
  subst hst
  exact x_runV (av := .ref b :: As) (va_runV (As := As) (rest := rest) S0 hM cw ⟨cPre_blind, va_recv hK hP hc he, fun U hU hW => ⟨rfl, x_pre hK hP hD hS hT hg U hU hW⟩⟩ rfl hn hsize rfl (lv_room hW) hdg hf) hS kk
/-- a call of a static method, int or boolean answer -/
theorem x_si (S0 : CallFix p m c cc nL s args Ts own) (hM : CI l y ws fr lo G cA tF tC g n H.size w As ww postI) (cw : CallB R s args own index y bytes maxL ret ws { frames := fr, cells := 0, slots := 0, locals := lo } 0 0 k ∧ (Cond.static y).before args s = true)
    (hK : va_K G vwCl [(cA, .int)] s) (hP : va_P G vwCl w H) (hD : va_D (wA g n s.heap.size) w) (hS : va_S (wA g n s.heap.size) s.heap H locs) (hT : xT tF tC (wA g n s.heap.size) s s.heap) (hg : w.map Prod.fst = (List.range n).map g)
    (hn : As.length = k) (hsize : ls.size = nL) (hst : st0 = As.reverse ++ rest) (hW : (rest.map fun v => v.category).sum ≤ 8) (hdg : decode cc pc = .ok (.invokestatic index, 3)) (hf : cells ≤ R.cells ∧ slots ≤ R.slots)
    (kk : ∀ (r : Int32) (u : S) (H1 : Heap) (locs1 : List Loc), postI r u → va_P G vwCl (ww u) H1 → va_D (wA g n s.heap.size) (ww u) → va_S (wA g n s.heap.size) s.heap H1 locs1 → W p l e R s m args below meth c H1 locs1 cells slots Q (F0 m (pc + 3) ls (.int r :: rest))) : W p l e R s m args below meth c H locs cells slots Q (F0 m pc ls st0) := by
  subst hst
  exact x_runI (av := As) (va_runS (As := As) (rest := rest) S0 hM cw ⟨cPre_blind, fun U hU hW => ⟨rfl, x_pre hK hP hD hS hT hg U hU hW⟩⟩ rfl hn hsize rfl (lv_room hW) hdg hf) hS kk
/-- the same, the method private to a nest mate -/
theorem x_ni (S0 : CallFix p m c cc nL s args Ts own) (hM : CI l y ws fr lo G cA tF tC g n H.size w As ww postI) (cw : va_CN R s args own index y host bytes maxL ret ws { frames := fr, cells := 0, slots := 0, locals := lo } 0 0 k ∧ (Cond.static y).before args s = true ∧ True)
    (hK : va_K G vwCl [(cA, .int)] s) (hP : va_P G vwCl w H) (hD : va_D (wA g n s.heap.size) w) (hS : va_S (wA g n s.heap.size) s.heap H locs) (hT : xT tF tC (wA g n s.heap.size) s s.heap) (hg : w.map Prod.fst = (List.range n).map g)
    (hn : As.length = k) (hsize : ls.size = nL) (hst : st0 = As.reverse ++ rest) (hW : (rest.map fun v => v.category).sum ≤ 8) (hdg : decode cc pc = .ok (.invokestatic index, 3)) (hf : cells ≤ R.cells ∧ slots ≤ R.slots)
    (kk : ∀ (r : Int32) (u : S) (H1 : Heap) (locs1 : List Loc), postI r u → va_P G vwCl (ww u) H1 → va_D (wA g n s.heap.size) (ww u) → va_S (wA g n s.heap.size) s.heap H1 locs1 → W p l e R s m args below meth c H1 locs1 cells slots Q (F0 m (pc + 3) ls (.int r :: rest))) : W p l e R s m args below meth c H locs cells slots Q (F0 m pc ls st0) := by
  subst hst
  exact x_runI (av := As) (va_runSN (As := As) (rest := rest) S0 hM cw ⟨cPre_blind, fun U hU hW => ⟨rfl, x_pre hK hP hD hS hT hg U hU hW⟩⟩ rfl hn hsize rfl (lv_room hW) hdg hf) hS kk
theorem x_iret {v : Int32} (u : S) (hx : p.tables.exec = Jvm.exec) (hb : c.code = cc) (hr : meth.sig.returnType = some .int) (hlocks : meth.locks = false) (hK : va_K G vwCl [(cA, .int)] s) (hP : va_P G vwCl (ww u) H) (hD : va_D (wA g n s.heap.size) (ww u)) (hS : va_S (wA g n s.heap.size) s.heap H locs) (hg : (ww u).map Prod.fst = (List.range n).map g) (hdg : decode cc pc = .ok (.ireturn, 1)) (hp : postI v u) : W p l e R s m args below meth c H locs 0 0 (MQ below (va_Qi postI (fun u t => cAt G cA g n (ww u) t) (wA g n s.heap.size)) args s 0 0 (wA g n s.heap.size)) (F0 m pc ls [.int v]) :=
  W.iret (v := v) hx hb hr (fun t ht hW => ⟨⟨v, u, rfl, hp, by rw [ht]; exact hP, va_K.moved hW.alike hK, gA_of hg hD⟩, hS.F ht⟩) hS.2.2 hdg
theorem x_zret {v : Int32} (u : S) (hx : p.tables.exec = Jvm.exec) (hb : c.code = cc) (hr : meth.sig.returnType = some .boolean) (hlocks : meth.locks = false) (hK : va_K G vwCl [(cA, .int)] s) (hP : va_P G vwCl (ww u) H) (hD : va_D (wA g n s.heap.size) (ww u)) (hS : va_S (wA g n s.heap.size) s.heap H locs) (hg : (ww u).map Prod.fst = (List.range n).map g) (hdg : decode cc pc = .ok (.ireturn, 1)) (hn : narrow .boolean (.int v) = .int v) (hp : postI v u) : W p l e R s m args below meth c H locs 0 0 (MQ below (va_Qi postI (fun u t => cAt G cA g n (ww u) t) (wA g n s.heap.size)) args s 0 0 (wA g n s.heap.size)) (F0 m pc ls [.int v]) :=
  W.zret (v := v) hx hb hr hn (fun t ht hW => ⟨⟨v, u, rfl, hp, by rw [ht]; exact hP, va_K.moved hW.alike hK, gA_of hg hD⟩, hS.F ht⟩) hS.2.2 hdg
theorem x_vret (u : S) (hx : p.tables.exec = Jvm.exec) (hb : c.code = cc) (hr : meth.sig.returnType = none) (hlocks : meth.locks = false) (hK : va_K G vwCl [(cA, .int)] s) (hP : va_P G vwCl (ww u) H) (hD : va_D (wA g n s.heap.size) (ww u)) (hS : va_S (wA g n s.heap.size) s.heap H locs) (hg : (ww u).map Prod.fst = (List.range n).map g) (hdg : decode cc pc = .ok (.return_, 1)) (hp : postV u) : W p l e R s m args below meth c H locs 0 0 (MQ below (va_Qv postV (fun u t => cAt G cA g n (ww u) t) (wA g n s.heap.size)) args s 0 0 (wA g n s.heap.size)) (F0 m pc ls []) :=
  W.vret hx hb hr (fun t ht hW => ⟨⟨u, rfl, hp, by rw [ht]; exact hP, va_K.moved hW.alike hK, gA_of hg hD⟩, hS.F ht⟩) hS.2.2 hdg
theorem x_entryI (hy : plainName y.cls = true) (hw : ws = Cond.code y cc maxL (some .int) :: ws') (hg : ∀ u : S, (ww u).map Prod.fst = (List.range n).map g) (hlen : (lg_sl av).length ≤ maxL)
    (body : ∀ (p : Program) (e : Env) (s : State) (m : MethodId) (args : Array Value) (below : List Frame) (meth : Method) (c : Code) (Q : State → Prop), p.tables.exec = Jvm.exec → c.code = cc → c.maxLocals = maxL → s.vm.findClass y.cls = some m.cls → (∀ w ∈ ws, w.before args s = true) → va_K G vwCl [(cA, .int)] s → va_P G vwCl w s.heap → va_D (wA g n s.heap.size) w → va_S (wA g n s.heap.size) s.heap s.heap [] → xT tF tC (wA g n s.heap.size) s s.heap →
      (∀ (v : Int32) (u : S) (H : Heap) (locs : List Loc) (pc : Nat) (ls : Array Slot), decode cc pc = .ok (.ireturn, 1) → va_P G vwCl (ww u) H → va_D (wA g n s.heap.size) (ww u) → va_S (wA g n s.heap.size) s.heap H locs → postI v u → W p l e { frames := fr, cells := 0, slots := 0, locals := lo } s m args below meth c H locs 0 0 Q (F0 m pc ls [.int v])) →
      ∀ ls : Array Slot, lv_has ls maxL (lv_args 0 av) → W p l e { frames := fr, cells := 0, slots := 0, locals := lo } s m args below meth c s.heap [] 0 0 Q (F0 m 0 ls [])) : CI l y ws fr lo G cA tF tC g n sz w av ww postI := by
  refine Met.ofW (cc := cc) (maxL := maxL) (ret := (some .int)) hy hw ?_
  intro p e s m args below meth c s₁ B hml hv
  obtain ⟨rfl, hsz, hP, hK, hD, hT⟩ := hv
  subst hsz
  have hl := lv_entry av (n := maxL) hlen
  rw [lg_entry_eq]
  exact body p e s m _ below meth c _ B.exec B.bytes hml (findClass_of_methodNamed B.named) (atoms_spec (ws := ws) B.pre) hK hP (gA_w hD) va_S.rf hT (fun v u H locs pc ls hd hP hD hS hp => x_iret u B.exec B.bytes B.returns B.notSynchronized hK hP hD hS (hg u) hd hp) _ hl
theorem x_entryZ (hy : plainName y.cls = true) (hw : ws = Cond.code y cc maxL (some .boolean) :: ws') (hg : ∀ u : S, (ww u).map Prod.fst = (List.range n).map g) (hlen : (lg_sl av).length ≤ maxL)
    (body : ∀ (p : Program) (e : Env) (s : State) (m : MethodId) (args : Array Value) (below : List Frame) (meth : Method) (c : Code) (Q : State → Prop), p.tables.exec = Jvm.exec → c.code = cc → c.maxLocals = maxL → s.vm.findClass y.cls = some m.cls → (∀ w ∈ ws, w.before args s = true) → va_K G vwCl [(cA, .int)] s → va_P G vwCl w s.heap → va_D (wA g n s.heap.size) w → va_S (wA g n s.heap.size) s.heap s.heap [] → xT tF tC (wA g n s.heap.size) s s.heap →
      (∀ (v : Int32) (u : S) (H : Heap) (locs : List Loc) (pc : Nat) (ls : Array Slot), decode cc pc = .ok (.ireturn, 1) → va_P G vwCl (ww u) H → va_D (wA g n s.heap.size) (ww u) → va_S (wA g n s.heap.size) s.heap H locs → narrow .boolean (.int v) = .int v → postI v u → W p l e { frames := fr, cells := 0, slots := 0, locals := lo } s m args below meth c H locs 0 0 Q (F0 m pc ls [.int v])) →
      ∀ ls : Array Slot, lv_has ls maxL (lv_args 0 av) → W p l e { frames := fr, cells := 0, slots := 0, locals := lo } s m args below meth c s.heap [] 0 0 Q (F0 m 0 ls [])) : CI l y ws fr lo G cA tF tC g n sz w av ww postI := by
  refine Met.ofW (cc := cc) (maxL := maxL) (ret := (some .boolean)) hy hw ?_
  intro p e s m args below meth c s₁ B hml hv
  obtain ⟨rfl, hsz, hP, hK, hD, hT⟩ := hv
  subst hsz
  have hl := lv_entry av (n := maxL) hlen
  rw [lg_entry_eq]
  exact body p e s m _ below meth c _ B.exec B.bytes hml (findClass_of_methodNamed B.named) (atoms_spec (ws := ws) B.pre) hK hP (gA_w hD) va_S.rf hT (fun v u H locs pc ls hd hP hD hS hz hp => x_zret u B.exec B.bytes B.returns B.notSynchronized hK hP hD hS (hg u) hd hz hp) _ hl
theorem x_entryV (hy : plainName y.cls = true) (hw : ws = Cond.code y cc maxL none :: ws') (hg : ∀ u : S, (ww u).map Prod.fst = (List.range n).map g) (hlen : (lg_sl av).length ≤ maxL)
    (body : ∀ (p : Program) (e : Env) (s : State) (m : MethodId) (args : Array Value) (below : List Frame) (meth : Method) (c : Code) (Q : State → Prop), p.tables.exec = Jvm.exec → c.code = cc → c.maxLocals = maxL → s.vm.findClass y.cls = some m.cls → (∀ w ∈ ws, w.before args s = true) → va_K G vwCl [(cA, .int)] s → va_P G vwCl w s.heap → va_D (wA g n s.heap.size) w → va_S (wA g n s.heap.size) s.heap s.heap [] → xT tF tC (wA g n s.heap.size) s s.heap →
      (∀ (u : S) (H : Heap) (locs : List Loc) (pc : Nat) (ls : Array Slot), decode cc pc = .ok (.return_, 1) → va_P G vwCl (ww u) H → va_D (wA g n s.heap.size) (ww u) → va_S (wA g n s.heap.size) s.heap H locs → postV u → W p l e { frames := fr, cells := 0, slots := 0, locals := lo } s m args below meth c H locs 0 0 Q (F0 m pc ls [])) →
      ∀ ls : Array Slot, lv_has ls maxL (lv_args 0 av) → W p l e { frames := fr, cells := 0, slots := 0, locals := lo } s m args below meth c s.heap [] 0 0 Q (F0 m 0 ls [])) : CV l y ws fr lo G cA tF tC g n sz w av ww postV := by
  refine Met.ofW (cc := cc) (maxL := maxL) (ret := none) hy hw ?_
  intro p e s m args below meth c s₁ B hml hv
  obtain ⟨rfl, hsz, hP, hK, hD, hT⟩ := hv
  subst hsz
  have hl := lv_entry av (n := maxL) hlen
  rw [lg_entry_eq]
  exact body p e s m _ below meth c _ B.exec B.bytes hml (findClass_of_methodNamed B.named) (atoms_spec (ws := ws) B.pre) hK hP (gA_w hD) va_S.rf hT (fun u H locs pc ls hd hP hD hS hp => x_vret u B.exec B.bytes B.returns B.notSynchronized hK hP hD hS (hg u) hd hp) _ hl
theorem x_eqi {x y : Int32} (h : x = y) (kk : W p l e R s m args below meth c H locs cells slots Q (F0 m pc ls (.int y :: rest))) : W p l e R s m args below meth c H locs cells slots Q (F0 m pc ls (.int x :: rest)) := h ▸ kk
variable {cl : List vw_C} {A : Nat → Prop} {a : Nat} {tys : List (ClassId × FieldType)} {H0 : Heap}
theorem x_ald (hx : p.tables.exec = Jvm.exec) (hb : c.code = cc) (hK : va_K G cl tys s) (hP : va_P G cl w H) (q0 t0 : Nat) {N : Nat} {f : Nat → Int32} (ha : w[q0]? = some (a, .inl (cA, N, .inl f))) (ht : tys[t0]? = some (cA, .int)) {i : Nat} (hi : i < N) (hN : N < 2 ^ 31) (hdg : decode cc pc = .ok (.iaload, 1))
    (kk : W p l e R s m args below meth c H locs cells slots Q (F0 m (pc + 1) ls (.int (f i) :: rest))) : W p l e R s m args below meth c H locs cells slots Q (F0 m pc ls (.int (nI i) :: .ref a :: rest)) := by
  refine va_iald hx hb hK hP q0 t0 ha ht (vp_in_nI hi hN) hdg ?_
  rw [nI_clamp (by omega)]
  exact kk
theorem x_ast (hx : p.tables.exec = Jvm.exec) (hb : c.code = cc) (hK : va_K G cl tys s) (hP : va_P G cl w H) (hD : va_D A w) (hS : va_S A H0 H locs) (q0 t0 : Nat) {N : Nat} {f : Nat → Int32} (ha : w[q0]? = some (a, .inl (cA, N, .inl f))) (ht : tys[t0]? = some (cA, .int)) {i : Nat} {v : Int32} (hi : i < N) (hN : N < 2 ^ 31) (hdg : decode cc pc = .ok (.iastore, 1))
    (kk : ∀ (H1 : Heap) (locs1 : List Loc), va_P G cl (w.set q0 (a, .inl (cA, N, .inl (upd f i v)))) H1 → va_D A (w.set q0 (a, .inl (cA, N, .inl (upd f i v)))) → va_S A H0 H1 locs1 → W p l e R s m args below meth c H1 locs1 cells slots Q (F0 m (pc + 1) ls rest)) : W p l e R s m args below meth c H locs cells slots Q (F0 m pc ls (.int v :: .int (nI i) :: .ref a :: rest)) := by
  refine va_iast hx hb hK hP hD hS q0 t0 ha ht (vp_in_nI hi hN) hdg (fun H1 locs1 h1 h2 h3 => ?_)
  rw [nI_clamp (show i < 2 ^ 31 by omega)] at h1 h2
  exact kk H1 locs1 h1 h2 h3
theorem x_tld (hx : p.tables.exec = Jvm.exec) (hb : c.code = cc) {t N : Nat} {f : Nat → Int32} (hT : va_T .int t N (fun j => .int (f j)) A s s.heap) (hS : va_S A s.heap H locs) {i : Nat} (hi : i < N) (hN : N < 2 ^ 31) (hdg : decode cc pc = .ok (.iaload, 1))
    (kk : W p l e R s m args below meth c H locs cells slots Q (F0 m (pc + 1) ls (.int (f i) :: rest))) : W p l e R s m args below meth c H locs cells slots Q (F0 m pc ls (.int (nI i) :: .ref t :: rest)) := by
  refine va_ti hx hb hT hS (vp_in_nI hi hN) (v := .int (f i)) ?_ hdg kk
  rw [nI_clamp (by omega)]
/-- System.arraycopy between two rows of the world, places and number as naturals -/
theorem x_cpy (hx : p.tables.exec = Jvm.exec) (hb : c.code = cc) (hml : c.maxLocals = ls.size) (hown : s.vm.findClass own = some m.cls) (hlink : (Cond.methodLink own index arraycopyName).before args s = true) (hnat : (Cond.native arraycopyName).before args s = true) (hstat : (Cond.static arraycopyName).before args s = true) (hini : (Cond.initialized "java/lang/System").before args s = true)
    (hK : va_K G cl tys s) (hP : va_P G cl w H) (hD : va_D A w) (hS : va_S A H0 H locs) (q0 q1 t0 : Nat) {a0 n0 n1 : Nat} {f f1 : Nat → Int32} (ha0 : w[q0]? = some (a0, .inl (cA, n0, .inl f))) (ha1 : w[q1]? = some (a, .inl (cA, n1, .inl f1))) (ht0 : tys[t0]? = some (cA, .int))
    {spN dpN nN : Nat} (h4 : spN + nN ≤ n0) (h5 : dpN + nN ≤ n1) (hsm : n0 < 2 ^ 31 ∧ n1 < 2 ^ 31) (hframes : 1 ≤ R.frames) (hlocals : (rest.map fun v => v.category).sum + (nativeFrameWords "java/lang/System" "arraycopy" 5 + 11) ≤ R.locals) (hdg : decode cc pc = .ok (.invokestatic index, 3))
    (kk : ∀ (H1 : Heap) (locs1 : List Loc), va_P G cl (w.set q1 (a, .inl (cA, n1, .inl (va_cpy f f1 spN dpN nN)))) H1 → va_D A (w.set q1 (a, .inl (cA, n1, .inl (va_cpy f f1 spN dpN nN)))) → va_S A H0 H1 locs1 → W p l e R s m args below meth c H1 locs1 cells slots Q (F0 m (pc + 3) ls rest)) : W p l e R s m args below meth c H locs cells slots Q (F0 m pc ls (.int (nI nN) :: .int (nI dpN) :: .ref a :: .int (nI spN) :: .ref a0 :: rest)) := by
  obtain ⟨s0, s1⟩ := hsm
  have e1 := nI_clamp (n := spN) (by omega)
  have e2 := nI_clamp (n := dpN) (by omega)
  have e3 := nI_clamp (n := nN) (by omega)
  refine va_copyi hx hb hml hown hlink hnat hstat hini hK hP hD hS q0 q1 t0 t0 ha0 ha1 ht0 ht0 rfl (nI_pos (by omega)) (nI_pos (by omega)) (nI_pos (by omega)) (by rw [e1, e3]; exact h4) (by rw [e2, e3]; exact h5) (fun _ _ => rfl) hframes hlocals hdg (fun H1 locs1 g1 g2 g3 => ?_)
  rw [e1, e2, e3] at g1 g2
  exact kk H1 locs1 g1 g2 g3
/-- the same out of a static row -/
theorem x_cpT (hx : p.tables.exec = Jvm.exec) (hb : c.code = cc) (hml : c.maxLocals = ls.size) (hown : s.vm.findClass own = some m.cls) (hlink : (Cond.methodLink own index arraycopyName).before args s = true) (hnat : (Cond.native arraycopyName).before args s = true) (hstat : (Cond.static arraycopyName).before args s = true) (hini : (Cond.initialized "java/lang/System").before args s = true)
    (hK : va_K G cl tys s) (hP : va_P G cl w H) (hD : va_D A w) (hS : va_S A s.heap H locs) {b0 n0 : Nat} {f : Nat → Int32} (hX : va_T .int b0 n0 (fun j => .int (f j)) A s s.heap) (q1 t1 : Nat) {n1 : Nat} {f1 : Nat → Int32} (ha1 : w[q1]? = some (a, .inl (cA, n1, .inl f1))) (ht1 : tys[t1]? = some (cA, .int))
    {spN dpN nN : Nat} (h4 : spN + nN ≤ n0) (h5 : dpN + nN ≤ n1) (hsm : n0 < 2 ^ 31 ∧ n1 < 2 ^ 31) (hframes : 1 ≤ R.frames) (hlocals : (rest.map fun v => v.category).sum + (nativeFrameWords "java/lang/System" "arraycopy" 5 + 11) ≤ R.locals) (hdg : decode cc pc = .ok (.invokestatic index, 3))
    (kk : ∀ (H1 : Heap) (locs1 : List Loc), va_P G cl (w.set q1 (a, .inl (cA, n1, .inl (va_cpy f f1 spN dpN nN)))) H1 → va_D A (w.set q1 (a, .inl (cA, n1, .inl (va_cpy f f1 spN dpN nN)))) → va_S A s.heap H1 locs1 → W p l e R s m args below meth c H1 locs1 cells slots Q (F0 m (pc + 3) ls rest)) : W p l e R s m args below meth c H locs cells slots Q (F0 m pc ls (.int (nI nN) :: .int (nI dpN) :: .ref a :: .int (nI spN) :: .ref b0 :: rest)) := by
  obtain ⟨z0, z1⟩ := hsm
  intro T hT X
  obtain ⟨scr, hs1, hs2, hs3, hs4, -, hs5, hs7⟩ := hX
  have hc0 : H[b0]? = some scr := by rw [hS.2.1 b0 (Array.getElem?_eq_some_iff.mp hs1).1 hs7]; exact hs1
  have hc1 : H[a]? = some (vp_cell cA (n1, .inl f1)) := hP q1 _ ha1
  obtain ⟨hs6, k0, hk0, cm0, hkk0⟩ := hs2
  obtain ⟨-, k1, hk1, cm1, hkk1⟩ := (hK.2 t1 _ ht1).1 n1 (fun j => .int (f1 j))
  have c1 := nI_clamp (n := spN) (by omega)
  have c2 := nI_clamp (n := dpN) (by omega)
  have c3 := nI_clamp (n := nN) (by omega)
  obtain ⟨vm', X', step⟩ := X.arraycopy hx hown hlink hnat hstat hini (src := b0) (dst := a) (cs := scr) (cd := vp_cell cA (n1, .inl f1)) (srcPos := nI spN) (destPos := nI dpN) (n := nI nN) (by rw [hT]; exact hc0) (by rw [hT]; exact hc1)
    hs6 (fun _ h => by cases h) hs3 (fun h => by cases h) hk0 hk1 hkk0 hkk1 (by simp [refKind]) (nI_pos (by omega)) (nI_pos (by omega)) (nI_pos (by omega))
    (by rw [nI_toInt (by omega), nI_toInt (by omega)]; omega)
    (by rw [nI_toInt (by omega), nI_toInt (by omega)]; show ¬ _ > ((arrV cA n1 (fun j => .int (f1 j))).slots.size : Int); rw [arrV_size]; omega)
    (fun vm₁ _ i hi => by
      rw [c3] at hi
      have ee : scr.slots.getD ((nI spN).toNatClampNeg + i) .null = .int (f (spN + i)) := by
        rw [c1, Array.getD_eq_getD_getElem?, hs5 _ (by omega)]
        rfl
      exact ⟨by rw [ee]; rfl, by rw [ee]; exact trivial⟩)
    (g := F0 m pc ls (.int (nI nN) :: .int (nI dpN) :: .ref a :: .int (nI spN) :: .ref b0 :: rest)) rfl (by rw [hml]) (rest := rest) rfl (by rw [hb]; exact hdg) hframes (by show 2 * 0 + _ + _ ≤ _; omega)
  have e1 : copied scr (vp_cell cA (n1, .inl f1)) (nI spN) (nI dpN) (nI nN) = vp_cell cA (n1, .inl (va_cpy f f1 spN dpN nN)) := by
    have := va_copiedX (fun z => .int z) scr cA (n0 := n0) (n1 := n1) (sp := (nI spN).toNatClampNeg) (dp := (nI dpN).toNatClampNeg) (n := (nI nN).toNatClampNeg) f f1 hs5 (by rw [c1, c3]; exact h4)
    rw [c1, c2, c3] at this
    show (arrV cA n1 (fun j => .int (f1 j))).storeRun (nI dpN).toNatClampNeg (scr.stretch (nI spN).toNatClampNeg (nI nN).toNatClampNeg) = _
    rw [c1, c2, c3]
    exact this
  rw [e1] at X' step
  have hl : a < H.size := (Array.getElem?_eq_some_iff.mp hc1).1
  have hheap : ((T.setVm vm').setCell a (vp_cell cA (n1, .inl (va_cpy f f1 spN dpN nN)))).heap = H.setIfInBounds a (vp_cell cA (n1, .inl (va_cpy f f1 spN dpN nN))) := by rw [← hT]; rfl
  have oq : ∀ q : Nat, q ≠ a → (H.setIfInBounds a (vp_cell cA (n1, .inl (va_cpy f f1 spN dpN nN))))[q]? = H[q]? := fun q hq => by simp [Array.getElem?_setIfInBounds, Ne.symm hq]
  obtain ⟨t, a1, b1⟩ := kk _ _ (hP.set hD ha1 (show (H.setIfInBounds a _)[a]? = some _ by simp [Array.getElem?_setIfInBounds, hl]) oq) (hD.set ha1) ⟨by simp; exact hS.1, fun q g1 g2 => by
      rw [oq q (fun e => g2 (by rw [e]; exact hD.2 q1 _ ha1))]
      exact hS.2.1 q g1 g2, fun q hq => by
      rcases List.mem_append.mp hq with h | h
      · exact hS.2.2 q h
      · obtain ⟨z, -, hz⟩ := List.mem_map.mp h
        rw [← hz]
        exact hD.2 q1 _ ha1⟩ _ hheap X'
  exact ⟨t, step t a1, b1⟩
end KX
