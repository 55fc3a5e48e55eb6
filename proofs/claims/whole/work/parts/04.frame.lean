/-! THE FRAME: one word list for all methods (ga_tb), one contract form (ga_M), rows over numbers that are nI of a Nat -/
abbrev ga_G : Type := va_G × ClassId × ClassId
abbrev ga_ty (G : ga_G) : List (ClassId × FieldType) := [(G.2.1, .byte), (G.2.2, .int)]
def ga_K (G : ga_G) (U : State) : Prop := va_K G.1 vwCl (ga_ty G) U ∧ ∀ w ∈ ga_nw, va_Nw w U
abbrev ga_cx (p : Program) (m : MethodId) (c : Code) (cc : ByteArray) (nL : Nat) (s : State) (args : Array Value) (own : String) : Prop := CallFix p m c cc nL s args ga_tb own
abbrev ga_wd (G : ga_G) (A : Nat → Prop) (s : State) (H : Heap) (locs : List Loc) (ws : va_W) : Prop := va_P G.1 vwCl ws H ∧ va_D A ws ∧ va_S A s.heap H locs
def ga_Q (G : ga_G) (A : Nat → Prop) (post : Option Value → va_W → Prop) : Array Value → State → Outcome → State → Prop := fun _ st oc t => (∃ (r : Option Value) (w : va_W), oc = .returned r ∧ post r w ∧ va_P G.1 vwCl w t.heap ∧ va_D A w) ∧ va_F A st t
/-- the contract of a method: from the cells wi and the arguments av it returns r with the cells w, post r w; fr frames, lo words of locals, mc cells, ms slots -/
def ga_M (l : Launch) (G : ga_G) (y : MethodName) (cc : ByteArray) (n : Nat) (ret : Option FieldType) (fr lo mc ms : Nat) (av : List Value) (wi : va_W) (post : Option Value → va_W → Prop) : Prop :=
  ∀ sz : Nat, Met l y (.code y cc n ret :: ga_tb) { frames := fr, cells := mc, slots := ms, locals := lo } (va_Pc av (fun U => U.heap.size = sz ∧ va_P G.1 vwCl wi U.heap ∧ ga_K G U ∧ va_D (fun _ => True) wi)) (ga_Q G (va_A wi sz) post) mc ms (va_A wi sz)
theorem ga_nw_nest : ∀ w ∈ ga_nw, ∃ a i x h, w = .methodLinkNest a i x h := by
  intro w hw
  simp only [ga_nw, List.mem_cons, List.not_mem_nil, or_false] at hw
  rcases hw with h | h | h | h | h | h | h | h <;> exact ⟨_, _, _, _, h⟩
theorem ga_K.warm {G : ga_G} {s U : State} (h : ga_K G s) (hW : s.WarmedH U.vm) : ga_K G U := ⟨va_K.moved hW.alike h.1, fun w hw => by
  obtain ⟨a, i, x, hh, rfl⟩ := ga_nw_nest w hw
  exact va_Nw.warmM hW (h.2 _ hw)⟩
theorem ga_K.same {G : ga_G} {s U : State} (h : ga_K G s) (hv : s.vm = U.vm) : ga_K G U := ⟨va_K.moved (by rw [hv]; exact Vm.Alike.refl _) h.1, fun w hw => by
  obtain ⟨a, i, x, hh, rfl⟩ := ga_nw_nest w hw
  exact va_Nw.same rfl hv (h.2 _ hw)⟩
/-- a contract out of a walk -/
theorem ga_M.intro {l : Launch} {G : ga_G} {y : MethodName} {cc : ByteArray} {n : Nat} {ret : Option FieldType} {fr lo mc ms : Nat} {av : List Value} {wi : va_W} {post : Option Value → va_W → Prop} (hy : plainName y.cls = true) (hn : (lg_sl av).length ≤ n)
    (body : ∀ (p : Program) (e : Env) (s : State) (m : MethodId) (below : List Frame) (meth : Method) (c : Code) (A : Nat → Prop) (H : Heap) (locs : List Loc) (ls : Array Slot), ga_cx p m c cc n s av.toArray y.cls → meth.sig.returnType = ret → meth.locks = false → meth.name = y.name → (∀ q : Nat, s.heap.size ≤ q → A q) → ga_K G s → lv_has ls n (lv_args 0 av) → ga_wd G A s H locs wi →
      W p l e { frames := fr, cells := mc, slots := ms, locals := lo } s m av.toArray below meth c H locs 0 0 (MQ below (ga_Q G A post) av.toArray s mc ms A) (F0 m 0 ls [])) : ga_M l G y cc n ret fr lo mc ms av wi post := by
  intro sz
  refine Met.ofW (cc := cc) (maxL := n) (ret := ret) hy rfl ?_
  intro p e s m args below meth c s₁ B hml hv
  obtain ⟨rfl, hsz, hP, hK, hD0⟩ := hv
  have hts := atoms_spec (ws := .code y cc n ret :: ga_tb) B.pre
  have hown : s.vm.findClass y.cls = some m.cls := findClass_of_methodNamed B.named
  have hnm : meth.name = y.name := (name_of_methodNamed B.named B.method).1
  subst hsz
  have hl := lv_entry av (n := n) hn
  rw [lg_entry_eq]
  generalize (lg_sl av ++ List.replicate (n - (lg_sl av).length) Slot.unset).toArray = ls at hl ⊢
  exact body p e s m below meth c (va_A wi s.heap.size) s.heap [] ls ⟨B.exec, B.bytes, hml, hown, fun w h => hts w (List.mem_cons_of_mem _ h)⟩ B.returns B.notSynchronized hnm (fun q h => Or.inr h) hK hl ⟨hP, hD0.self, va_S.rf⟩
section GA
variable {p : Program} {l : Launch} {e : Env} {R : Room} {s : State} {m : MethodId} {args : Array Value} {below : List Frame} {meth : Method} {c : Code} {H : Heap} {locs : List Loc} {cells slots : Nat} {Q : State → Prop}
variable {G : ga_G} {A : Nat → Prop} {ws : va_W} {cc : ByteArray} {nL : Nat} {own : String} {pc : Nat} {ls : Array Slot} {rest : List Value} {a : Nat} {post : Option Value → va_W → Prop} {mc ms : Nat}
theorem ga_perm {ws' : va_W} (w : ga_wd G A s H locs ws) (is : List Nat) (hn : va_nd is = true) (hs : is.map (fun i => ws[i]?) = ws'.map some) : ga_wd G A s H locs ws' := by
  refine ⟨w.1.sub is ?_, w.2.1.sub is hn hs, w.2.2⟩
  have h2 : is.filterMap (fun i => ws[i]?) = (is.map (fun i => ws[i]?)).filterMap id := by rw [List.filterMap_map]; rfl
  rw [h2, hs, List.filterMap_map]
  show ws'.filterMap some = ws'
  exact List.filterMap_some
/-! ends -/
theorem ga_end {r : Option Value} (w : ga_wd G A s H locs ws) (hp : post r ws) : ∀ t : State, t.heap = H → s.WarmedH t.vm → ga_Q G A post args s (.returned r) t := fun t ht hW => ⟨⟨r, ws, rfl, hp, by rw [ht]; exact w.1, w.2.1⟩, w.2.2.F ht⟩
theorem ga_iret (cx : ga_cx p m c cc nL s args own) (hr : meth.sig.returnType = some .int) (hlk : meth.locks = false) {v : Int32} (w : ga_wd G A s H locs ws) (hdg : decode cc pc = .ok (.ireturn, 1)) (hc : cells ≤ mc ∧ slots ≤ ms) (hp : post (some (.int v)) ws) : W p l e R s m args below meth c H locs cells slots (MQ below (ga_Q G A post) args s mc ms A) (F0 m pc ls [.int v]) :=
  W.widen hc.1 hc.2 (W.iret cx.1 cx.2.1 hr (ga_end w hp) w.2.2.2.2 hdg hlk)
theorem ga_zret {ty : FieldType} (cx : ga_cx p m c cc nL s args own) (hr : meth.sig.returnType = some ty) (hlk : meth.locks = false) {v : Int32} (w : ga_wd G A s H locs ws) (hn : narrow ty (.int v) = .int v) (hdg : decode cc pc = .ok (.ireturn, 1)) (hc : cells ≤ mc ∧ slots ≤ ms) (hp : post (some (.int v)) ws) : W p l e R s m args below meth c H locs cells slots (MQ below (ga_Q G A post) args s mc ms A) (F0 m pc ls [.int v]) :=
  W.widen hc.1 hc.2 (W.zret cx.1 cx.2.1 hr hn (ga_end w hp) w.2.2.2.2 hdg hlk)
theorem ga_lret (cx : ga_cx p m c cc nL s args own) (hr : meth.sig.returnType = some .long) (hlk : meth.locks = false) {v : Int64} (w : ga_wd G A s H locs ws) (hdg : decode cc pc = .ok (.lreturn, 1)) (hc : cells ≤ mc ∧ slots ≤ ms) (hp : post (some (.long v)) ws) : W p l e R s m args below meth c H locs cells slots (MQ below (ga_Q G A post) args s mc ms A) (F0 m pc ls [.long v]) :=
  W.widen hc.1 hc.2 (W.lret cx.1 cx.2.1 hr (ga_end w hp) w.2.2.2.2 hdg hlk)
theorem ga_vret (cx : ga_cx p m c cc nL s args own) (hr : meth.sig.returnType = none) (hlk : meth.locks = false) (w : ga_wd G A s H locs ws) (hdg : decode cc pc = .ok (.return_, 1)) (hc : cells ≤ mc ∧ slots ≤ ms) (hp : post none ws) : W p l e R s m args below meth c H locs cells slots (MQ below (ga_Q G A post) args s mc ms A) (F0 m pc ls []) :=
  W.widen hc.1 hc.2 (W.vret cx.1 cx.2.1 hr (ga_end w hp) w.2.2.2.2 hdg hlk)
theorem ga_aret {rt : FieldType} (cx : ga_cx p m c cc nL s args own) (hr : meth.sig.returnType = some rt) (hrt : (∃ n, rt = .object n) ∨ ∃ t, rt = .array t) (hlk : meth.locks = false) {v : Nat} (w : ga_wd G A s H locs ws) (hdg : decode cc pc = .ok (.areturn, 1)) (hc : cells ≤ mc ∧ slots ≤ ms) (hp : post (some (.ref v)) ws) : W p l e R s m args below meth c H locs cells slots (MQ below (ga_Q G A post) args s mc ms A) (F0 m pc ls [.ref v]) :=
  W.widen hc.1 hc.2 (W.aret cx.1 cx.2.1 hr hrt (Or.inr ⟨v, rfl⟩) (ga_end w hp) w.2.2.2.2 hdg hlk)
/-! calls -/
theorem ga_call {y : MethodName} {bytes : ByteArray} {maxL fr lo index : Nat} {ret : Option FieldType} {av As : List Value} {wi wr : va_W} {st0 : List Value} (w : ga_wd G A s H locs ws) (hA : ∀ q : Nat, s.heap.size ≤ q → A q) (isC isR : List Nat) (hC : isC.map (fun i => ws[i]?) = wi.map some) (hR : isR.map (fun i => ws[i]?) = wr.map some) (hn : va_nd isR = true) (hdis : ∀ i ∈ isR, i ∉ isC)
    (hr : va_Run p l e R s m args below meth c H locs cells slots mc ms (F0 m pc ls st0) rest (ga_Q G (va_A wi H.size) post av.toArray) (va_A wi H.size))
    (kk : ∀ (r : Option Value) (w1 : va_W) (H1 : Heap) (locs1 : List Loc), post r w1 → ga_wd G A s H1 locs1 (wr ++ w1) → W p l e R s m args below meth c H1 locs1 (cells + mc) (slots + ms) Q (F0 m (pc + 3) ls (r.toList ++ rest))) : W p l e R s m args below meth c H locs cells slots Q (F0 m pc ls st0) := by
  obtain ⟨hP, hD, hS⟩ := w
  have hFc := va_free (wc := wi) hD hS hA isC hC
  intro T hT X
  obtain ⟨v, st₀, t, T', L, h0, X', hL, e1, e2, ⟨⟨r, w1, hv, hp, hb, hd⟩, hz, hk⟩, st⟩ := hr T hT X
  cases hv
  rw [h0] at hz hk
  have hk1 : ∀ q : Nat, q < H.size → ¬ va_A wi H.size q → t.heap[q]? = H[q]? := hk
  obtain ⟨hP2, hD2⟩ := va_join (wr := wr) (w1 := w1) hP hD isC isR hC hR hn hdis hk1 hFc hb hd
  have hS2 : va_S A s.heap T'.heap (locs ++ L) := ⟨Nat.le_trans hS.1 (by rw [e1]; exact hz), fun q h1 h2 => by rw [e1, hk q (Nat.lt_of_lt_of_le h1 hS.1) (fun z => h2 (hFc q z))]; exact hS.2.1 q h1 h2, fun q hq => by
      rcases List.mem_append.mp hq with h | h
      · exact hS.2.2 q h
      · exact hFc _ (hL q h)⟩
  obtain ⟨t2, a1, b1⟩ := kk v w1 T'.heap (locs ++ L) hp ⟨by rw [e1]; exact hP2, hD2, hS2⟩ T' rfl X'
  exact ⟨t2, st t2 a1, b1⟩
/-- what the tables say of a call of y at the place 'index' of own -/
def ga_lkV (own : String) (index : Nat) (C : String) (y : MethodName) (bytes : ByteArray) (maxL : Nat) (ret : Option FieldType) (n : Nat) : Prop := (Cond.methodLink own index y ∈ ga_tb ∧ Cond.instanceMethod y ∈ ga_tb ∧ Cond.selects C y y ∈ ga_tb ∧ Cond.initialized C ∈ ga_tb ∧ Cond.code y bytes maxL ret ∈ ga_tb) ∧ (y.cls = C ∧ y.cls ≠ "java/lang/invoke/MethodHandle" ∧ y.cls ≠ "java/lang/invoke/VarHandle" ∧ (parseMethodDescriptor y.desc).map (fun d => d.parameters.length) = some n)
def ga_lkS (own : String) (index : Nat) (y : MethodName) (bytes : ByteArray) (maxL : Nat) (ret : Option FieldType) (n : Nat) : Prop := (Cond.methodLink own index y ∈ ga_tb ∧ Cond.static y ∈ ga_tb ∧ Cond.initialized y.cls ∈ ga_tb ∧ Cond.code y bytes maxL ret ∈ ga_tb) ∧ (y.cls ≠ "java/lang/invoke/MethodHandle" ∧ y.cls ≠ "java/lang/invoke/VarHandle" ∧ (parseMethodDescriptor y.desc).map (fun d => d.parameters.length) = some n)
def ga_lkSN (own : String) (index : Nat) (y : MethodName) (host : String) (bytes : ByteArray) (maxL : Nat) (ret : Option FieldType) (n : Nat) : Prop := (Cond.methodLinkNest own index y host ∈ ga_nw ∧ Cond.static y ∈ ga_tb ∧ Cond.initialized y.cls ∈ ga_tb ∧ Cond.code y bytes maxL ret ∈ ga_tb) ∧ (y.cls ≠ "java/lang/invoke/MethodHandle" ∧ y.cls ≠ "java/lang/invoke/VarHandle" ∧ (parseMethodDescriptor y.desc).map (fun d => d.parameters.length) = some n)
def ga_lkIN (own : String) (index : Nat) (y : MethodName) (host : String) (bytes : ByteArray) (maxL : Nat) (n : Nat) : Prop := (Cond.methodLinkNest own index y host ∈ ga_nw ∧ Cond.instanceMethod y ∈ ga_tb ∧ Cond.initialized y.cls ∈ ga_tb ∧ Cond.code y bytes maxL none ∈ ga_tb) ∧ (y.name = "<init>" ∧ y.cls ≠ "java/lang/invoke/MethodHandle" ∧ y.cls ≠ "java/lang/invoke/VarHandle" ∧ (parseMethodDescriptor y.desc).map (fun d => d.parameters.length) = some n)
def ga_lkI (own : String) (index : Nat) (y : MethodName) (bytes : ByteArray) (maxL : Nat) (n : Nat) : Prop := (Cond.methodLink own index y ∈ ga_tb ∧ Cond.instanceMethod y ∈ ga_tb ∧ Cond.initialized y.cls ∈ ga_tb ∧ Cond.code y bytes maxL none ∈ ga_tb) ∧ (y.name = "<init>" ∧ y.cls ≠ "java/lang/invoke/MethodHandle" ∧ y.cls ≠ "java/lang/invoke/VarHandle" ∧ (parseMethodDescriptor y.desc).map (fun d => d.parameters.length) = some n)
theorem ga_gi {y : MethodName} {bytes : ByteArray} {maxL : Nat} {ret : Option FieldType} (h : Cond.code y bytes maxL ret ∈ ga_tb) : GoodIn ga_tb (.code y bytes maxL ret :: ga_tb) := fun w hw => by
  rcases List.mem_cons.mp hw with rfl | hw
  · exact ⟨h, ga_good _ h⟩
  · exact ⟨hw, ga_good _ hw⟩
theorem ga_blind {av : List Value} {wi : va_W} {sz : Nat} : FrameBlind (va_Pc av (fun U => U.heap.size = sz ∧ va_P G.1 vwCl wi U.heap ∧ ga_K G U ∧ va_D (fun _ => True) wi)) := fun a U g mk q => by
  obtain ⟨q0, q1, qP, qK, qD⟩ := q
  exact ⟨q0, q1, qP, qK.same rfl, qD⟩
theorem ga_pre {av : List Value} {wi : va_W} (hK : ga_K G s) (w : ga_wd G A s H locs ws) (isC : List Nat) (hC : isC.map (fun i => ws[i]?) = wi.map some) (hcn : va_nd isC = true) : ∀ U : State, U.heap = H → s.WarmedH U.vm → va_Pc av (fun U => U.heap.size = H.size ∧ va_P G.1 vwCl wi U.heap ∧ ga_K G U ∧ va_D (fun _ => True) wi) av.toArray U := fun U hU hW =>
  ⟨rfl, by rw [hU], by rw [hU]; exact (ga_perm w isC hcn hC).1, hK.warm hW, (ga_perm w isC hcn hC).2.1.weaken (fun _ _ _ _ => trivial)⟩
theorem ga_callV {y : MethodName} {C : String} {bytes : ByteArray} {maxL fr lo index n : Nat} {ret : Option FieldType} {As : List Value} {b : Nat} {wi wr : va_W} {lv : List (Nat × Value)} (cx : ga_cx p m c cc nL s args own) (hK : ga_K G s) (hA : ∀ q : Nat, s.heap.size ≤ q → A q) (w : ga_wd G A s H locs ws) (hl : lv_has ls nL lv)
    (lk : ga_lkV own index C y bytes maxL ret n) (M : ga_M l G y bytes maxL ret fr lo mc ms (.ref b :: As) wi post) (hR : fr + 1 ≤ R.frames ∧ 8 + (maxL + 11) + lo ≤ R.locals)
    (isC isR : List Nat) (hC : isC.map (fun i => ws[i]?) = wi.map some) (hRr : isR.map (fun i => ws[i]?) = wr.map some) (hcn : va_nd isC = true) (hn : va_nd isR = true) (hdis : ∀ i ∈ isR, i ∉ isC)
    (q0 ci : Nat) {q : vw_C} {fs : List Value} (he : ws[q0]? = some (b, .inr (ci, fs))) (hc : vwCl[ci]? = some q) (hq : q.1 = C) (hAs : As.length = n) (hroom : (rest.map fun v => v.category).sum ≤ 8) (hdg : decode cc pc = .ok (.invokevirtual index, 3)) (hf : cells + mc ≤ R.cells ∧ slots + ms ≤ R.slots) {st0 : List Value} (hst : st0 = As.reverse ++ .ref b :: rest)
    (kk : ∀ (r : Option Value) (w1 : va_W) (H1 : Heap) (locs1 : List Loc), post r w1 → ga_wd G A s H1 locs1 (wr ++ w1) → W p l e R s m args below meth c H1 locs1 (cells + mc) (slots + ms) Q (F0 m (pc + 3) ls (r.toList ++ rest))) : W p l e R s m args below meth c H locs cells slots Q (F0 m pc ls st0) := by
  subst hq
  refine ga_call (y := y) (bytes := bytes) (maxL := maxL) (fr := fr) (lo := lo) (index := index) (ret := ret) (As := As) w hA isC isR hC hRr hn hdis (av := .ref b :: As) ?_ kk
  refine va_runV (As := As) (rest := rest) cx (M H.size) ⟨⟨rfl, rfl, hR.1, hR.2, pay_in cx.2.2.2.2 (ga_gi lk.1.2.2.2.2), List.mem_cons_self, cx.2.2.2.2 _ lk.1.2.2.2.2, ?_, ⟨lk.2.2.1, lk.2.2.2.1⟩, fun sig h => ?_, cx.2.2.2.2 _ lk.1.1⟩, cx.2.2.2.2 _ lk.1.2.1, cx.2.2.2.2 _ lk.1.2.2.1⟩ ⟨ga_blind, va_recv hK.1 w.1 hc he, ga_pre hK w isC hC hcn⟩ rfl hAs hl.1 hst (lv_room hroom) hdg hf
  · rw [lk.2.1]; exact cx.2.2.2.2 _ lk.1.2.2.2.1
  · have h2 := lk.2.2.2.2
    rw [h] at h2
    exact (Option.some.inj h2).symm
theorem ga_callS {y : MethodName} {bytes : ByteArray} {maxL fr lo index n : Nat} {ret : Option FieldType} {As : List Value} {wi wr : va_W} {lv : List (Nat × Value)} (cx : ga_cx p m c cc nL s args own) (hK : ga_K G s) (hA : ∀ q : Nat, s.heap.size ≤ q → A q) (w : ga_wd G A s H locs ws) (hl : lv_has ls nL lv)
    (lk : ga_lkS own index y bytes maxL ret n) (M : ga_M l G y bytes maxL ret fr lo mc ms As wi post) (hR : fr + 1 ≤ R.frames ∧ 8 + (maxL + 11) + lo ≤ R.locals)
    (isC isR : List Nat) (hC : isC.map (fun i => ws[i]?) = wi.map some) (hRr : isR.map (fun i => ws[i]?) = wr.map some) (hcn : va_nd isC = true) (hn : va_nd isR = true) (hdis : ∀ i ∈ isR, i ∉ isC)
    (hAs : As.length = n) (hroom : (rest.map fun v => v.category).sum ≤ 8) (hdg : decode cc pc = .ok (.invokestatic index, 3)) (hf : cells + mc ≤ R.cells ∧ slots + ms ≤ R.slots) {st0 : List Value} (hst : st0 = As.reverse ++ rest)
    (kk : ∀ (r : Option Value) (w1 : va_W) (H1 : Heap) (locs1 : List Loc), post r w1 → ga_wd G A s H1 locs1 (wr ++ w1) → W p l e R s m args below meth c H1 locs1 (cells + mc) (slots + ms) Q (F0 m (pc + 3) ls (r.toList ++ rest))) : W p l e R s m args below meth c H locs cells slots Q (F0 m pc ls st0) := by
  refine ga_call (y := y) (bytes := bytes) (maxL := maxL) (fr := fr) (lo := lo) (index := index) (ret := ret) (As := As) w hA isC isR hC hRr hn hdis (av := As) ?_ kk
  refine va_runS (As := As) (rest := rest) cx (M H.size) ⟨⟨rfl, rfl, hR.1, hR.2, pay_in cx.2.2.2.2 (ga_gi lk.1.2.2.2), List.mem_cons_self, cx.2.2.2.2 _ lk.1.2.2.2, cx.2.2.2.2 _ lk.1.2.2.1, ⟨lk.2.1, lk.2.2.1⟩, fun sig h => ?_, cx.2.2.2.2 _ lk.1.1⟩, cx.2.2.2.2 _ lk.1.2.1⟩ ⟨ga_blind, ga_pre hK w isC hC hcn⟩ rfl hAs hl.1 hst (lv_room hroom) hdg hf
  have h2 := lk.2.2.2
  rw [h] at h2
  exact (Option.some.inj h2).symm
theorem ga_callI {y : MethodName} {bytes : ByteArray} {maxL fr lo index n : Nat} {As : List Value} {b : Nat} {wi wr : va_W} {lv : List (Nat × Value)} (cx : ga_cx p m c cc nL s args own) (hK : ga_K G s) (hA : ∀ q : Nat, s.heap.size ≤ q → A q) (w : ga_wd G A s H locs ws) (hl : lv_has ls nL lv)
    (lk : ga_lkI own index y bytes maxL n) (M : ga_M l G y bytes maxL none fr lo mc ms (.ref b :: As) wi post) (hR : fr + 1 ≤ R.frames ∧ 8 + (maxL + 11) + lo ≤ R.locals)
    (isC isR : List Nat) (hC : isC.map (fun i => ws[i]?) = wi.map some) (hRr : isR.map (fun i => ws[i]?) = wr.map some) (hcn : va_nd isC = true) (hn : va_nd isR = true) (hdis : ∀ i ∈ isR, i ∉ isC)
    (hAs : As.length = n) (hroom : (rest.map fun v => v.category).sum ≤ 8) (hdg : decode cc pc = .ok (.invokespecial index, 3)) (hf : cells + mc ≤ R.cells ∧ slots + ms ≤ R.slots) {st0 : List Value} (hst : st0 = As.reverse ++ .ref b :: rest)
    (kk : ∀ (r : Option Value) (w1 : va_W) (H1 : Heap) (locs1 : List Loc), post r w1 → ga_wd G A s H1 locs1 (wr ++ w1) → W p l e R s m args below meth c H1 locs1 (cells + mc) (slots + ms) Q (F0 m (pc + 3) ls (r.toList ++ rest))) : W p l e R s m args below meth c H locs cells slots Q (F0 m pc ls st0) := by
  refine ga_call (y := y) (bytes := bytes) (maxL := maxL) (fr := fr) (lo := lo) (index := index) (ret := none) (As := As) w hA isC isR hC hRr hn hdis (av := .ref b :: As) ?_ kk
  refine va_runI (As := As) (rest := rest) cx (M H.size) ⟨⟨rfl, rfl, hR.1, hR.2, pay_in cx.2.2.2.2 (ga_gi lk.1.2.2.2), List.mem_cons_self, cx.2.2.2.2 _ lk.1.2.2.2, cx.2.2.2.2 _ lk.1.2.2.1, ⟨lk.2.2.1, lk.2.2.2.1⟩, fun sig h => ?_, cx.2.2.2.2 _ lk.1.1⟩, lk.2.1, cx.2.2.2.2 _ lk.1.2.1⟩ ⟨ga_blind, ga_pre hK w isC hC hcn⟩ rfl hAs hl.1 hst (lv_room hroom) hdg hf
  have h2 := lk.2.2.2.2
  rw [h] at h2
  exact (Option.some.inj h2).symm
theorem ga_callSN {y : MethodName} {host : String} {bytes : ByteArray} {maxL fr lo index n : Nat} {ret : Option FieldType} {As : List Value} {wi wr : va_W} {lv : List (Nat × Value)} (cx : ga_cx p m c cc nL s args own) (hK : ga_K G s) (hA : ∀ q : Nat, s.heap.size ≤ q → A q) (w : ga_wd G A s H locs ws) (hl : lv_has ls nL lv)
    (lk : ga_lkSN own index y host bytes maxL ret n) (M : ga_M l G y bytes maxL ret fr lo mc ms As wi post) (hR : fr + 1 ≤ R.frames ∧ 8 + (maxL + 11) + lo ≤ R.locals)
    (isC isR : List Nat) (hC : isC.map (fun i => ws[i]?) = wi.map some) (hRr : isR.map (fun i => ws[i]?) = wr.map some) (hcn : va_nd isC = true) (hn : va_nd isR = true) (hdis : ∀ i ∈ isR, i ∉ isC)
    (hAs : As.length = n) (hroom : (rest.map fun v => v.category).sum ≤ 8) (hdg : decode cc pc = .ok (.invokestatic index, 3)) (hf : cells + mc ≤ R.cells ∧ slots + ms ≤ R.slots) {st0 : List Value} (hst : st0 = As.reverse ++ rest)
    (kk : ∀ (r : Option Value) (w1 : va_W) (H1 : Heap) (locs1 : List Loc), post r w1 → ga_wd G A s H1 locs1 (wr ++ w1) → W p l e R s m args below meth c H1 locs1 (cells + mc) (slots + ms) Q (F0 m (pc + 3) ls (r.toList ++ rest))) : W p l e R s m args below meth c H locs cells slots Q (F0 m pc ls st0) := by
  refine ga_call (y := y) (bytes := bytes) (maxL := maxL) (fr := fr) (lo := lo) (index := index) (ret := ret) (As := As) w hA isC isR hC hRr hn hdis (av := As) ?_ kk
  exact va_runSN (As := As) (rest := rest) cx (M H.size) ⟨va_cnB n cx.2.2.2.2 (ga_gi lk.1.2.2.2) rfl rfl rfl (hK.2 _ lk.1.1) (cx.2.2.2.2 _ lk.1.2.2.1) lk.2 hR, cx.2.2.2.2 _ lk.1.2.1, trivial⟩ ⟨ga_blind, ga_pre hK w isC hC hcn⟩ rfl hAs hl.1 hst (lv_room hroom) hdg hf
theorem ga_callIN {y : MethodName} {host : String} {bytes : ByteArray} {maxL fr lo index n : Nat} {As : List Value} {b : Nat} {wi wr : va_W} {lv : List (Nat × Value)} (cx : ga_cx p m c cc nL s args own) (hK : ga_K G s) (hA : ∀ q : Nat, s.heap.size ≤ q → A q) (w : ga_wd G A s H locs ws) (hl : lv_has ls nL lv)
    (lk : ga_lkIN own index y host bytes maxL n) (M : ga_M l G y bytes maxL none fr lo mc ms (.ref b :: As) wi post) (hR : fr + 1 ≤ R.frames ∧ 8 + (maxL + 11) + lo ≤ R.locals)
    (isC isR : List Nat) (hC : isC.map (fun i => ws[i]?) = wi.map some) (hRr : isR.map (fun i => ws[i]?) = wr.map some) (hcn : va_nd isC = true) (hn : va_nd isR = true) (hdis : ∀ i ∈ isR, i ∉ isC)
    (hAs : As.length = n) (hroom : (rest.map fun v => v.category).sum ≤ 8) (hdg : decode cc pc = .ok (.invokespecial index, 3)) (hf : cells + mc ≤ R.cells ∧ slots + ms ≤ R.slots) {st0 : List Value} (hst : st0 = As.reverse ++ .ref b :: rest)
    (kk : ∀ (r : Option Value) (w1 : va_W) (H1 : Heap) (locs1 : List Loc), post r w1 → ga_wd G A s H1 locs1 (wr ++ w1) → W p l e R s m args below meth c H1 locs1 (cells + mc) (slots + ms) Q (F0 m (pc + 3) ls (r.toList ++ rest))) : W p l e R s m args below meth c H locs cells slots Q (F0 m pc ls st0) := by
  refine ga_call (y := y) (bytes := bytes) (maxL := maxL) (fr := fr) (lo := lo) (index := index) (ret := none) (As := As) w hA isC isR hC hRr hn hdis (av := .ref b :: As) ?_ kk
  exact va_runIN (As := As) (rest := rest) cx (M H.size) ⟨va_cnB n cx.2.2.2.2 (ga_gi lk.1.2.2.2) rfl rfl rfl (hK.2 _ lk.1.1) (cx.2.2.2.2 _ lk.1.2.2.1) lk.2.2 hR, lk.2.1, cx.2.2.2.2 _ lk.1.2.1⟩ ⟨ga_blind, ga_pre hK w isC hC hcn⟩ rfl hAs hl.1 hst (lv_room hroom) hdg hf
end GA
