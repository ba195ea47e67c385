/-! The throw of digit's own, and its catch in the law. -/
def upT : List String := ["java/lang/IndexOutOfBoundsException", "java/lang/RuntimeException", "java/lang/Exception"]
def atT : List Cond := Bundle.ownAtoms0 RX8 80 RJx00060 upT
def hpT : List Cond := [.laysStatic "java/lang/Throwable" "UNASSIGNED_STACK" "[Ljava/lang/StackTraceElement;", .laysStatic "java/lang/Throwable" "SUPPRESSED_SENTINEL" "Ljava/util/List;", .isRef (.static "java/lang/Throwable" "UNASSIGNED_STACK" "[Ljava/lang/StackTraceElement;"), .isRef (.static "java/lang/Throwable" "SUPPRESSED_SENTINEL" "Ljava/util/List;")]
def psT : List Nat := [29, 566, 575, 580, 582, 567, 41, 42, 569, 574, 578, 597, 556, 555, 598, 558, 557, 599, 560, 559, 570, 572, 562, 561, 565, 564, 563, 583, 543, 553, 554, 584, 586, 587, 589, 590, 592, 593, 595, 568, 577, 585, 588, 591, 594, 533]
def psK : List Nat := [544, 545, 547, 549, 551]
def kT : List Cond := psK.filterMap (fun i => lw_tbl[i]?)
def tT : List Cond := psT.filterMap (fun i => lw_tbl[i]?)
theorem tT_good : GoodIn lw_tbl tT := goodIn_r tT psT rfl (by decide +kernel)
theorem kT_in : ∀ w ∈ kT, w ∈ lw_tbl := fun w h => by
  obtain ⟨i, -, hi⟩ := List.mem_filterMap.mp h
  exact List.mem_of_getElem? hi
theorem kT_face : ∀ w ∈ kT, w.faceAtom = true ∧ w.onTables = true := by decide +kernel
theorem atT_split : ∀ w ∈ atT, w ∈ tT ∨ w ∈ kT ∨ w ∈ hpT := by decide +kernel
theorem clT : Cond.classLink RL 13 RJx00060 ∈ tT := by decide +kernel
def KT (U : State) : Prop := ∀ w ∈ kT, ∀ a' : Array Value, w.before a' U = true
theorem KT.of {args : Array Value} {s : State} (h : ∀ w ∈ lw_tbl, w.before args s = true) : KT s := fun w hw a' => by
  have h2 := Cond.onTables_vm (A := args) (A' := a') (U := s) (U' := s) s.vm w (kT_face w hw).2
  rw [State.setVm_self] at h2
  rw [← h2]; exact h w (kT_in w hw)
theorem KT.moved {u U : State} (hvm : u.vm.Alike U.vm) (h : KT u) : KT U := fun w hw a' => by
  have h1 := Cond.faceAtom_setVm (args := a') hvm w (kT_face w hw).1 (h w hw a')
  have h2 := Cond.onTables_vm (A := a') (A' := a') (U := u) (U' := U) U.vm w (kT_face w hw).2
  rw [h2, State.setVm_self] at h1
  exact h1
/-- one of the two statics that Throwable's constructor reads -/
def ZT1 (n d : String) (A : Nat → Prop) (U : State) (H : Heap) : Prop := ∃ (cf : ClassId) (kf : Class) (fi : Nat) (f : Field) (a : Nat) (cell : Cell) (u : RefV), U.vm.findClass "java/lang/Throwable" = some cf ∧ U.fieldFound? "java/lang/Throwable" n d = some (cf, kf, fi, f) ∧ f.isStatic = true ∧ kf.statics = some a ∧ H[a]? = some cell ∧ cell.vm.isStatics = true ∧ cell.cls = cf ∧ f.slot < cell.slots.size ∧ kf.staticTypes[f.slot]? = some f.type ∧ cell.slots[f.slot]? = some u.v ∧ ¬ A a
theorem ZT1.of {n d : String} {A : Nat → Prop} {args : Array Value} {s : State} (hl : (Cond.laysStatic "java/lang/Throwable" n d).before args s = true) (hr : (Cond.isRef (.static "java/lang/Throwable" n d)).before args s = true) (hA : ∀ a : Nat, a < s.heap.size → ¬ A a) : ZT1 n d A s s.heap := by
  obtain ⟨c, k, i, f, a, cell, hc, hi, hst, ha, hcell, hs, hcls, hlt, hty⟩ := Cond.laysStatic_spec hl
  obtain ⟨u, hu⟩ := Cond.staticRefV hi hst ha hcell hs hr
  exact ⟨c, k, i, f, a, cell, u, hc, hi, hst, ha, hcell, hs, hcls, hlt, hty, hu, hA a (Array.getElem?_eq_some_iff.mp hcell).1⟩
theorem ZT1.moved {n d : String} {A : Nat → Prop} {u U : State} {H : Heap} (hvm : u.vm.Alike U.vm) (h : ZT1 n d A u H) : ZT1 n d A U H := by
  obtain ⟨c, k, i, f, a, cell, v, hc, hi, h2, h3, h4, h5, h6, h7, h8, h9⟩ := h
  obtain ⟨k', hi', he⟩ := State.fieldFound?_setVm hvm hi
  exact ⟨c, k', i, f, a, cell, v, by rw [hvm.findClass]; exact hc, hi', h2, by rw [he]; exact h3, h4, h5, h6, h7, by rw [he]; exact h8, h9⟩
theorem ZT1.kept {n d : String} {A : Nat → Prop} {U : State} {H H1 : Heap} (h : ZT1 n d A U H) (hq : ∀ a : Nat, a < H.size → ¬ A a → H1[a]? = H[a]?) : ZT1 n d A U H1 := by
  obtain ⟨c, k, i, f, a, cell, v, hc, hi, h2, h3, h4, h5, h6, h7, h8, h9, h10⟩ := h
  exact ⟨c, k, i, f, a, cell, v, hc, hi, h2, h3, by rw [hq a (Array.getElem?_eq_some_iff.mp h4).1 h10]; exact h4, h5, h6, h7, h8, h9, h10⟩
theorem ZT1.narrow {n d : String} {A B : Nat → Prop} {U : State} {H : Heap} (h : ZT1 n d A U H) (hAB : ∀ q, B q → A q) : ZT1 n d B U H := by
  obtain ⟨c, k, i, f, a, cell, v, hc, hi, h2, h3, h4, h5, h6, h7, h8, h9, h10⟩ := h
  exact ⟨c, k, i, f, a, cell, v, hc, hi, h2, h3, h4, h5, h6, h7, h8, h9, fun z => h10 (hAB a z)⟩
theorem ZT1.lays {n d : String} {A : Nat → Prop} {args : Array Value} {U : State} (h : ZT1 n d A U U.heap) : (Cond.laysStatic "java/lang/Throwable" n d).before args U = true := by
  obtain ⟨c, k, i, f, a, cell, v, hc, hi, h2, h3, h4, h5, h6, h7, h8, h9, h10⟩ := h
  simp [Cond.before, Cond.holds, Cond.value, hc, hi, h2, h3, h4, h5, h6, h7, h8]
theorem ZT1.isr {n d : String} {A : Nat → Prop} {args : Array Value} {U : State} (h : ZT1 n d A U U.heap) : (Cond.isRef (.static "java/lang/Throwable" n d)).before args U = true := by
  obtain ⟨c, k, i, f, a, cell, v, hc, hi, h2, h3, h4, h5, h6, h7, h8, h9, h10⟩ := h
  have he : (Term.static "java/lang/Throwable" n d).eval args U none [] U = some v.v := by
    simp [Term.eval, State.fieldNamed?, hi, h2, h3, h4, h5, h9]
  obtain ⟨w, hw⟩ := v
  cases w <;> first | (simp [Value.isRef] at hw; done) | (simp [Cond.before, Cond.holds, Cond.value, he])
def ZT (A : Nat → Prop) (U : State) (H : Heap) : Prop := ZT1 "UNASSIGNED_STACK" "[Ljava/lang/StackTraceElement;" A U H ∧ ZT1 "SUPPRESSED_SENTINEL" "Ljava/util/List;" A U H ∧ KT U
theorem ZT.moved {A : Nat → Prop} {u U : State} {H : Heap} (hvm : u.vm.Alike U.vm) (h : ZT A u H) : ZT A U H := ⟨h.1.moved hvm, h.2.1.moved hvm, h.2.2.moved hvm⟩
theorem ZT.sub {A B : Nat → Prop} {s : State} {H : Heap} {locs : List Loc} (h : ZT A s s.heap) (hS : va_S A s.heap H locs) (hAB : ∀ q, B q → A q) : ZT B s H := ⟨(h.1.kept hS.2.1).narrow hAB, (h.2.1.kept hS.2.1).narrow hAB, h.2.2⟩
theorem ZT.hp {A : Nat → Prop} {args : Array Value} {U : State} (h : ZT A U U.heap) : ∀ w ∈ hpT, w.before args U = true := by
  intro w hw
  simp only [hpT, List.mem_cons, List.not_mem_nil, or_false] at hw
  rcases hw with rfl | rfl | rfl | rfl
  · exact h.1.lays
  · exact h.2.1.lays
  · exact h.1.isr
  · exact h.2.1.isr
/-- the end of a throw: one new cell, of the class that is thrown; nothing else changed -/
def tQ : Array Value → State → Outcome → State → Prop := fun _ st o t => ∃ (x : Addr) (ce : Cell), o = .threw x ∧ st.WarmedH t.vm ∧ st.sameButNew ({ t with vm := st.vm } : State) [] 1 6 ∧ t.heap[x]? = some ce ∧ st.vm.findClass RJx00060 = some ce.cls ∧ st.vm.assignable ce.cls ce.cls = true ∧ ce.vm = .none
theorem same_heap {s t : State} {k n : Nat} (h : s.sameButNew t [] k n) : s.heap.size ≤ t.heap.size ∧ ∀ q : Nat, q < s.heap.size → t.heap[q]? = s.heap[q]? := by
  obtain ⟨-, h1, -, -, -, h2⟩ := h
  refine ⟨h1, fun q hq => ?_⟩
  obtain ⟨c', e1, e2, e3, e4⟩ := h2 q s.heap[q] (Array.getElem?_eq_getElem hq)
  have e5 : c'.slots = (s.heap[q]).slots := Array.ext_getElem? (fun i => e4 i List.not_mem_nil)
  have e6 : c' = s.heap[q] := by rw [e2, e5]
  rw [e1, e6, Array.getElem?_eq_getElem hq]
section thr
variable {p : Program} {l : Launch} {e : Env} {R : Room} {s : State} {m : MethodId} {args : Array Value} {below : List Frame} {meth : Method} {c : Code} {T : State} {locs : List Loc} {cells slots : Nat}
/-- a call of a method that throws: the state in which the throw has come out of it -/
theorem throwV (X : Stand p l e R s m args below meth c T locs cells slots) (hexec : p.tables.exec = Jvm.exec) {own C : String} {index : Nat} {y : MethodName} {bytes : ByteArray} {maxL : Nat} {ret : Option FieldType} {ws : List Cond} {rm : Room} {Pc : Array Value → State → Prop}
    (hM : MetFree l y (headSpec ws rm) Pc (fun _ _ _ _ _ => True) tQ) (hblind : FrameBlind Pc) (hframes : rm.frames + 1 ≤ R.frames) (hlocals : 8 + (maxL + 11) + rm.locals ≤ R.locals) (hcells : cells + rm.cells ≤ R.cells) (hslots : slots + rm.slots ≤ R.slots)
    (hws : ∀ w ∈ ws, ∀ (a' : Array Value) (U : State), s.WarmedH U.vm → w.before a' U = true)
    (hown : s.vm.findClass own = some m.cls) (hlink : (Cond.methodLink own index y).before args s = true) (hinst : (Cond.instanceMethod y).before args s = true) (hsel : (Cond.selects C y y).before args s = true)
    (hcode : (Cond.code y bytes maxL ret).before args s = true) (hini : (Cond.initialized y.cls).before args s = true) (hy : y.cls ≠ "java/lang/invoke/MethodHandle" ∧ y.cls ≠ "java/lang/invoke/VarHandle")
    {b : Addr} {cellB : Cell} (hcell : T.heap[b]? = some cellB) (hobj : cellB.vm.isStatics = false) (hcls : s.vm.findClass C = some cellB.cls)
    {g : JFrame} (hg : g.method = m) (hsize : g.locals.size = c.maxLocals) {argsL rest : List Value} (hlen : ∀ sig, parseMethodDescriptor y.desc = some sig → argsL.length = sig.parameters.length)
    (hstack : g.stack = argsL.reverse ++ .ref b :: rest) (hW : 2 * g.monitorRoom + (rest.map fun v => v.category).sum ≤ 8) (hdg : decode c.code g.pc = .ok (.invokevirtual index, 3))
    (hPc : ∀ vm₁, s.WarmedH vm₁ → Pc (Value.ref b :: argsL).toArray (T.setVm vm₁)) :
    ∃ (T' : State) (x : Addr) (ce : Cell), Stand p l e R s m args below meth c T' locs (cells + 1) (slots + 6) ∧ T.heap.size ≤ T'.heap.size ∧ (∀ q : Nat, q < T.heap.size → T'.heap[q]? = T.heap[q]?) ∧ T'.heap[x]? = some ce ∧ s.vm.findClass RJx00060 = some ce.cls ∧ s.vm.assignable ce.cls ce.cls = true ∧ ce.vm = .none ∧
      ∀ target, Steps p.tables e below ((T'.setTop { g with stack := rest }).pushFrame (.throwing x)) target → Steps p.tables e below (T.setTop g) target := by
  obtain ⟨mk, methM, hnamed, hmethM, hstM, habM⟩ := Cond.instanceMethod_spec hinst
  obtain ⟨methM', cM, hmethM', -, -, -, -, -, -, hsigM⟩ := Cond.code_spec hnamed hcode
  cases hmethM.symm.trans hmethM'
  obtain ⟨c2, r2, m2, q1, q2, q3, q4, kP, hkP, hkPi⟩ := Cond.selects_spec hsel
  cases hcls.symm.trans q1
  cases (State.methodFound?_of_named hnamed hy).symm.trans q2
  cases hnamed.symm.trans q3
  have hselP : selectMethod e.platform s.vm cellB.cls mk = .method mk := by rw [Launch.admits_selectMethod X.admits]; exact q4
  obtain ⟨vm₁, X₁, hstep₁⟩ := X.invokevirtual hexec hown hlink hnamed hmethM hstM hkP hkPi hy (a := b) (cell := cellB) hcell
    (fun z h => by rw [h] at hobj; cases hobj) hselP hmethM habM hkP hkPi (g := g) hg (argsL := argsL) (rest := rest) (hlen _ hsigM) hstack hdg
  have hnU := X₁.named hnamed
  have hcodeU := hws
  generalize hg2 : ({ g with stack := rest } : JFrame) = g2 at hstep₁
  have hgm : g2.method = m := by rw [← hg2]; exact hg
  have hgp : g2.pc = g.pc := by rw [← hg2]
  have hgs : g2.locals.size = c.maxLocals := by rw [← hg2]; exact hsize
  have hgW : 2 * g2.monitorRoom + (g2.stack.map fun v => v.category).sum ≤ 8 := by rw [← hg2]; exact hW
  have hcw : (Cond.code y bytes maxL ret).before args (T.setVm vm₁) = true := word_at (U := T.setVm vm₁) X₁.warmed (Or.inl (by first | rfl | simp [Cond.onTables, Cond.keeps, Cond.steady])) hcode
  have hiw : (Cond.initialized y.cls).before args (T.setVm vm₁) = true := word_at (U := T.setVm vm₁) X₁.warmed (Or.inl (by first | rfl | simp [Cond.onTables, Cond.keeps, Cond.steady])) hini
  obtain ⟨methY, cY, hmY, hcY, -, hlY, -⟩ := Cond.code_spec hnU hcw
  obtain ⟨kY, hkY, -⟩ := className_of_methodNamed hnU
  have hinitY : kY.init = .initialized := Cond.initialized_spec (findClass_of_methodNamed hnU) hkY hiw
  have h : At (T.setVm vm₁) g2.method c below := by rw [hgm]; exact X₁.here
  have happ : (headSpec ws rm).appliesLoose y e.platform ((T.setVm vm₁).calling g2 mk (Value.ref b :: argsL).toArray) = true :=
    Spec.appliesLoose_calling (g := g2) h (by rw [hgp]; exact hdg) hnU hkY hinitY
      (X₁.room_calling (g := g2) (R' := rm) hgs hmY hcY hframes (by rw [hlY]; omega) hcells hslots) (atoms_intro fun w hw => hws w hw _ _ X₁.warmed)
  obtain ⟨mid, hmid⟩ := h.above
  have hfr : ((T.setVm vm₁).setTop g2).frames = (.java g2 :: mid) ++ below := by rw [State.frames_setTop' g2 h.top, hmid]; rfl
  obtain ⟨o, s₂, hsteps, -, hend, hq⟩ := Steps.callFree hM p X₁.admits X₁.cas X₁.clock (acts := []) hfr happ (hblind _ _ _ _ (hPc vm₁ X₁.warmed)) trivial
  obtain ⟨x, ce, rfl, hW2, hsame, hce, hc1, hc2, hc3⟩ := hq
  rw [State.frames_setTop' g2 h.top, X₁.tail] at hend
  obtain ⟨T', X', hW', hs', ht⟩ := X₁.outOfThrown hgm hend hW2 hsame
  rw [List.append_nil] at X'
  have hh : s₂.heap = T'.heap := by rw [ht]; exact Stand.throwing_heap T' g2 x
  obtain ⟨z1, z2⟩ := same_heap hs'
  refine ⟨T', x, ce, X', z1, z2, by rw [← hh]; exact hce, ?_, ?_, hc3, fun target hrest => hstep₁ _ fun acts => ?_⟩
  · have a1 : ((T.setVm vm₁).calling g2 mk (Value.ref b :: argsL).toArray).vm.findClass RJx00060 = some ce.cls := hc1
    have a2 : vm₁.findClass RJx00060 = some ce.cls := a1
    rw [← X₁.warmed.alike.findClass]; exact a2
  · have a1 : vm₁.assignable ce.cls ce.cls = true := hc2
    have a2 : (T.setVm vm₁).vm.assignable ce.cls ce.cls = s.vm.assignable ce.cls ce.cls := X₁.warmed.alike.assignable ..
    rw [← a2]; exact a1
  · rw [doInvoke_state]
    refine Steps.trans hsteps ?_
    rw [ht]; exact hrest
/-- the search in a table of one entry whose class is found, resolved or not -/
theorem catchCold (X : Stand p l e R s m args below meth c T locs cells slots) (a : Addr) {g : JFrame} (hg : g.method = m) {own name : String} (hown : s.vm.findClass own = some m.cls) {x : ExceptionTableEntry} (htab : c.exceptionTable.toList = [x]) (hx : covers x g.pc = true) (h0 : x.catchType ≠ 0)
    (hlink : (Cond.classLink own x.catchType name).before args s = true) {cell : Cell} (hcell : T.heap[a]? = some cell) (hvm : cell.vm = .none) (hcls : s.vm.findClass name = some cell.cls) (hself : s.vm.assignable cell.cls cell.cls = true) :
    ∃ vm', Stand p l e R s m args below meth c (T.setVm vm') locs cells slots ∧ ∀ target, Steps p.tables e below ((T.setVm vm').setTop { g with pc := x.handlerPc, stack := [.ref a] }) target → Steps p.tables e below ((T.setTop g).pushFrame (.throwing a)) target := by
  subst hg
  have hpl : e.platform.magicAccessors = ({} : Platform).magicAccessors := by rw [X.admits.platform]
  obtain ⟨cT, hc', hcl⟩ := Cond.classLink_spec hown hlink e.platform hpl
  cases hcls.symm.trans hc'
  obtain ⟨hgiv, hwarm, -⟩ := State.classEntry (e := e) X.warmed hcl
  refine ⟨_, X.noted hwarm, fun target hrest => ?_⟩
  generalize hvm' : T.vm.noted g.method.cls x.catchType (.cls cell.cls) = vm' at hgiv hwarm hrest
  have hal := hwarm.alike
  obtain ⟨kt, hkt⟩ := Vm.classAt_of_findClass hcls
  obtain ⟨kt', hkt', -⟩ := hal.2.2 _ _ hkt
  have hfit : vm'.assignable cell.cls cell.cls = true := by rw [hal.assignable]; exact hself
  have hno : ∀ k, cell.vm ≠ .statics k := fun k h => by rw [hvm] at h; cases h
  have hfind : ∀ (Q : Handler → Pre) (E : CtlPost) (d : Bool) (acts : List Action), wp (findHandler g a) Q E e d acts ((T.setTop g).pushFrame (.throwing a)) ↔ Q (.found x.handlerPc) d acts (((T.setTop g).pushFrame (.throwing a)).setVm vm') := by
    intro Q E d acts
    rw [W.findHandler_eq (s := (T.setTop g).pushFrame (.throwing a)) (meth := meth) (code := c) (by rw [Stand.throwing_vm]; exact X.method') X.code, htab]
    have hx' := hx
    simp only [covers] at hx'
    have hcell' : ((T.setTop g).pushFrame (.throwing a)).heap[a]? = some cell := by rw [Stand.throwing_heap]; exact hcell
    have hgiv' : (resolveClass g.method.cls x.catchType).Gives e.toSetting ((T.setTop g).pushFrame (.throwing a)).vm (.ok cell.cls) vm' := by rw [Stand.throwing_vm]; exact hgiv
    obtain ⟨ha, ht⟩ := hgiv'.op (op := VmOp.resolveClass g.method.cls x.catchType) rfl
    have hsz : vm'.classes.size ≤ ((T.setTop g).pushFrame (.throwing a)).vm.classes.size := by rw [Stand.throwing_vm, ← hvm']; simp
    simp [findHandler.go, hx', h0, ha, VmOp.lands_eq ht hsz, hcell', hno, hkt', hfit, VmOp.dirties, VmOp.acts]
  have hstep : (stepThrowing e ((T.setTop g).pushFrame (.throwing a)) a (.java g :: T.frames.tail)).Is ((((T.setTop g).pushFrame (.throwing a)).setVm vm').setFrames (.java { g with pc := x.handlerPc, stack := [.ref a] } :: T.frames.tail)) [] := by
    simp only [stepThrowing, searchFrame, vmDo]
    generalize hr : Sem.go _ e false [] ((T.setTop g).pushFrame (.throwing a)) = res
    obtain ⟨as, rfl, ha⟩ := Sem.eq_ok_of hr (a := Handler.found x.handlerPc) (s' := ((T.setTop g).pushFrame (.throwing a)).setVm vm') (acts' := []) (by simp [hfind _ _ _ _])
    exact ⟨rfl, ha⟩
  obtain ⟨hgo, hw⟩ := X.here.throwing a
  refine Steps.head hgo hw ?_
  rw [stepThread_throwing (frames_entered X.here.top _), hstep.1]
  obtain ⟨g₀, hg0⟩ := Option.isSome_iff_exists.mp X.here.top
  obtain ⟨r, hr⟩ := State.topJava?_eq_some.mp hg0
  have e1 : (((T.setTop g).pushFrame (.throwing a)).setVm vm').setFrames (.java { g with pc := x.handlerPc, stack := [.ref a] } :: T.frames.tail) = (T.setVm vm').setTop { g with pc := x.handlerPc, stack := [.ref a] } := by
    have hr' : (T.setVm vm').frames = .java g₀ :: r := hr
    rw [State.setTop_of_frames _ hr', hr, List.tail_cons, State.pushFrame, State.setTop_of_frames _ hr]
    have h1 : ∀ (u : State) (F G : List Frame), ((u.setFrames F).setVm vm').setFrames G = (u.setVm vm').setFrames G := fun u F G => by
      have h2 : (u.setFrames F).setVm vm' = (u.setVm vm').setFrames F := rfl
      rw [h2, State.setFrames_setFrames]
    rw [h1, h1]
  rw [e1]
  exact hrest
end thr
