set_option maxHeartbeats 4000000 in
set_option maxRecDepth 100000 in
theorem kX8_digitR (l : Launch) (D : va_G) (cI cJ cZ : ClassId) (q0 qb qm qp qy qd qc qf qv : Nat) (lr : Int32) (b1 b2 : Nat) (bw bd : Nat → Int32) (bn : Nat) (k : Int32) (hbn : bn ≤ 14) (hm : ¬ FX0_digitAt bd bn k = -1) : Met l yX8_digit wsX8_digit ({ frames := 2, cells := 0, slots := 0, locals := 42 }) (rP D (tz cI cJ cZ) [.ref q0, .int k] [(q0, .inr (8, [.ref qb, .ref qm, .ref qp, .ref qy, .ref qd, .ref qc, .ref qf, .ref qv, .int lr])), (qb, .inr (1, [.ref b1, .ref b2, .int (nI bn)])), (b1, .inl (cI, 64, .inl bw)), (b2, .inl (cI, 14, .inl bd))]) (k2_QcV (.int (FX0_digitAt bd bn k))) 0 0 (fun _ => False) := by
  refine Met.ofW (cc := cX8_digit) (maxL := 3) (ret := (some .int)) (by decide) rfl ?_
  intro p e s m args below meth c s₁ B hml hv
  obtain ⟨rfl, hP, hK, hN⟩ := hv
  have hx := B.exec
  have hb := B.bytes
  have hr := B.returns
  have hts := atoms_spec (ws := wsX8_digit) B.pre
  have hown : s.vm.findClass RX8 = some m.cls := findClass_of_methodNamed B.named
  have hlocks := B.notSynchronized
  have hts8 := hts
  have iw_8 : ∀ w ∈ u_ws RX8 TX8 9, w ∈ wsX8_digit := by decide +kernel
  have hl := lv_entry ([.ref q0, .int k]) (n := 3) (Nat.le_of_ble_eq_true rfl)
  rw [lg_entry_eq]
  generalize (lg_sl ([.ref q0, .int k]) ++ List.replicate (3 - (lg_sl ([.ref q0, .int k])).length) Slot.unset).toArray = ls at hl ⊢
  have hl : lv_has ls 3 [(0, .ref q0), (1, .int k)] := hl
  refine lv_aload_n hx hb dX8_digit_0 rfl (lv_at hl 0 rfl) ?_
  refine va_get (D := D) (ci := 8) (v := .ref qb) (C := RX8) (T := TX8) (N := 9) hx hb hts8 iw_8 hown hK hP 0 rfl rfl 0 (by decide) (hts8 (.fieldLink RX8 10 "DepositCodes" "bars" "LDepositCodes$Bars;") (by decide +kernel)) (fun _ h9 => h9) rfl dX8_digit_1 ?_
  refine lv_iload_n hx hb dX8_digit_4 rfl (lv_at hl 1 rfl) ?_
  refine rd_call (va_runV (As := [.int k]) (rest := []) ⟨hx, hb, hml, hown, hts8⟩ (kX0_digitAt l D cI cJ cZ qb b1 b2 bw bd bn k hbn) (cwV 1 hts8 gX8_digit_X0_digitAt rfl rfl rfl (by decide +kernel) ⟨Nat.le_of_ble_eq_true rfl, Nat.le_of_ble_eq_true rfl⟩) ⟨rP_blind, va_recv hK hP (ci := 1) (q0 := 1) rfl rfl, rP_pre (hP.sub [1, 2, 3] rfl) hK hN⟩ rfl rfl hl.1 rfl (lv_room (Nat.le_of_ble_eq_true rfl)) dX8_digit_5 ⟨Nat.zero_le _, Nat.zero_le _⟩) ?_
  refine lv_istore_n (lv' := [(2, .int (FX0_digitAt bd bn k)), (0, .ref q0), (1, .int k)]) hx hb dX8_digit_8 rfl hl (by decide) rfl (fun ls hl => ?_)
  refine lv_iload_n hx hb dX8_digit_9 rfl (lv_at hl 0 rfl) ?_
  refine lv_iconst (v := (-1)) hx hb dX8_digit_10 (by decide) ?_
  refine lv_icmp_ne (tgt := 22) hx hb dX8_digit_11 (by decide) (fun c_1 => ?_) (fun c_1 => ?_)
  rotate_left
  · first | exact absurd c_1 hm | exact absurd hm c_1
  refine lv_iload_n hx hb dX8_digit_22 rfl (lv_at hl 0 rfl) ?_
  exact W.iret hx hb hr (fun t ht hW => ⟨rfl, ht⟩) (fun q h => absurd h List.not_mem_nil) dX8_digit_23
def tP (D : va_G) (T : List (ClassId × FieldType)) (av : List Value) (ws : va_W) : Array Value → State → Prop := fun v U => rP D T av ws v U ∧ ZT (fun _ => False) U U.heap
theorem tP_blind {D : va_G} {T : List (ClassId × FieldType)} {av : List Value} {ws : va_W} : FrameBlind (tP D T av ws) := fun a U g mk q => ⟨rP_blind a U g mk q.1, ZT.moved (u := U) (U := U.calling g mk a) (Vm.Alike.refl U.vm) q.2⟩
def wsX8_dT : List Cond := wsX8_digit ++ tT
def wsL_dT : List Cond := wsL_digit ++ tT
set_option maxHeartbeats 4000000 in
set_option maxRecDepth 100000 in
theorem tX8_digit (l : Launch) (hnt : l.stackTraces = false) (D : va_G) (cI cJ cZ : ClassId) (q0 qb qm qp qy qd qc qf qv : Nat) (lr : Int32) (b1 b2 : Nat) (bw bd : Nat → Int32) (bn : Nat) (k : Int32) (hbn : bn ≤ 14) (hm : FX0_digitAt bd bn k = -1) : MetFree l yX8_digit (headSpec wsX8_dT ({ frames := 7, cells := 1, slots := 6, locals := 100 })) (tP D (tz cI cJ cZ) [.ref q0, .int k] [(q0, .inr (8, [.ref qb, .ref qm, .ref qp, .ref qy, .ref qd, .ref qc, .ref qf, .ref qv, .int lr])), (qb, .inr (1, [.ref b1, .ref b2, .int (nI bn)])), (b1, .inl (cI, 64, .inl bw)), (b2, .inl (cI, 14, .inl bd))]) (fun _ _ _ _ _ => True) tQ := by
  refine MetFree.of_bodyS (code := cX8_digit) (maxLocals := 3) (ret := some .int) (by decide) ?_ ?_
  · intro args s m h hn
    obtain ⟨meth, c, h1, h2, h3, h4, h5, h6, -, -⟩ := Cond.code_spec hn (atoms_spec (ws := wsX8_dT) h _ List.mem_cons_self)
    exact ⟨meth, c, h1, h2, h3, h4, h5, h6⟩
  intro p e s m args below meth c s₁ B hml hv _
  obtain ⟨⟨rfl, hP, hK, hN⟩, hZT⟩ := hv
  have hx := B.exec
  have hb := B.bytes
  have hr := B.returns
  have hts := atoms_spec (ws := wsX8_dT) B.pre
  have hown : s.vm.findClass RX8 = some m.cls := findClass_of_methodNamed B.named
  have hlocks := B.notSynchronized
  have hts8 : ∀ w ∈ wsX8_digit, w.before _ s = true := fun w h => hts w (List.mem_append_left _ h)
  have htsT : ∀ w ∈ tT, w.before _ s = true := fun w h => hts w (List.mem_append_right _ h)
  have hcodeV := hts _ List.mem_cons_self
  have iw_8 : ∀ w ∈ u_ws RX8 TX8 9, w ∈ wsX8_digit := by decide +kernel
  have hh0 : s₁.heap = s.heap := by rw [B.state]; rfl
  have K : W p l e (headSpec wsX8_dT ({ frames := 7, cells := 1, slots := 6, locals := 100 })).room s m ([.ref q0, .int k] : List Value).toArray below meth c s.heap [] 0 0 (fun t => ∃ o, t.status = .running ∧ Ended t below o ∧ tQ ([.ref q0, .int k] : List Value).toArray s o t) (entryFrame m ([.ref q0, .int k] : List Value).toArray 3) := by
    have hl := lv_entry ([.ref q0, .int k]) (n := 3) (Nat.le_of_ble_eq_true rfl)
    rw [lg_entry_eq]
    generalize (lg_sl ([.ref q0, .int k]) ++ List.replicate (3 - (lg_sl ([.ref q0, .int k])).length) Slot.unset).toArray = ls at hl ⊢
    have hl : lv_has ls 3 [(0, .ref q0), (1, .int k)] := hl
    refine lv_aload_n hx hb dX8_digit_0 rfl (lv_at hl 0 rfl) ?_
    refine va_get (D := D) (ci := 8) (v := .ref qb) (C := RX8) (T := TX8) (N := 9) hx hb hts8 iw_8 hown hK hP 0 rfl rfl 0 (by decide) (hts8 (.fieldLink RX8 10 "DepositCodes" "bars" "LDepositCodes$Bars;") (by decide +kernel)) (fun _ h9 => h9) rfl dX8_digit_1 ?_
    refine lv_iload_n hx hb dX8_digit_4 rfl (lv_at hl 1 rfl) ?_
    refine rd_call (va_runV (As := [.int k]) (rest := []) ⟨hx, hb, hml, hown, hts8⟩ (kX0_digitAt l D cI cJ cZ qb b1 b2 bw bd bn k hbn) (cwV 1 hts8 gX8_digit_X0_digitAt rfl rfl rfl (by decide +kernel) ⟨Nat.le_of_ble_eq_true rfl, Nat.le_of_ble_eq_true rfl⟩) ⟨rP_blind, va_recv hK hP (ci := 1) (q0 := 1) rfl rfl, rP_pre (hP.sub [1, 2, 3] rfl) hK hN⟩ rfl rfl hl.1 rfl (lv_room (Nat.le_of_ble_eq_true rfl)) dX8_digit_5 ⟨Nat.zero_le _, Nat.zero_le _⟩) ?_
    refine lv_istore_n (lv' := [(2, .int (FX0_digitAt bd bn k)), (0, .ref q0), (1, .int k)]) hx hb dX8_digit_8 rfl hl (by decide) rfl (fun ls hl => ?_)
    refine lv_iload_n hx hb dX8_digit_9 rfl (lv_at hl 0 rfl) ?_
    refine lv_iconst (v := (-1)) hx hb dX8_digit_10 (by decide) ?_
    refine lv_icmp_ne (tgt := 22) hx hb dX8_digit_11 (by decide) (fun c_1 => ?_) (fun c_1 => ?_)
    · first | exact absurd hm c_1 | exact absurd c_1 (fun h => h hm)
    intro T hT X
    have htr : e.platform.stackTraces = false := by rw [Example.NoTraceControls.admits_follows X.admits]; exact hnt
    obtain ⟨vm₁, cX, kX, hfX, hkX, -, -, X₁, st1⟩ := X.newCold hx (own := RX8) (C := RJx00060) (index := 78) (n := 6) hown (hts8 (.classLink RX8 78 RJx00060) (by decide +kernel)) (hts8 (.instantiable RJx00060 6) (by decide +kernel)) (hts8 (.initialized RJx00060) (by decide +kernel)) (g := F0 m 14 ls []) rfl (by rw [hb]; exact dX8_digit_14) (Nat.le_of_ble_eq_true rfl) (Nat.le_of_ble_eq_true rfl)
    generalize hT1 : (T.setVm vm₁).pushCell { cls := cX, slots := kX.instanceTypes.map defaultValue, vm := .none } = T1 at X₁ st1
    have hcellA : T1.heap[T.heap.size]? = some (freshCell cX kX) := by rw [← hT1]; exact State.heap_pushCell_size _ _
    have K17 : W p l e (headSpec wsX8_dT ({ frames := 7, cells := 1, slots := 6, locals := 100 })).room s m ([.ref q0, .int k] : List Value).toArray below meth c T1.heap [] (0 + 1) (0 + 6) (fun t => ∃ o, t.status = .running ∧ Ended t below o ∧ tQ ([.ref q0, .int k] : List Value).toArray s o t) (F0 m 17 ls [.ref T.heap.size]) := by
      refine lv_dup hx hb dX8_digit_17 rfl ?_
      intro T2 hT2 X2
      obtain ⟨U, hsteps, hrun, hend, hW, hsame, ce, hce, K9⟩ := X2.ctorThrow0 hx htr (own := RX8) (cls := RJx00060) (names := upT) (ic := 80) hown (by decide +kernel) (by decide +kernel) (fun w hw => (atT_split w hw).elim (htsT w) (fun h => h.elim (fun h => hZT.2.2 w h _) (hZT.hp w))) (fun y hy => by cases hy) hfX hkX (by rw [hT2]; exact hcellA) (by rw [hT]; exact Nat.le_refl _) (g := F0 m 18 ls [.ref T.heap.size, .ref T.heap.size]) rfl (by rw [hml]; exact hl.1) rfl rfl (rest := []) rfl (by rw [hb]; exact dX8_digit_18) (by rw [hb]; exact dX8_digit_21) (covers_of_empty (B.noHandlers hcodeV) _) (Nat.le_of_ble_eq_true rfl) (Nat.le_of_ble_eq_true rfl)
      exact ⟨U, hsteps, .threw _, hrun, hend, _, ce, rfl, hW, hsame, hce, K9.cls, K9.self, K9.vm⟩
    obtain ⟨t, a1, b1⟩ := K17 T1 rfl X₁
    exact ⟨t, st1 t a1, b1⟩
  obtain ⟨t, a1, o, b1, b2, b3⟩ := K s₁ hh0 (Stand.of_body B)
  exact ⟨t, o, a1, b1, b2, b3⟩
section sw
variable {p : Program} {l : Launch} {e : Env} {R : Room} {s : State} {m : MethodId} {args : Array Value} {below : List Frame} {meth : Method} {c : Code} {H : Heap} {locs : List Loc} {cells slots : Nat}
theorem va_runSW {y : MethodName} {bytes cc : ByteArray} {maxL nL mc ms index : Nat} {ret : Option FieldType} {hh : List (Nat × Nat × Nat × Nat)} {ws : List Cond} {rm : Room} {Pc : Array Value → State → Prop} {Qc : Array Value → State → Outcome → State → Prop} {free : Addr → Prop} {Ts : List Cond} {own : String} {As rest : List Value} {g : JFrame}
    (S : CallFix p m c cc nL s args Ts own) (hM : Met l y ws rm Pc Qc mc ms free) (hrc : rm.cells = mc) (hrs : rm.slots = ms) (hfr : rm.frames + 1 ≤ R.frames) (hlo : 8 + (maxL + 11) + rm.locals ≤ R.locals) (hws : ∀ w ∈ ws, ∀ (a' : Array Value) (U : State), s.WarmedH U.vm → w.before a' U = true) (hcw : Cond.codeWith y bytes maxL ret hh ∈ ws)
    (hcode : (Cond.codeWith y bytes maxL ret hh).before args s = true) (hini : (Cond.initialized y.cls).before args s = true) (hstt : (Cond.static y).before args s = true) (hl : (Cond.methodLink own index y).before args s = true) (hy : y.cls ≠ "java/lang/invoke/MethodHandle" ∧ y.cls ≠ "java/lang/invoke/VarHandle") (hlen : ∀ sig, parseMethodDescriptor y.desc = some sig → As.length = sig.parameters.length)
    (hp : PreS s H Pc As) (hg : g.method = m) (hsize : g.locals.size = nL) (hstack : g.stack = As.reverse ++ rest) (hW : 2 * g.monitorRoom + (rest.map fun v => v.category).sum ≤ 8) (hdg : decode cc g.pc = .ok (.invokestatic index, 3)) (hf : cells + mc ≤ R.cells ∧ slots + ms ≤ R.slots) :
    va_Run p l e R s m args below meth c H locs cells slots mc ms g rest (Qc As.toArray) free := by
  have hK : Back l R p e below s args y 3 8 (PreOf R mc ms Pc) (PostOf Qc mc ms free) := va_backW (hh := hh) (bytes := bytes) (maxL := maxL) (ret := ret) hM hp.1 hrc hrs hfr hlo hws hcw (fun a' U hW => word_at hW (Or.inl (by first | rfl | simp [Cond.onTables, Cond.keeps, Cond.steady])) hini)
  obtain ⟨hx, hb, hml, ho, -⟩ := S
  intro T hT X
  obtain ⟨mk, methM, cM, hnamed, hmethM, -, -, -, -, -, -, hsigM⟩ := Cond.codeWith_spec hcode
  have hstatic : methM.isStatic = true := Cond.static_spec hnamed hmethM hstt
  obtain ⟨kP, hkP, -⟩ := className_of_methodNamed hnamed
  have hinitP : kP.init = .initialized := Cond.initialized_spec (findClass_of_methodNamed hnamed) hkP hini
  obtain ⟨vm₁, X₁, hstep₁⟩ := X.invokestatic hx ho hl hnamed hmethM hstatic hkP hinitP hy (g := g) hg (argsL := As) (rest := rest) (hlen _ hsigM) hstack (by rw [hb]; exact hdg)
  obtain ⟨v, ⟨U', l2, c2, s2⟩, X', ⟨g', mk', t, L, e1, e2, hq, h1, hL, h2, h3⟩, hsteps⟩ := hK m meth c ⟨T.setVm vm₁, locs, cells, slots⟩ { g with stack := rest } (.invokestatic index) mk As.toArray X₁ hg (hsize.trans hml.symm) (by rw [hb]; exact hdg) hW (X₁.named hnamed) ⟨hf.1, hf.2, hp.2 (T.setVm vm₁) hT X₁.warmed⟩
  dsimp only [Pt.U, Pt.locs, Pt.cells, Pt.slots] at X' e1 e2 h1 h2 h3 hsteps
  subst h1; subst h2; subst h3
  exact ⟨v, (T.setVm vm₁).calling g' mk' As.toArray, t, U', L, hT, X', hL, e1, e2, hq, fun target h => hstep₁ _ fun acts => by rw [doInvoke_state]; exact hsteps.trans h⟩
end sw
set_option maxHeartbeats 4000000 in
set_option maxRecDepth 100000 in
theorem kL_digitR (l : Launch) (D : va_G) (cI cJ cZ : ClassId) (q0 qb qm qp qy qd qc qf qv : Nat) (lr : Int32) (b1 b2 : Nat) (bw bd : Nat → Int32) (bn : Nat) (k : Int32) (qo : Nat) (fo : Nat → Int64) (sz : Nat) (hbn : bn ≤ 14) (hm : ¬ FX0_digitAt bd bn k = -1) : Met l yL_digit wsL_digit ({ frames := 3, cells := 0, slots := 0, locals := 64 }) (mP D (tz cI cJ cZ) [.ref q0, .int k, .ref qo] sz [(q0, .inr (8, [.ref qb, .ref qm, .ref qp, .ref qy, .ref qd, .ref qc, .ref qf, .ref qv, .int lr])), (qb, .inr (1, [.ref b1, .ref b2, .int (nI bn)])), (b1, .inl (cI, 64, .inl bw)), (b2, .inl (cI, 14, .inl bd)), (qo, .inl (cJ, 1, .inr (.inl fo)))]) (mQ D (some (.int 0)) [(q0, .inr (8, [.ref qb, .ref qm, .ref qp, .ref qy, .ref qd, .ref qc, .ref qf, .ref qv, .int lr])), (qb, .inr (1, [.ref b1, .ref b2, .int (nI bn)])), (b1, .inl (cI, 64, .inl bw)), (b2, .inl (cI, 14, .inl bd)), (qo, .inl (cJ, 1, .inr (.inl (vp_updL fo 0 (FX0_digitAt bd bn k).toInt64))))] (va_A [(q0, .inr (8, [.ref qb, .ref qm, .ref qp, .ref qy, .ref qd, .ref qc, .ref qf, .ref qv, .int lr])), (qb, .inr (1, [.ref b1, .ref b2, .int (nI bn)])), (b1, .inl (cI, 64, .inl bw)), (b2, .inl (cI, 14, .inl bd)), (qo, .inl (cJ, 1, .inr (.inl fo)))] sz)) 0 0 (va_A [(q0, .inr (8, [.ref qb, .ref qm, .ref qp, .ref qy, .ref qd, .ref qc, .ref qf, .ref qv, .int lr])), (qb, .inr (1, [.ref b1, .ref b2, .int (nI bn)])), (b1, .inl (cI, 64, .inl bw)), (b2, .inl (cI, 14, .inl bd)), (qo, .inl (cJ, 1, .inr (.inl fo)))] sz) := by
  refine va_MetW (cc := cL_digit) (maxL := 4) (ret := (some .int)) (hh := [(0, 9, 12, 13)]) (by decide) rfl ?_
  intro p e s m args below meth c s₁ B hml hv
  obtain ⟨rfl, hsz, hP, hK, hD0, hN⟩ := hv
  have hx := B.exec
  have hb := B.bytes
  have hr := B.returns
  have hts := atoms_spec (ws := wsL_digit) B.pre
  have hown : s.vm.findClass RL = some m.cls := findClass_of_methodNamed B.named
  have hlocks := B.notSynchronized
  subst hsz
  have hD := hD0.self (sz := s.heap.size)
  generalize hAe : va_A [(q0, .inr (8, [.ref qb, .ref qm, .ref qp, .ref qy, .ref qd, .ref qc, .ref qf, .ref qv, .int lr])), (qb, .inr (1, [.ref b1, .ref b2, .int (nI bn)])), (b1, .inl (cI, 64, .inl bw)), (b2, .inl (cI, 14, .inl bd)), (qo, .inl (cJ, 1, .inr (.inl fo)))] s.heap.size = A at hD ⊢
  have hA : ∀ q : Nat, s.heap.size ≤ q → A q := fun q h => by rw [← hAe]; exact Or.inr h
  have hS : va_S A s.heap s.heap [] := va_S.rf
  have hl := lv_entry ([.ref q0, .int k, .ref qo]) (n := 4) (Nat.le_of_ble_eq_true rfl)
  rw [lg_entry_eq]
  generalize (lg_sl ([.ref q0, .int k, .ref qo]) ++ List.replicate (4 - (lg_sl ([.ref q0, .int k, .ref qo])).length) Slot.unset).toArray = ls at hl ⊢
  have hl : lv_has ls 4 [(0, .ref q0), (1, .int k), (2, .ref qo)] := hl
  refine lv_aload_n hx hb dL_digit_0 rfl (lv_at hl 2 rfl) ?_
  refine lv_iconst (v := nI 0) hx hb dL_digit_1 (by decide) ?_
  refine lv_aload_n hx hb dL_digit_2 rfl (lv_at hl 0 rfl) ?_
  refine lv_iload_n hx hb dL_digit_3 rfl (lv_at hl 1 rfl) ?_
  refine rd_call (va_runV (As := [.int k]) (rest := [.int (nI 0), .ref qo]) ⟨hx, hb, hml, hown, hts⟩ (kX8_digitR l D cI cJ cZ q0 qb qm qp qy qd qc qf qv lr b1 b2 bw bd bn k hbn hm) (cwV 1 hts gL_digit_X8_digit rfl rfl rfl (by decide +kernel) ⟨Nat.le_of_ble_eq_true rfl, Nat.le_of_ble_eq_true rfl⟩) ⟨rP_blind, va_recv hK hP (ci := 8) (q0 := 0) rfl rfl, rP_pre (hP.sub [0, 1, 2, 3] rfl) hK hN⟩ rfl rfl hl.1 rfl (lv_room (Nat.le_of_ble_eq_true rfl)) dL_digit_4 ⟨Nat.zero_le _, Nat.zero_le _⟩) ?_
  refine lv_i2l hx hb dL_digit_7 rfl ?_
  refine na_last hx hb hK hP hD hS 4 1 rfl rfl (k := 0) (by decide) (by decide) dL_digit_8 (fun H locs hP hD hS => ?_)
  have hP : va_P D vwCl [(q0, .inr (8, [.ref qb, .ref qm, .ref qp, .ref qy, .ref qd, .ref qc, .ref qf, .ref qv, .int lr])), (qb, .inr (1, [.ref b1, .ref b2, .int (nI bn)])), (b1, .inl (cI, 64, .inl bw)), (b2, .inl (cI, 14, .inl bd)), (qo, .inl (cJ, 1, .inr (.inl (vp_updL fo 0 (FX0_digitAt bd bn k).toInt64))))] H := hP
  have hD : va_D A [(q0, .inr (8, [.ref qb, .ref qm, .ref qp, .ref qy, .ref qd, .ref qc, .ref qf, .ref qv, .int lr])), (qb, .inr (1, [.ref b1, .ref b2, .int (nI bn)])), (b1, .inl (cI, 64, .inl bw)), (b2, .inl (cI, 14, .inl bd)), (qo, .inl (cJ, 1, .inr (.inl (vp_updL fo 0 (FX0_digitAt bd bn k).toInt64))))] := hD
  refine lv_goto (tgt := 15) hx hb dL_digit_9 (by decide) ?_
  refine lv_iconst (v := 0) hx hb dL_digit_15 (by decide) ?_
  exact W.iret hx hb hr (fun t ht hW => ⟨rfl, by rw [ht]; exact hP, hD, hS.F ht⟩) hS.2.2 dL_digit_16
def uP (D : va_G) (T : List (ClassId × FieldType)) (av : List Value) (sz : Nat) (ws : va_W) : Array Value → State → Prop := fun v U => mP D T av sz ws v U ∧ ZT (va_A ws sz) U U.heap
theorem uP_blind {D : va_G} {T : List (ClassId × FieldType)} {av : List Value} {sz : Nat} {ws : va_W} : FrameBlind (uP D T av sz ws) := fun a U g mk q => ⟨mP_blind a U g mk q.1, ZT.moved (u := U) (U := U.calling g mk a) (Vm.Alike.refl U.vm) q.2⟩
theorem uP_pre {D : va_G} {T : List (ClassId × FieldType)} {av : List Value} {ws : va_W} {s : State} {H : Heap} {A : Nat → Prop} (hP : va_P D vwCl ws H) (hD : va_D A ws) (hK : va_K D vwCl T s) (hN : NW s) (hZ : ZT (va_A ws H.size) s H) : ∀ U : State, U.heap = H → s.WarmedH U.vm → uP D T av H.size ws av.toArray U :=
  fun U hU hW => ⟨mP_pre hP hD hK hN U hU hW, by rw [hU]; exact hZ.moved hW.alike⟩
theorem gL_dT : GoodIn wsL_dT wsX8_dT := fun w h => (List.mem_append.mp h).elim (fun h => ⟨List.mem_append_left _ (ggL_digit_X8_digit w h).1, (ggL_digit_X8_digit w h).2⟩) (fun h => ⟨List.mem_append_right _ h, (tT_good w h).2⟩)
set_option maxHeartbeats 4000000 in
set_option maxRecDepth 100000 in
theorem kL_digitT (l : Launch) (hnt : l.stackTraces = false) (D : va_G) (cI cJ cZ : ClassId) (q0 qb qm qp qy qd qc qf qv : Nat) (lr : Int32) (b1 b2 : Nat) (bw bd : Nat → Int32) (bn : Nat) (k : Int32) (qo : Nat) (fo : Nat → Int64) (sz : Nat) (hbn : bn ≤ 14) (hm : FX0_digitAt bd bn k = -1) : Met l yL_digit wsL_dT ({ frames := 8, cells := 1, slots := 6, locals := 122 }) (uP D (tz cI cJ cZ) [.ref q0, .int k, .ref qo] sz [(q0, .inr (8, [.ref qb, .ref qm, .ref qp, .ref qy, .ref qd, .ref qc, .ref qf, .ref qv, .int lr])), (qb, .inr (1, [.ref b1, .ref b2, .int (nI bn)])), (b1, .inl (cI, 64, .inl bw)), (b2, .inl (cI, 14, .inl bd)), (qo, .inl (cJ, 1, .inr (.inl fo)))]) (mQ D (some (.int 1)) [(q0, .inr (8, [.ref qb, .ref qm, .ref qp, .ref qy, .ref qd, .ref qc, .ref qf, .ref qv, .int lr])), (qb, .inr (1, [.ref b1, .ref b2, .int (nI bn)])), (b1, .inl (cI, 64, .inl bw)), (b2, .inl (cI, 14, .inl bd)), (qo, .inl (cJ, 1, .inr (.inl fo)))] (va_A [(q0, .inr (8, [.ref qb, .ref qm, .ref qp, .ref qy, .ref qd, .ref qc, .ref qf, .ref qv, .int lr])), (qb, .inr (1, [.ref b1, .ref b2, .int (nI bn)])), (b1, .inl (cI, 64, .inl bw)), (b2, .inl (cI, 14, .inl bd)), (qo, .inl (cJ, 1, .inr (.inl fo)))] sz)) 1 6 (va_A [(q0, .inr (8, [.ref qb, .ref qm, .ref qp, .ref qy, .ref qd, .ref qc, .ref qf, .ref qv, .int lr])), (qb, .inr (1, [.ref b1, .ref b2, .int (nI bn)])), (b1, .inl (cI, 64, .inl bw)), (b2, .inl (cI, 14, .inl bd)), (qo, .inl (cJ, 1, .inr (.inl fo)))] sz) := by
  refine va_MetW (cc := cL_digit) (maxL := 4) (ret := (some .int)) (hh := [(0, 9, 12, 13)]) (by decide) rfl ?_
  intro p e s m args below meth c s₁ B hml hv
  obtain ⟨⟨rfl, hsz, hP, hK, hD0, hN⟩, hZT⟩ := hv
  have hx := B.exec
  have hb := B.bytes
  have hr := B.returns
  have hts := atoms_spec (ws := wsL_dT) B.pre
  have hown : s.vm.findClass RL = some m.cls := findClass_of_methodNamed B.named
  have hlocks := B.notSynchronized
  rw [← hsz] at hZT
  subst hsz
  have hD := hD0.self (sz := s.heap.size)
  generalize hAe : va_A [(q0, .inr (8, [.ref qb, .ref qm, .ref qp, .ref qy, .ref qd, .ref qc, .ref qf, .ref qv, .int lr])), (qb, .inr (1, [.ref b1, .ref b2, .int (nI bn)])), (b1, .inl (cI, 64, .inl bw)), (b2, .inl (cI, 14, .inl bd)), (qo, .inl (cJ, 1, .inr (.inl fo)))] s.heap.size = A at hD hZT ⊢
  have hA : ∀ q : Nat, s.heap.size ≤ q → A q := fun q h => by rw [← hAe]; exact Or.inr h
  have hS : va_S A s.heap s.heap [] := va_S.rf
  have htsT : ∀ w ∈ tT, w.before _ s = true := fun w h => hts w (List.mem_append_right _ h)
  have hts8 : ∀ w ∈ wsL_digit, w.before _ s = true := fun w h => hts w (List.mem_append_left _ h)
  have htab : c.exceptionTable.toList = [⟨0, 9, 12, 13⟩] := by
    obtain ⟨m9, meth9, c9, hn9, h1, h2, -, -, h5, -⟩ := Cond.codeWith_spec (hts _ List.mem_cons_self)
    cases B.named.symm.trans hn9
    cases (Stand.of_body B).method.symm.trans h1
    cases (Stand.of_body B).code.symm.trans h2
    have h6 : tableOf [(0, 9, 12, 13)] = [⟨0, 9, 12, 13⟩] := rfl
    rw [← h6, ← h5, table_eq]
  have hl := lv_entry ([.ref q0, .int k, .ref qo]) (n := 4) (Nat.le_of_ble_eq_true rfl)
  rw [lg_entry_eq]
  generalize (lg_sl ([.ref q0, .int k, .ref qo]) ++ List.replicate (4 - (lg_sl ([.ref q0, .int k, .ref qo])).length) Slot.unset).toArray = ls at hl ⊢
  have hl : lv_has ls 4 [(0, .ref q0), (1, .int k), (2, .ref qo)] := hl
  refine lv_aload_n hx hb dL_digit_0 rfl (lv_at hl 2 rfl) ?_
  refine lv_iconst (v := nI 0) hx hb dL_digit_1 (by decide) ?_
  refine lv_aload_n hx hb dL_digit_2 rfl (lv_at hl 0 rfl) ?_
  refine lv_iload_n hx hb dL_digit_3 rfl (lv_at hl 1 rfl) ?_
  intro T hT X
  have hzT : ZT (fun _ => False) s T.heap := by rw [hT]; exact hZT.sub hS (fun _ h => h.elim)
  have hlen : ∀ sig, parseMethodDescriptor yX8_digit.desc = some sig → [Value.int k].length = sig.parameters.length := fun sig h => by
    have h2 : (parseMethodDescriptor yX8_digit.desc).map (fun d => d.parameters.length) = some 1 := by decide +kernel
    rw [h] at h2; exact (Option.some.inj h2).symm
  obtain ⟨cellB, hcB, hoB, hclB⟩ := va_recv hK hP (ci := 8) (q0 := 0) rfl rfl
  obtain ⟨T2, x, ce, X2, z1, z2, hce, c1, c2, c3, st⟩ := throwV X hx (own := RL) (C := RX8) (index := 7) (y := yX8_digit) (bytes := cX8_digit) (maxL := 3) (ret := some .int) (tX8_digit l hnt D cI cJ cZ q0 qb qm qp qy qd qc qf qv lr b1 b2 bw bd bn k hbn hm) tP_blind (Nat.le_of_ble_eq_true rfl) (Nat.le_of_ble_eq_true rfl) (Nat.le_of_ble_eq_true rfl) (Nat.le_of_ble_eq_true rfl) (pay_in hts gL_dT) hown (hts8 (.methodLink RL 7 yX8_digit) (by decide +kernel)) (hts8 (.instanceMethod yX8_digit) (by decide +kernel)) (hts8 (.selects RX8 yX8_digit yX8_digit) (by decide +kernel)) (hts8 (.code yX8_digit cX8_digit 3 (some .int)) (by decide +kernel)) (hts8 (.initialized RX8) (by decide +kernel)) ⟨by decide, by decide⟩ (by rw [hT]; exact hcB) hoB hclB (g := F0 m 4 ls [.int k, .ref q0, .int (nI 0), .ref qo]) rfl (by rw [hml]; exact hl.1) (argsL := [.int k]) (rest := [.int (nI 0), .ref qo]) hlen rfl (lv_room (Nat.le_of_ble_eq_true rfl)) (by rw [hb]; exact dL_digit_4) (fun vm₁ hW => ⟨rP_pre (hP.sub [0, 1, 2, 3] rfl) hK hN (T.setVm vm₁) hT hW, hzT.moved (U := T.setVm vm₁) hW.alike⟩)
  obtain ⟨vm2, X3, st2⟩ := catchCold X2 x (g := F0 m 4 ls [.int (nI 0), .ref qo]) rfl (own := RL) (name := RJx00060) hown htab (show covers ⟨0, 9, 12, 13⟩ 4 = true by decide) (by decide) (htsT _ clT) hce c3 c1 c2
  have hS2 : va_S A s.heap T2.heap [] := ⟨by rw [← hT]; exact z1, fun q h1 h2 => by rw [z2 q (by rw [hT]; exact h1), hT], fun _ h => absurd h List.not_mem_nil⟩
  have hP2 : va_P D vwCl [(q0, .inr (8, [.ref qb, .ref qm, .ref qp, .ref qy, .ref qd, .ref qc, .ref qf, .ref qv, .int lr])), (qb, .inr (1, [.ref b1, .ref b2, .int (nI bn)])), (b1, .inl (cI, 64, .inl bw)), (b2, .inl (cI, 14, .inl bd)), (qo, .inl (cJ, 1, .inr (.inl fo)))] T2.heap := fun j q hq => (hP j q hq).kept (by rw [z2 q.1 (by rw [hT]; exact (hP j q hq).lt), hT])
  have K12 : W p l e (headSpec wsL_dT ({ frames := 8, cells := 1, slots := 6, locals := 122 })).room s m ([.ref q0, .int k, .ref qo] : List Value).toArray below meth c T2.heap [] (0 + 1) (0 + 6) (MQ below (mQ D (some (.int 1)) [(q0, .inr (8, [.ref qb, .ref qm, .ref qp, .ref qy, .ref qd, .ref qc, .ref qf, .ref qv, .int lr])), (qb, .inr (1, [.ref b1, .ref b2, .int (nI bn)])), (b1, .inl (cI, 64, .inl bw)), (b2, .inl (cI, 14, .inl bd)), (qo, .inl (cJ, 1, .inr (.inl fo)))] A) ([.ref q0, .int k, .ref qo] : List Value).toArray s 1 6 A) (F0 m 12 ls [.ref x]) := by
    refine lv_astore_n (lv' := [(3, .ref x), (0, .ref q0), (1, .int k), (2, .ref qo)]) hx hb dL_digit_12 rfl hl (by decide) rfl (fun ls hl => ?_)
    refine lv_iconst (v := 1) hx hb dL_digit_13 (by decide) ?_
    exact W.iret hx hb hr (fun t ht hW => ⟨rfl, by rw [ht]; exact hP2, hD, hS2.F ht⟩) (fun q h => absurd h List.not_mem_nil) dL_digit_14
  obtain ⟨t, a1, b1⟩ := K12 (T2.setVm vm2) rfl X3
  exact ⟨t, st _ (st2 t a1), b1⟩
