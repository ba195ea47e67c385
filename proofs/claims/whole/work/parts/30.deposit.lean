def FX8_width (bw : Nat → Int32) (k : Int32) (w : Int32) : Int32 × (Nat → Int32) := ((FX0_setWidth bw k w).1, (FX0_setWidth bw k w).2)
theorem FX8_width_b (bw : Nat → Int32) (k : Int32) (w : Int32) : isB ((FX8_width bw k w).1) := by
  unfold FX8_width
  repeat' split
  all_goals first | exact isB_0 | exact isB_1 | exact FX0_setWidth_b _ _ _
set_option maxHeartbeats 4000000 in
set_option maxRecDepth 100000 in
theorem kX8_width (l : Launch) (D : va_G) (cI cJ cZ : ClassId) (q0 : Nat) (qb : Nat) (qm : Nat) (qp : Nat) (qy : Nat) (qd : Nat) (qc : Nat) (qf : Nat) (qv : Nat) (lr : Int32) (b1 : Nat) (b2 : Nat) (bw : Nat → Int32) (bd : Nat → Int32) (bn : Nat) (k : Int32) (w : Int32) (sz : Nat) (hbn : bn ≤ 14) : Met l yX8_width wsX8_width ({ frames := 2, cells := 0, slots := 0, locals := 43 }) (mP D (tz cI cJ cZ) [.ref q0, .int k, .int w] sz [(q0, .inr (8, [.ref qb, .ref qm, .ref qp, .ref qy, .ref qd, .ref qc, .ref qf, .ref qv, .int lr])), (qb, .inr (1, [.ref b1, .ref b2, .int (nI bn)])), (b1, .inl (cI, 64, .inl bw)), (b2, .inl (cI, 14, .inl bd))]) (mQ D (some (.int ((FX8_width bw k w).1))) [(q0, .inr (8, [.ref qb, .ref qm, .ref qp, .ref qy, .ref qd, .ref qc, .ref qf, .ref qv, .int lr])), (qb, .inr (1, [.ref b1, .ref b2, .int (nI bn)])), (b1, .inl (cI, 64, .inl ((FX8_width bw k w).2))), (b2, .inl (cI, 14, .inl bd))] (va_A [(q0, .inr (8, [.ref qb, .ref qm, .ref qp, .ref qy, .ref qd, .ref qc, .ref qf, .ref qv, .int lr])), (qb, .inr (1, [.ref b1, .ref b2, .int (nI bn)])), (b1, .inl (cI, 64, .inl bw)), (b2, .inl (cI, 14, .inl bd))] sz)) 0 0 (va_A [(q0, .inr (8, [.ref qb, .ref qm, .ref qp, .ref qy, .ref qd, .ref qc, .ref qf, .ref qv, .int lr])), (qb, .inr (1, [.ref b1, .ref b2, .int (nI bn)])), (b1, .inl (cI, 64, .inl bw)), (b2, .inl (cI, 14, .inl bd))] sz) := by
  refine Met.ofW (cc := cX8_width) (maxL := 3) (ret := (some .boolean)) (by decide) rfl ?_
  intro p e s m args below meth c s₁ B hml hv
  obtain ⟨rfl, hsz, hP, hK, hD0, hN⟩ := hv
  have hx := B.exec
  have hb := B.bytes
  have hr := B.returns
  have hts := atoms_spec (ws := wsX8_width) B.pre
  have hown : s.vm.findClass RX8 = some m.cls := findClass_of_methodNamed B.named
  have hlocks := B.notSynchronized
  have iw_8 : ∀ w ∈ u_ws RX8 TX8 9, w ∈ wsX8_width := by decide +kernel
  subst hsz
  have hD := hD0.self (sz := s.heap.size)
  generalize hE : FX8_width bw k w = R0
  generalize hAe : va_A [(q0, .inr (8, [.ref qb, .ref qm, .ref qp, .ref qy, .ref qd, .ref qc, .ref qf, .ref qv, .int lr])), (qb, .inr (1, [.ref b1, .ref b2, .int (nI bn)])), (b1, .inl (cI, 64, .inl bw)), (b2, .inl (cI, 14, .inl bd))] s.heap.size = A at hD ⊢
  have hA : ∀ q : Nat, s.heap.size ≤ q → A q := fun q h => by rw [← hAe]; exact Or.inr h
  have hS : va_S A s.heap s.heap [] := va_S.rf
  rw [FX8_width] at hE
  have hl := lv_entry ([.ref q0, .int k, .int w]) (n := 3) (Nat.le_of_ble_eq_true rfl)
  rw [lg_entry_eq]
  generalize (lg_sl ([.ref q0, .int k, .int w]) ++ List.replicate (3 - (lg_sl ([.ref q0, .int k, .int w])).length) Slot.unset).toArray = ls at hl ⊢
  have hl : lv_has ls 3 [(0, .ref q0), (1, .int k), (2, .int w)] := hl
  refine lv_aload_n hx hb dX8_width_0 rfl (lv_at hl 0 rfl) ?_
  refine va_get (D := D) (ci := 8) (v := .ref qb) (C := RX8) (T := TX8) (N := 9) hx hb hts iw_8 hown hK hP 0 rfl rfl 0 (by decide) (hts (.fieldLink RX8 10 "DepositCodes" "bars" "LDepositCodes$Bars;") (by decide +kernel)) (fun _ h9 => h9) rfl dX8_width_1 ?_
  refine lv_iload_n hx hb dX8_width_4 rfl (lv_at hl 1 rfl) ?_
  refine lv_iload_n hx hb dX8_width_5 rfl (lv_at hl 2 rfl) ?_
  refine mt_call0 (wr := [(q0, .inr (8, [.ref qb, .ref qm, .ref qp, .ref qy, .ref qd, .ref qc, .ref qf, .ref qv, .int lr]))]) (ws' := [(q0, .inr (8, [.ref qb, .ref qm, .ref qp, .ref qy, .ref qd, .ref qc, .ref qf, .ref qv, .int lr])), (qb, .inr (1, [.ref b1, .ref b2, .int (nI bn)])), (b1, .inl (cI, 64, .inl ((FX0_setWidth bw k w).2))), (b2, .inl (cI, 14, .inl bd))]) (st1 := [.int ((FX0_setWidth bw k w).1)]) (va_runV (As := [.int k, .int w]) (rest := []) ⟨hx, hb, hml, hown, hts⟩ (kX0_setWidth l D cI cJ cZ qb b1 b2 bw bd bn k w _) (cwV 2 hts gX8_width_X0_setWidth rfl rfl rfl (by decide +kernel) ⟨Nat.le_of_ble_eq_true rfl, Nat.le_of_ble_eq_true rfl⟩) ⟨mP_blind, va_recv hK hP (ci := 1) (q0 := 1) rfl rfl, mP_pre (hP.sub [1, 2, 3] rfl) (hD.sub [1, 2, 3] (by decide) rfl) hK hN⟩ rfl rfl hl.1 rfl (lv_room (Nat.le_of_ble_eq_true rfl)) dX8_width_6 ⟨Nat.zero_le _, Nat.zero_le _⟩) hP hD hS hA [1, 2, 3] [0] [0, 1, 2, 3] rfl rfl (by decide) (by decide) (by decide) rfl rfl (fun H locs hP hD hS => ?_)
  subst hE
  exact W.zret hx hb hr (isB_nar (FX0_setWidth_b _ _ _)) (fun t ht hW => ⟨rfl, by rw [ht]; exact hP, hD, hS.F ht⟩) hS.2.2 dX8_width_9
def FX8_read (bw : Nat → Int32) (bd : Nat → Int32) (bn : Nat) : Int32 × (Nat → Int32) × Nat := ((FX0_scan bw bd bn 0).1, (FX0_scan bw bd bn 0).2.1, (FX0_scan bw bd bn 0).2.2)
set_option maxHeartbeats 4000000 in
set_option maxRecDepth 100000 in
theorem kX8_read (l : Launch) (D : va_G) (cI cJ cZ : ClassId) (q0 : Nat) (qb : Nat) (qm : Nat) (qp : Nat) (qy : Nat) (qd : Nat) (qc : Nat) (qf : Nat) (qv : Nat) (lr : Int32) (b1 : Nat) (b2 : Nat) (bw : Nat → Int32) (bd : Nat → Int32) (bn : Nat) (sz : Nat) (hbn : bn ≤ 14) : Met l yX8_read wsX8_read ({ frames := 6, cells := 0, slots := 0, locals := 142 }) (mPz D (tz cI cJ cZ) [.ref q0] sz [(q0, .inr (8, [.ref qb, .ref qm, .ref qp, .ref qy, .ref qd, .ref qc, .ref qf, .ref qv, .int lr])), (qb, .inr (1, [.ref b1, .ref b2, .int (nI bn)])), (b1, .inl (cI, 64, .inl bw)), (b2, .inl (cI, 14, .inl bd))]) (mQ D (some (.int ((FX8_read bw bd bn).1))) [(q0, .inr (8, [.ref qb, .ref qm, .ref qp, .ref qy, .ref qd, .ref qc, .ref qf, .ref qv, .int lr])), (qb, .inr (1, [.ref b1, .ref b2, .int (nI ((FX8_read bw bd bn).2.2))])), (b1, .inl (cI, 64, .inl bw)), (b2, .inl (cI, 14, .inl ((FX8_read bw bd bn).2.1)))] (va_A [(q0, .inr (8, [.ref qb, .ref qm, .ref qp, .ref qy, .ref qd, .ref qc, .ref qf, .ref qv, .int lr])), (qb, .inr (1, [.ref b1, .ref b2, .int (nI bn)])), (b1, .inl (cI, 64, .inl bw)), (b2, .inl (cI, 14, .inl bd))] sz)) 0 0 (va_A [(q0, .inr (8, [.ref qb, .ref qm, .ref qp, .ref qy, .ref qd, .ref qc, .ref qf, .ref qv, .int lr])), (qb, .inr (1, [.ref b1, .ref b2, .int (nI bn)])), (b1, .inl (cI, 64, .inl bw)), (b2, .inl (cI, 14, .inl bd))] sz) := by
  refine Met.ofW (cc := cX8_read) (maxL := 1) (ret := (some .int)) (by decide) rfl ?_
  intro p e s m args below meth c s₁ B hml hv
  obtain ⟨⟨rfl, hsz, hP, hK, hD0, hN⟩, hZA⟩ := hv
  have hx := B.exec
  have hb := B.bytes
  have hr := B.returns
  have hts := atoms_spec (ws := wsX8_read) B.pre
  have hown : s.vm.findClass RX8 = some m.cls := findClass_of_methodNamed B.named
  have hlocks := B.notSynchronized
  have iw_8 : ∀ w ∈ u_ws RX8 TX8 9, w ∈ wsX8_read := by decide +kernel
  rw [← hsz] at hZA
  subst hsz
  have hD := hD0.self (sz := s.heap.size)
  generalize hE : FX8_read bw bd bn = R0
  generalize hAe : va_A [(q0, .inr (8, [.ref qb, .ref qm, .ref qp, .ref qy, .ref qd, .ref qc, .ref qf, .ref qv, .int lr])), (qb, .inr (1, [.ref b1, .ref b2, .int (nI bn)])), (b1, .inl (cI, 64, .inl bw)), (b2, .inl (cI, 14, .inl bd))] s.heap.size = A at hD hZA ⊢
  have hA : ∀ q : Nat, s.heap.size ≤ q → A q := fun q h => by rw [← hAe]; exact Or.inr h
  have hS : va_S A s.heap s.heap [] := va_S.rf
  rw [FX8_read] at hE
  have hl := lv_entry ([.ref q0]) (n := 1) (Nat.le_of_ble_eq_true rfl)
  rw [lg_entry_eq]
  generalize (lg_sl ([.ref q0]) ++ List.replicate (1 - (lg_sl ([.ref q0])).length) Slot.unset).toArray = ls at hl ⊢
  have hl : lv_has ls 1 [(0, .ref q0)] := hl
  refine lv_aload_n hx hb dX8_read_0 rfl (lv_at hl 0 rfl) ?_
  refine va_get (D := D) (ci := 8) (v := .ref qb) (C := RX8) (T := TX8) (N := 9) hx hb hts iw_8 hown hK hP 0 rfl rfl 0 (by decide) (hts (.fieldLink RX8 10 "DepositCodes" "bars" "LDepositCodes$Bars;") (by decide +kernel)) (fun _ h9 => h9) rfl dX8_read_1 ?_
  refine lv_iconst (v := 0) hx hb dX8_read_4 (by decide) ?_
  refine mt_call0 (wr := [(q0, .inr (8, [.ref qb, .ref qm, .ref qp, .ref qy, .ref qd, .ref qc, .ref qf, .ref qv, .int lr]))]) (ws' := [(q0, .inr (8, [.ref qb, .ref qm, .ref qp, .ref qy, .ref qd, .ref qc, .ref qf, .ref qv, .int lr])), (qb, .inr (1, [.ref b1, .ref b2, .int (nI ((FX0_scan bw bd bn 0).2.2))])), (b1, .inl (cI, 64, .inl bw)), (b2, .inl (cI, 14, .inl ((FX0_scan bw bd bn 0).2.1)))]) (st1 := [.int ((FX0_scan bw bd bn 0).1)]) (va_runV (As := [.int 0]) (rest := []) ⟨hx, hb, hml, hown, hts⟩ (kX0_scan l D cI cJ cZ qb b1 b2 bw bd bn 0 _) (cwV 1 hts gX8_read_X0_scan rfl rfl rfl (by decide +kernel) ⟨Nat.le_of_ble_eq_true rfl, Nat.le_of_ble_eq_true rfl⟩) ⟨mPz_blind, va_recv hK hP (ci := 1) (q0 := 1) rfl rfl, mPz_pre (hP.sub [1, 2, 3] rfl) (hD.sub [1, 2, 3] (by decide) rfl) hK hN (hZA.sub hS (va_free hD hS hA [1, 2, 3] rfl))⟩ rfl rfl hl.1 rfl (lv_room (Nat.le_of_ble_eq_true rfl)) dX8_read_5 ⟨Nat.zero_le _, Nat.zero_le _⟩) hP hD hS hA [1, 2, 3] [0] [0, 1, 2, 3] rfl rfl (by decide) (by decide) (by decide) rfl rfl (fun H locs hP hD hS => ?_)
  subst hE
  exact W.iret hx hb hr (fun t ht hW => ⟨rfl, by rw [ht]; exact hP, hD, hS.F ht⟩) hS.2.2 dX8_read_8
def FX8_back (bw : Nat → Int32) (bd : Nat → Int32) (bn : Nat) : Int32 × (Nat → Int32) × Nat := ((FX0_scan bw bd bn 1).1, (FX0_scan bw bd bn 1).2.1, (FX0_scan bw bd bn 1).2.2)
set_option maxHeartbeats 4000000 in
set_option maxRecDepth 100000 in
theorem kX8_back (l : Launch) (D : va_G) (cI cJ cZ : ClassId) (q0 : Nat) (qb : Nat) (qm : Nat) (qp : Nat) (qy : Nat) (qd : Nat) (qc : Nat) (qf : Nat) (qv : Nat) (lr : Int32) (b1 : Nat) (b2 : Nat) (bw : Nat → Int32) (bd : Nat → Int32) (bn : Nat) (sz : Nat) (hbn : bn ≤ 14) : Met l yX8_back wsX8_back ({ frames := 6, cells := 0, slots := 0, locals := 142 }) (mPz D (tz cI cJ cZ) [.ref q0] sz [(q0, .inr (8, [.ref qb, .ref qm, .ref qp, .ref qy, .ref qd, .ref qc, .ref qf, .ref qv, .int lr])), (qb, .inr (1, [.ref b1, .ref b2, .int (nI bn)])), (b1, .inl (cI, 64, .inl bw)), (b2, .inl (cI, 14, .inl bd))]) (mQ D (some (.int ((FX8_back bw bd bn).1))) [(q0, .inr (8, [.ref qb, .ref qm, .ref qp, .ref qy, .ref qd, .ref qc, .ref qf, .ref qv, .int lr])), (qb, .inr (1, [.ref b1, .ref b2, .int (nI ((FX8_back bw bd bn).2.2))])), (b1, .inl (cI, 64, .inl bw)), (b2, .inl (cI, 14, .inl ((FX8_back bw bd bn).2.1)))] (va_A [(q0, .inr (8, [.ref qb, .ref qm, .ref qp, .ref qy, .ref qd, .ref qc, .ref qf, .ref qv, .int lr])), (qb, .inr (1, [.ref b1, .ref b2, .int (nI bn)])), (b1, .inl (cI, 64, .inl bw)), (b2, .inl (cI, 14, .inl bd))] sz)) 0 0 (va_A [(q0, .inr (8, [.ref qb, .ref qm, .ref qp, .ref qy, .ref qd, .ref qc, .ref qf, .ref qv, .int lr])), (qb, .inr (1, [.ref b1, .ref b2, .int (nI bn)])), (b1, .inl (cI, 64, .inl bw)), (b2, .inl (cI, 14, .inl bd))] sz) := by
  refine Met.ofW (cc := cX8_back) (maxL := 1) (ret := (some .int)) (by decide) rfl ?_
  intro p e s m args below meth c s₁ B hml hv
  obtain ⟨⟨rfl, hsz, hP, hK, hD0, hN⟩, hZA⟩ := hv
  have hx := B.exec
  have hb := B.bytes
  have hr := B.returns
  have hts := atoms_spec (ws := wsX8_back) B.pre
  have hown : s.vm.findClass RX8 = some m.cls := findClass_of_methodNamed B.named
  have hlocks := B.notSynchronized
  have iw_8 : ∀ w ∈ u_ws RX8 TX8 9, w ∈ wsX8_back := by decide +kernel
  rw [← hsz] at hZA
  subst hsz
  have hD := hD0.self (sz := s.heap.size)
  generalize hE : FX8_back bw bd bn = R0
  generalize hAe : va_A [(q0, .inr (8, [.ref qb, .ref qm, .ref qp, .ref qy, .ref qd, .ref qc, .ref qf, .ref qv, .int lr])), (qb, .inr (1, [.ref b1, .ref b2, .int (nI bn)])), (b1, .inl (cI, 64, .inl bw)), (b2, .inl (cI, 14, .inl bd))] s.heap.size = A at hD hZA ⊢
  have hA : ∀ q : Nat, s.heap.size ≤ q → A q := fun q h => by rw [← hAe]; exact Or.inr h
  have hS : va_S A s.heap s.heap [] := va_S.rf
  rw [FX8_back] at hE
  have hl := lv_entry ([.ref q0]) (n := 1) (Nat.le_of_ble_eq_true rfl)
  rw [lg_entry_eq]
  generalize (lg_sl ([.ref q0]) ++ List.replicate (1 - (lg_sl ([.ref q0])).length) Slot.unset).toArray = ls at hl ⊢
  have hl : lv_has ls 1 [(0, .ref q0)] := hl
  refine lv_aload_n hx hb dX8_back_0 rfl (lv_at hl 0 rfl) ?_
  refine va_get (D := D) (ci := 8) (v := .ref qb) (C := RX8) (T := TX8) (N := 9) hx hb hts iw_8 hown hK hP 0 rfl rfl 0 (by decide) (hts (.fieldLink RX8 10 "DepositCodes" "bars" "LDepositCodes$Bars;") (by decide +kernel)) (fun _ h9 => h9) rfl dX8_back_1 ?_
  refine lv_iconst (v := 1) hx hb dX8_back_4 (by decide) ?_
  refine mt_call0 (wr := [(q0, .inr (8, [.ref qb, .ref qm, .ref qp, .ref qy, .ref qd, .ref qc, .ref qf, .ref qv, .int lr]))]) (ws' := [(q0, .inr (8, [.ref qb, .ref qm, .ref qp, .ref qy, .ref qd, .ref qc, .ref qf, .ref qv, .int lr])), (qb, .inr (1, [.ref b1, .ref b2, .int (nI ((FX0_scan bw bd bn 1).2.2))])), (b1, .inl (cI, 64, .inl bw)), (b2, .inl (cI, 14, .inl ((FX0_scan bw bd bn 1).2.1)))]) (st1 := [.int ((FX0_scan bw bd bn 1).1)]) (va_runV (As := [.int 1]) (rest := []) ⟨hx, hb, hml, hown, hts⟩ (kX0_scan l D cI cJ cZ qb b1 b2 bw bd bn 1 _) (cwV 1 hts gX8_back_X0_scan rfl rfl rfl (by decide +kernel) ⟨Nat.le_of_ble_eq_true rfl, Nat.le_of_ble_eq_true rfl⟩) ⟨mPz_blind, va_recv hK hP (ci := 1) (q0 := 1) rfl rfl, mPz_pre (hP.sub [1, 2, 3] rfl) (hD.sub [1, 2, 3] (by decide) rfl) hK hN (hZA.sub hS (va_free hD hS hA [1, 2, 3] rfl))⟩ rfl rfl hl.1 rfl (lv_room (Nat.le_of_ble_eq_true rfl)) dX8_back_5 ⟨Nat.zero_le _, Nat.zero_le _⟩) hP hD hS hA [1, 2, 3] [0] [0, 1, 2, 3] rfl rfl (by decide) (by decide) (by decide) rfl rfl (fun H locs hP hD hS => ?_)
  subst hE
  exact W.iret hx hb hr (fun t ht hW => ⟨rfl, by rw [ht]; exact hP, hD, hS.F ht⟩) hS.2.2 dX8_back_8
def FX8_check (kd : Int32) (v : Int64) : Int32 := if (FX5_isKind kd) = 0 then (-1) else (if (FX5_isNumber v) = 0 then (-1) else FX5_checkDigit kd v)
set_option maxHeartbeats 4000000 in
set_option maxRecDepth 100000 in
theorem kX8_check (l : Launch) (D : va_G) (cI cJ cZ : ClassId) (q0 : Nat) (qb : Nat) (qm : Nat) (qp : Nat) (qy : Nat) (qd : Nat) (qc : Nat) (qf : Nat) (qv : Nat) (lr : Int32) (kd : Int32) (v : Int64) : Met l yX8_check wsX8_check ({ frames := 2, cells := 0, slots := 0, locals := 48 }) (rP D (tz cI cJ cZ) [.ref q0, .int kd, .long v] [(q0, .inr (8, [.ref qb, .ref qm, .ref qp, .ref qy, .ref qd, .ref qc, .ref qf, .ref qv, .int lr]))]) (k2_QcV (.int (FX8_check kd v))) 0 0 (fun _ => False) := by
  refine Met.ofW (cc := cX8_check) (maxL := 4) (ret := (some .int)) (by decide) rfl ?_
  intro p e s m args below meth c s₁ B hml hv
  obtain ⟨rfl, hP, hK, hN⟩ := hv
  have hx := B.exec
  have hb := B.bytes
  have hr := B.returns
  have hts := atoms_spec (ws := wsX8_check) B.pre
  have hown : s.vm.findClass RX8 = some m.cls := findClass_of_methodNamed B.named
  have hlocks := B.notSynchronized
  generalize hE : FX8_check kd v = R0
  rw [FX8_check] at hE
  have hl := lv_entry ([.ref q0, .int kd, .long v]) (n := 4) (Nat.le_of_ble_eq_true rfl)
  rw [lg_entry_eq]
  generalize (lg_sl ([.ref q0, .int kd, .long v]) ++ List.replicate (4 - (lg_sl ([.ref q0, .int kd, .long v])).length) Slot.unset).toArray = ls at hl ⊢
  have hl : lv_has ls 4 [(0, .ref q0), (1, .int kd), (2, .long v)] := hl
  refine lv_iload_n hx hb dX8_check_0 rfl (lv_at hl 1 rfl) ?_
  refine rd_call (va_runS (As := [.int kd]) (rest := []) ⟨hx, hb, hml, hown, hts⟩ (kX5_isKind l D cI cJ cZ kd) (va_cwS 1 hts gX8_check_X5_isKind rfl rfl rfl (by decide +kernel) ⟨Nat.le_of_ble_eq_true rfl, Nat.le_of_ble_eq_true rfl⟩) ⟨rP_blind, rP_pre (va_P_nil) hK hN⟩ rfl rfl hl.1 rfl (lv_room (Nat.le_of_ble_eq_true rfl)) dX8_check_1 ⟨Nat.zero_le _, Nat.zero_le _⟩) ?_
  refine lv_if_eq (tgt := 14) hx hb dX8_check_4 (by decide) (fun c_1 => ?_) (fun c_1 => ?_)
  · rw [if_pos c_1] at hE
    refine lv_iconst (v := (-1)) hx hb dX8_check_14 (by decide) ?_
    exact W.iret hx hb hr (fun t ht hW => ⟨by rw [← hE], ht⟩) (fun q h => absurd h List.not_mem_nil) dX8_check_15
  · rw [if_neg c_1] at hE
    refine lv_lload_n hx hb dX8_check_7 rfl (lv_at hl 2 rfl) ?_
    refine rd_call (va_runS (As := [.long v]) (rest := []) ⟨hx, hb, hml, hown, hts⟩ (kX5_isNumber l D cI cJ cZ v) (va_cwS 1 hts gX8_check_X5_isNumber rfl rfl rfl (by decide +kernel) ⟨Nat.le_of_ble_eq_true rfl, Nat.le_of_ble_eq_true rfl⟩) ⟨rP_blind, rP_pre (va_P_nil) hK hN⟩ rfl rfl hl.1 rfl (lv_room (Nat.le_of_ble_eq_true rfl)) dX8_check_8 ⟨Nat.zero_le _, Nat.zero_le _⟩) ?_
    refine lv_if_ne (tgt := 16) hx hb dX8_check_11 (by decide) (fun c_2 => ?_) (fun c_2 => ?_)
    · rw [if_neg c_2] at hE
      refine lv_iload_n hx hb dX8_check_16 rfl (lv_at hl 1 rfl) ?_
      refine lv_lload_n hx hb dX8_check_17 rfl (lv_at hl 2 rfl) ?_
      refine rd_call (va_runS (As := [.int kd, .long v]) (rest := []) ⟨hx, hb, hml, hown, hts⟩ (kX5_checkDigit l D cI cJ cZ kd v) (va_cwS 2 hts gX8_check_X5_checkDigit rfl rfl rfl (by decide +kernel) ⟨Nat.le_of_ble_eq_true rfl, Nat.le_of_ble_eq_true rfl⟩) ⟨rP_blind, rP_pre (va_P_nil) hK hN⟩ rfl rfl hl.1 rfl (lv_room (Nat.le_of_ble_eq_true rfl)) dX8_check_18 ⟨Nat.zero_le _, Nat.zero_le _⟩) ?_
      exact W.iret hx hb hr (fun t ht hW => ⟨by rw [← hE], ht⟩) (fun q h => absurd h List.not_mem_nil) dX8_check_21
    · rw [if_pos c_2] at hE
      refine lv_iconst (v := (-1)) hx hb dX8_check_14 (by decide) ?_
      exact W.iret hx hb hr (fun t ht hW => ⟨by rw [← hE], ht⟩) (fun q h => absurd h List.not_mem_nil) dX8_check_15
def FX8_good (kd : Int32) (v : Int64) : Int32 := if (FX5_isKind kd) = 0 then 0 else (if (FX5_isNumber v) = 0 then 0 else (if (FX5_isGood kd v) = 0 then 0 else 1))
theorem FX8_good_b (kd : Int32) (v : Int64) : isB (FX8_good kd v) := by
  unfold FX8_good
  repeat' split
  all_goals first | exact isB_0 | exact isB_1
set_option maxHeartbeats 4000000 in
set_option maxRecDepth 100000 in
theorem kX8_good (l : Launch) (D : va_G) (cI cJ cZ : ClassId) (q0 : Nat) (qb : Nat) (qm : Nat) (qp : Nat) (qy : Nat) (qd : Nat) (qc : Nat) (qf : Nat) (qv : Nat) (lr : Int32) (kd : Int32) (v : Int64) : Met l yX8_good wsX8_good ({ frames := 3, cells := 0, slots := 0, locals := 70 }) (rP D (tz cI cJ cZ) [.ref q0, .int kd, .long v] [(q0, .inr (8, [.ref qb, .ref qm, .ref qp, .ref qy, .ref qd, .ref qc, .ref qf, .ref qv, .int lr]))]) (k2_QcV (.int (FX8_good kd v))) 0 0 (fun _ => False) := by
  refine Met.ofW (cc := cX8_good) (maxL := 4) (ret := (some .boolean)) (by decide) rfl ?_
  intro p e s m args below meth c s₁ B hml hv
  obtain ⟨rfl, hP, hK, hN⟩ := hv
  have hx := B.exec
  have hb := B.bytes
  have hr := B.returns
  have hts := atoms_spec (ws := wsX8_good) B.pre
  have hown : s.vm.findClass RX8 = some m.cls := findClass_of_methodNamed B.named
  have hlocks := B.notSynchronized
  generalize hE : FX8_good kd v = R0
  rw [FX8_good] at hE
  have hl := lv_entry ([.ref q0, .int kd, .long v]) (n := 4) (Nat.le_of_ble_eq_true rfl)
  rw [lg_entry_eq]
  generalize (lg_sl ([.ref q0, .int kd, .long v]) ++ List.replicate (4 - (lg_sl ([.ref q0, .int kd, .long v])).length) Slot.unset).toArray = ls at hl ⊢
  have hl : lv_has ls 4 [(0, .ref q0), (1, .int kd), (2, .long v)] := hl
  refine lv_iload_n hx hb dX8_good_0 rfl (lv_at hl 1 rfl) ?_
  refine rd_call (va_runS (As := [.int kd]) (rest := []) ⟨hx, hb, hml, hown, hts⟩ (kX5_isKind l D cI cJ cZ kd) (va_cwS 1 hts gX8_good_X5_isKind rfl rfl rfl (by decide +kernel) ⟨Nat.le_of_ble_eq_true rfl, Nat.le_of_ble_eq_true rfl⟩) ⟨rP_blind, rP_pre (va_P_nil) hK hN⟩ rfl rfl hl.1 rfl (lv_room (Nat.le_of_ble_eq_true rfl)) dX8_good_1 ⟨Nat.zero_le _, Nat.zero_le _⟩) ?_
  refine lv_if_eq (tgt := 26) hx hb dX8_good_4 (by decide) (fun c_1 => ?_) (fun c_1 => ?_)
  · rw [if_pos c_1] at hE
    refine lv_iconst (v := 0) hx hb dX8_good_26 (by decide) ?_
    exact W.zret hx hb hr narrow_b0 (fun t ht hW => ⟨by rw [← hE], ht⟩) (fun q h => absurd h List.not_mem_nil) dX8_good_27
  · rw [if_neg c_1] at hE
    refine lv_lload_n hx hb dX8_good_7 rfl (lv_at hl 2 rfl) ?_
    refine rd_call (va_runS (As := [.long v]) (rest := []) ⟨hx, hb, hml, hown, hts⟩ (kX5_isNumber l D cI cJ cZ v) (va_cwS 1 hts gX8_good_X5_isNumber rfl rfl rfl (by decide +kernel) ⟨Nat.le_of_ble_eq_true rfl, Nat.le_of_ble_eq_true rfl⟩) ⟨rP_blind, rP_pre (va_P_nil) hK hN⟩ rfl rfl hl.1 rfl (lv_room (Nat.le_of_ble_eq_true rfl)) dX8_good_8 ⟨Nat.zero_le _, Nat.zero_le _⟩) ?_
    refine lv_if_eq (tgt := 26) hx hb dX8_good_11 (by decide) (fun c_2 => ?_) (fun c_2 => ?_)
    · rw [if_pos c_2] at hE
      refine lv_iconst (v := 0) hx hb dX8_good_26 (by decide) ?_
      exact W.zret hx hb hr narrow_b0 (fun t ht hW => ⟨by rw [← hE], ht⟩) (fun q h => absurd h List.not_mem_nil) dX8_good_27
    · rw [if_neg c_2] at hE
      refine lv_iload_n hx hb dX8_good_14 rfl (lv_at hl 1 rfl) ?_
      refine lv_lload_n hx hb dX8_good_15 rfl (lv_at hl 2 rfl) ?_
      refine rd_call (va_runS (As := [.int kd, .long v]) (rest := []) ⟨hx, hb, hml, hown, hts⟩ (kX5_isGood l D cI cJ cZ kd v) (va_cwS 2 hts gX8_good_X5_isGood rfl rfl rfl (by decide +kernel) ⟨Nat.le_of_ble_eq_true rfl, Nat.le_of_ble_eq_true rfl⟩) ⟨rP_blind, rP_pre (va_P_nil) hK hN⟩ rfl rfl hl.1 rfl (lv_room (Nat.le_of_ble_eq_true rfl)) dX8_good_16 ⟨Nat.zero_le _, Nat.zero_le _⟩) ?_
      refine lv_if_eq (tgt := 26) hx hb dX8_good_19 (by decide) (fun c_3 => ?_) (fun c_3 => ?_)
      · rw [if_pos c_3] at hE
        refine lv_iconst (v := 0) hx hb dX8_good_26 (by decide) ?_
        exact W.zret hx hb hr narrow_b0 (fun t ht hW => ⟨by rw [← hE], ht⟩) (fun q h => absurd h List.not_mem_nil) dX8_good_27
      · rw [if_neg c_3] at hE
        refine lv_iconst (v := 1) hx hb dX8_good_22 (by decide) ?_
        refine lv_goto (tgt := 27) hx hb dX8_good_23 (by decide) ?_
        exact W.zret hx hb hr narrow_b1 (fun t ht hW => ⟨by rw [← hE], ht⟩) (fun q h => absurd h List.not_mem_nil) dX8_good_27
def FX8_mark (v : Int64) (ky : Int64) (sw : Int64) : Int32 := if (FX5_isNumber v) = 0 then 0 else (if (FX5_isNumber ky) = 0 then 0 else (if (FX5_isNumber sw) = 0 then 0 else (if (lg_cmp sw ((((v - v / 99991 * 99991) + (7 * (ky - ky / 99991 * 99991))) * (((v - v / 99991 * 99991) + (13 * (ky - ky / 99991 * 99991))) + 1)) - (((v - v / 99991 * 99991) + (7 * (ky - ky / 99991 * 99991))) * (((v - v / 99991 * 99991) + (13 * (ky - ky / 99991 * 99991))) + 1)) / 10000 * 10000)) = 0 then 1 else 0)))
theorem FX8_mark_b (v : Int64) (ky : Int64) (sw : Int64) : isB (FX8_mark v ky sw) := by
  unfold FX8_mark
  repeat' split
  all_goals first | exact isB_0 | exact isB_1
set_option maxHeartbeats 4000000 in
set_option maxRecDepth 100000 in
theorem kX8_mark (l : Launch) (D : va_G) (cI cJ cZ : ClassId) (q0 : Nat) (qb : Nat) (qm : Nat) (qp : Nat) (qy : Nat) (qd : Nat) (qc : Nat) (qf : Nat) (qv : Nat) (lr : Int32) (v : Int64) (ky : Int64) (sw : Int64) : Met l yX8_mark wsX8_mark ({ frames := 1, cells := 0, slots := 0, locals := 21 }) (rP D (tz cI cJ cZ) [.ref q0, .long v, .long ky, .long sw] [(q0, .inr (8, [.ref qb, .ref qm, .ref qp, .ref qy, .ref qd, .ref qc, .ref qf, .ref qv, .int lr]))]) (k2_QcV (.int (FX8_mark v ky sw))) 0 0 (fun _ => False) := by
  refine Met.ofW (cc := cX8_mark) (maxL := 11) (ret := (some .boolean)) (by decide) rfl ?_
  intro p e s m args below meth c s₁ B hml hv
  obtain ⟨rfl, hP, hK, hN⟩ := hv
  have hx := B.exec
  have hb := B.bytes
  have hr := B.returns
  have hts := atoms_spec (ws := wsX8_mark) B.pre
  have hown : s.vm.findClass RX8 = some m.cls := findClass_of_methodNamed B.named
  have hlocks := B.notSynchronized
  generalize hE : FX8_mark v ky sw = R0
  rw [FX8_mark] at hE
  have hl := lv_entry ([.ref q0, .long v, .long ky, .long sw]) (n := 11) (Nat.le_of_ble_eq_true rfl)
  rw [lg_entry_eq]
  generalize (lg_sl ([.ref q0, .long v, .long ky, .long sw]) ++ List.replicate (11 - (lg_sl ([.ref q0, .long v, .long ky, .long sw])).length) Slot.unset).toArray = ls at hl ⊢
  have hl : lv_has ls 11 [(0, .ref q0), (1, .long v), (3, .long ky), (5, .long sw)] := hl
  refine lv_lload_n hx hb dX8_mark_0 rfl (lv_at hl 1 rfl) ?_
  refine rd_call (va_runS (As := [.long v]) (rest := []) ⟨hx, hb, hml, hown, hts⟩ (kX5_isNumber l D cI cJ cZ v) (va_cwS 1 hts gX8_mark_X5_isNumber rfl rfl rfl (by decide +kernel) ⟨Nat.le_of_ble_eq_true rfl, Nat.le_of_ble_eq_true rfl⟩) ⟨rP_blind, rP_pre (va_P_nil) hK hN⟩ rfl rfl hl.1 rfl (lv_room (Nat.le_of_ble_eq_true rfl)) dX8_mark_1 ⟨Nat.zero_le _, Nat.zero_le _⟩) ?_
  refine lv_if_eq (tgt := 22) hx hb dX8_mark_4 (by decide) (fun c_1 => ?_) (fun c_1 => ?_)
  · rw [if_pos c_1] at hE
    refine lv_iconst (v := 0) hx hb dX8_mark_22 (by decide) ?_
    exact W.zret hx hb hr narrow_b0 (fun t ht hW => ⟨by rw [← hE], ht⟩) (fun q h => absurd h List.not_mem_nil) dX8_mark_23
  · rw [if_neg c_1] at hE
    refine lv_lload_n hx hb dX8_mark_7 rfl (lv_at hl 2 rfl) ?_
    refine rd_call (va_runS (As := [.long ky]) (rest := []) ⟨hx, hb, hml, hown, hts⟩ (kX5_isNumber l D cI cJ cZ ky) (va_cwS 1 hts gX8_mark_X5_isNumber rfl rfl rfl (by decide +kernel) ⟨Nat.le_of_ble_eq_true rfl, Nat.le_of_ble_eq_true rfl⟩) ⟨rP_blind, rP_pre (va_P_nil) hK hN⟩ rfl rfl hl.1 rfl (lv_room (Nat.le_of_ble_eq_true rfl)) dX8_mark_8 ⟨Nat.zero_le _, Nat.zero_le _⟩) ?_
    refine lv_if_eq (tgt := 22) hx hb dX8_mark_11 (by decide) (fun c_2 => ?_) (fun c_2 => ?_)
    · rw [if_pos c_2] at hE
      refine lv_iconst (v := 0) hx hb dX8_mark_22 (by decide) ?_
      exact W.zret hx hb hr narrow_b0 (fun t ht hW => ⟨by rw [← hE], ht⟩) (fun q h => absurd h List.not_mem_nil) dX8_mark_23
    · rw [if_neg c_2] at hE
      refine lv_lload hx hb dX8_mark_14 (lv_at hl 3 rfl) ?_
      refine rd_call (va_runS (As := [.long sw]) (rest := []) ⟨hx, hb, hml, hown, hts⟩ (kX5_isNumber l D cI cJ cZ sw) (va_cwS 1 hts gX8_mark_X5_isNumber rfl rfl rfl (by decide +kernel) ⟨Nat.le_of_ble_eq_true rfl, Nat.le_of_ble_eq_true rfl⟩) ⟨rP_blind, rP_pre (va_P_nil) hK hN⟩ rfl rfl hl.1 rfl (lv_room (Nat.le_of_ble_eq_true rfl)) dX8_mark_16 ⟨Nat.zero_le _, Nat.zero_le _⟩) ?_
      refine lv_if_ne (tgt := 24) hx hb dX8_mark_19 (by decide) (fun c_3 => ?_) (fun c_3 => ?_)
      · rw [if_neg c_3] at hE
        refine lv_lload_n hx hb dX8_mark_24 rfl (lv_at hl 1 rfl) ?_
        refine lv_ldc2 hx hb hown (hts (.constantLong RX8 162 99991) (by decide +kernel)) dX8_mark_25 ?_
        refine lv_lrem hx hb dX8_mark_28 (by decide) ?_
        refine lv_lstore (lv' := [(7, .long (v - v / 99991 * 99991)), (0, .ref q0), (1, .long v), (3, .long ky), (5, .long sw)]) hx hb dX8_mark_29 hl (by decide) rfl (fun ls hl => ?_)
        refine lv_lload_n hx hb dX8_mark_31 rfl (lv_at hl 3 rfl) ?_
        refine lv_ldc2 hx hb hown (hts (.constantLong RX8 162 99991) (by decide +kernel)) dX8_mark_32 ?_
        refine lv_lrem hx hb dX8_mark_35 (by decide) ?_
        refine lv_lstore (lv' := [(9, .long (ky - ky / 99991 * 99991)), (7, .long (v - v / 99991 * 99991)), (0, .ref q0), (1, .long v), (3, .long ky), (5, .long sw)]) hx hb dX8_mark_36 hl (by decide) rfl (fun ls hl => ?_)
        refine lv_lload hx hb dX8_mark_38 (lv_at hl 5 rfl) ?_
        refine lv_lload hx hb dX8_mark_40 (lv_at hl 1 rfl) ?_
        refine lv_ldc2 hx hb hown (hts (.constantLong RX8 164 7) (by decide +kernel)) dX8_mark_42 ?_
        refine lv_lload hx hb dX8_mark_45 (lv_at hl 0 rfl) ?_
        refine lv_lmul hx hb dX8_mark_47 ?_
        refine lv_ladd hx hb dX8_mark_48 ?_
        refine lv_lload hx hb dX8_mark_49 (lv_at hl 1 rfl) ?_
        refine lv_ldc2 hx hb hown (hts (.constantLong RX8 166 13) (by decide +kernel)) dX8_mark_51 ?_
        refine lv_lload hx hb dX8_mark_54 (lv_at hl 0 rfl) ?_
        refine lv_lmul hx hb dX8_mark_56 ?_
        refine lv_ladd hx hb dX8_mark_57 ?_
        refine lv_lconst (v := 1) hx hb dX8_mark_58 (by decide) ?_
        refine lv_ladd hx hb dX8_mark_59 ?_
        refine lv_lmul hx hb dX8_mark_60 ?_
        refine lv_ldc2 hx hb hown (hts (.constantLong RX8 168 10000) (by decide +kernel)) dX8_mark_61 ?_
        refine lv_lrem hx hb dX8_mark_64 (by decide) ?_
        refine W.lcmp hx hb dX8_mark_65 ?_
        refine lv_if_ne (tgt := 73) hx hb dX8_mark_66 (by decide) (fun c_4 => ?_) (fun c_4 => ?_)
        · rw [if_neg c_4] at hE
          refine lv_iconst (v := 0) hx hb dX8_mark_73 (by decide) ?_
          exact W.zret hx hb hr narrow_b0 (fun t ht hW => ⟨by rw [← hE], ht⟩) (fun q h => absurd h List.not_mem_nil) dX8_mark_74
        · rw [if_pos c_4] at hE
          refine lv_iconst (v := 1) hx hb dX8_mark_69 (by decide) ?_
          refine lv_goto (tgt := 74) hx hb dX8_mark_70 (by decide) ?_
          exact W.zret hx hb hr narrow_b1 (fun t ht hW => ⟨by rw [← hE], ht⟩) (fun q h => absurd h List.not_mem_nil) dX8_mark_74
      · rw [if_pos c_3] at hE
        refine lv_iconst (v := 0) hx hb dX8_mark_22 (by decide) ?_
        exact W.zret hx hb hr narrow_b0 (fun t ht hW => ⟨by rw [← hE], ht⟩) (fun q h => absurd h List.not_mem_nil) dX8_mark_23
def FX8_machine (mp : Nat → Int32) (ms : Nat → Int32) (mn : Nat) : Int32 × (Nat → Int32) × (Nat → Int32) × Nat := ((FX4_addMachine mp ms mn).1, (FX4_addMachine mp ms mn).2.1, (FX4_addMachine mp ms mn).2.2.1, (FX4_addMachine mp ms mn).2.2.2)
set_option maxHeartbeats 4000000 in
set_option maxRecDepth 100000 in
theorem kX8_machine (l : Launch) (D : va_G) (cI cJ cZ : ClassId) (q0 : Nat) (qb : Nat) (qm : Nat) (qp : Nat) (qy : Nat) (qd : Nat) (qc : Nat) (qf : Nat) (qv : Nat) (lr : Int32) (m1 : Nat) (m2 : Nat) (m3 : Nat) (m4 : Nat) (mf : Nat → Int32) (mp : Nat → Int32) (ms : Nat → Int32) (mu : Nat → Int32) (mn : Nat) (sz : Nat) (hmn : mn ≤ 6) : Met l yX8_machine wsX8_machine ({ frames := 1, cells := 0, slots := 0, locals := 21 }) (mP D (tz cI cJ cZ) [.ref q0] sz [(q0, .inr (8, [.ref qb, .ref qm, .ref qp, .ref qy, .ref qd, .ref qc, .ref qf, .ref qv, .int lr])), (qm, .inr (5, [.ref m1, .ref m2, .ref m3, .ref m4, .int (nI mn)])), (m1, .inl (cZ, 6, .inl mf)), (m2, .inl (cZ, 6, .inl mp)), (m3, .inl (cI, 6, .inl ms)), (m4, .inl (cI, 6, .inl mu))]) (mQ D (some (.int ((FX8_machine mp ms mn).1))) [(q0, .inr (8, [.ref qb, .ref qm, .ref qp, .ref qy, .ref qd, .ref qc, .ref qf, .ref qv, .int lr])), (qm, .inr (5, [.ref m1, .ref m2, .ref m3, .ref m4, .int (nI ((FX8_machine mp ms mn).2.2.2))])), (m1, .inl (cZ, 6, .inl mf)), (m2, .inl (cZ, 6, .inl ((FX8_machine mp ms mn).2.1))), (m3, .inl (cI, 6, .inl ((FX8_machine mp ms mn).2.2.1))), (m4, .inl (cI, 6, .inl mu))] (va_A [(q0, .inr (8, [.ref qb, .ref qm, .ref qp, .ref qy, .ref qd, .ref qc, .ref qf, .ref qv, .int lr])), (qm, .inr (5, [.ref m1, .ref m2, .ref m3, .ref m4, .int (nI mn)])), (m1, .inl (cZ, 6, .inl mf)), (m2, .inl (cZ, 6, .inl mp)), (m3, .inl (cI, 6, .inl ms)), (m4, .inl (cI, 6, .inl mu))] sz)) 0 0 (va_A [(q0, .inr (8, [.ref qb, .ref qm, .ref qp, .ref qy, .ref qd, .ref qc, .ref qf, .ref qv, .int lr])), (qm, .inr (5, [.ref m1, .ref m2, .ref m3, .ref m4, .int (nI mn)])), (m1, .inl (cZ, 6, .inl mf)), (m2, .inl (cZ, 6, .inl mp)), (m3, .inl (cI, 6, .inl ms)), (m4, .inl (cI, 6, .inl mu))] sz) := by
  refine Met.ofW (cc := cX8_machine) (maxL := 1) (ret := (some .int)) (by decide) rfl ?_
  intro p e s m args below meth c s₁ B hml hv
  obtain ⟨rfl, hsz, hP, hK, hD0, hN⟩ := hv
  have hx := B.exec
  have hb := B.bytes
  have hr := B.returns
  have hts := atoms_spec (ws := wsX8_machine) B.pre
  have hown : s.vm.findClass RX8 = some m.cls := findClass_of_methodNamed B.named
  have hlocks := B.notSynchronized
  have iw_8 : ∀ w ∈ u_ws RX8 TX8 9, w ∈ wsX8_machine := by decide +kernel
  subst hsz
  have hD := hD0.self (sz := s.heap.size)
  generalize hE : FX8_machine mp ms mn = R0
  generalize hAe : va_A [(q0, .inr (8, [.ref qb, .ref qm, .ref qp, .ref qy, .ref qd, .ref qc, .ref qf, .ref qv, .int lr])), (qm, .inr (5, [.ref m1, .ref m2, .ref m3, .ref m4, .int (nI mn)])), (m1, .inl (cZ, 6, .inl mf)), (m2, .inl (cZ, 6, .inl mp)), (m3, .inl (cI, 6, .inl ms)), (m4, .inl (cI, 6, .inl mu))] s.heap.size = A at hD ⊢
  have hA : ∀ q : Nat, s.heap.size ≤ q → A q := fun q h => by rw [← hAe]; exact Or.inr h
  have hS : va_S A s.heap s.heap [] := va_S.rf
  rw [FX8_machine] at hE
  have hl := lv_entry ([.ref q0]) (n := 1) (Nat.le_of_ble_eq_true rfl)
  rw [lg_entry_eq]
  generalize (lg_sl ([.ref q0]) ++ List.replicate (1 - (lg_sl ([.ref q0])).length) Slot.unset).toArray = ls at hl ⊢
  have hl : lv_has ls 1 [(0, .ref q0)] := hl
  refine lv_aload_n hx hb dX8_machine_0 rfl (lv_at hl 0 rfl) ?_
  refine va_get (D := D) (ci := 8) (v := .ref qm) (C := RX8) (T := TX8) (N := 9) hx hb hts iw_8 hown hK hP 0 rfl rfl 1 (by decide) (hts (.fieldLink RX8 19 "DepositCodes" "machines" "LDepositCodes$Machines;") (by decide +kernel)) (fun _ h9 => h9) rfl dX8_machine_1 ?_
  refine mt_call0 (wr := [(q0, .inr (8, [.ref qb, .ref qm, .ref qp, .ref qy, .ref qd, .ref qc, .ref qf, .ref qv, .int lr]))]) (ws' := [(q0, .inr (8, [.ref qb, .ref qm, .ref qp, .ref qy, .ref qd, .ref qc, .ref qf, .ref qv, .int lr])), (qm, .inr (5, [.ref m1, .ref m2, .ref m3, .ref m4, .int (nI ((FX4_addMachine mp ms mn).2.2.2))])), (m1, .inl (cZ, 6, .inl mf)), (m2, .inl (cZ, 6, .inl ((FX4_addMachine mp ms mn).2.1))), (m3, .inl (cI, 6, .inl ((FX4_addMachine mp ms mn).2.2.1))), (m4, .inl (cI, 6, .inl mu))]) (st1 := [.int ((FX4_addMachine mp ms mn).1)]) (va_runV (As := []) (rest := []) ⟨hx, hb, hml, hown, hts⟩ (kX4_addMachine l D cI cJ cZ qm m1 m2 m3 m4 mf mp ms mu mn _ (by first | assumption | omega)) (cwV 0 hts gX8_machine_X4_addMachine rfl rfl rfl (by decide +kernel) ⟨Nat.le_of_ble_eq_true rfl, Nat.le_of_ble_eq_true rfl⟩) ⟨mP_blind, va_recv hK hP (ci := 5) (q0 := 1) rfl rfl, mP_pre (hP.sub [1, 2, 3, 4, 5] rfl) (hD.sub [1, 2, 3, 4, 5] (by decide) rfl) hK hN⟩ rfl rfl hl.1 rfl (lv_room (Nat.le_of_ble_eq_true rfl)) dX8_machine_4 ⟨Nat.zero_le _, Nat.zero_le _⟩) hP hD hS hA [1, 2, 3, 4, 5] [0] [0, 1, 2, 3, 4, 5] rfl rfl (by decide) (by decide) (by decide) rfl rfl (fun H locs hP hD hS => ?_)
  subst hE
  exact W.iret hx hb hr (fun t ht hW => ⟨rfl, by rw [ht]; exact hP, hD, hS.F ht⟩) hS.2.2 dX8_machine_7
def FX8_shape (pt : Nat → Int32) (pl : Nat → Int32) (pm : Nat → Int32) (k : Int32) (le : Int32) (mo : Int32) : Int32 × (Nat → Int32) × (Nat → Int32) × (Nat → Int32) := ((FX7_tell pt pl pm k le mo).1, (FX7_tell pt pl pm k le mo).2.1, (FX7_tell pt pl pm k le mo).2.2.1, (FX7_tell pt pl pm k le mo).2.2.2)
theorem FX8_shape_b (pt : Nat → Int32) (pl : Nat → Int32) (pm : Nat → Int32) (k : Int32) (le : Int32) (mo : Int32) : isB ((FX8_shape pt pl pm k le mo).1) := by
  unfold FX8_shape
  repeat' split
  all_goals first | exact isB_0 | exact isB_1 | exact FX7_tell_b _ _ _ _ _ _
set_option maxHeartbeats 4000000 in
set_option maxRecDepth 100000 in
theorem kX8_shape (l : Launch) (D : va_G) (cI cJ cZ : ClassId) (q0 : Nat) (qb : Nat) (qm : Nat) (qp : Nat) (qy : Nat) (qd : Nat) (qc : Nat) (qf : Nat) (qv : Nat) (lr : Int32) (p1 : Nat) (p2 : Nat) (p3 : Nat) (pt : Nat → Int32) (pl : Nat → Int32) (pm : Nat → Int32) (k : Int32) (le : Int32) (mo : Int32) (sz : Nat) : Met l yX8_shape wsX8_shape ({ frames := 3, cells := 0, slots := 0, locals := 65 }) (mP D (tz cI cJ cZ) [.ref q0, .int k, .int le, .int mo] sz [(q0, .inr (8, [.ref qb, .ref qm, .ref qp, .ref qy, .ref qd, .ref qc, .ref qf, .ref qv, .int lr])), (qp, .inr (7, [.ref p1, .ref p2, .ref p3])), (p1, .inl (cZ, 8, .inl pt)), (p2, .inl (cI, 8, .inl pl)), (p3, .inl (cI, 8, .inl pm))]) (mQ D (some (.int ((FX8_shape pt pl pm k le mo).1))) [(q0, .inr (8, [.ref qb, .ref qm, .ref qp, .ref qy, .ref qd, .ref qc, .ref qf, .ref qv, .int lr])), (qp, .inr (7, [.ref p1, .ref p2, .ref p3])), (p1, .inl (cZ, 8, .inl ((FX8_shape pt pl pm k le mo).2.1))), (p2, .inl (cI, 8, .inl ((FX8_shape pt pl pm k le mo).2.2.1))), (p3, .inl (cI, 8, .inl ((FX8_shape pt pl pm k le mo).2.2.2)))] (va_A [(q0, .inr (8, [.ref qb, .ref qm, .ref qp, .ref qy, .ref qd, .ref qc, .ref qf, .ref qv, .int lr])), (qp, .inr (7, [.ref p1, .ref p2, .ref p3])), (p1, .inl (cZ, 8, .inl pt)), (p2, .inl (cI, 8, .inl pl)), (p3, .inl (cI, 8, .inl pm))] sz)) 0 0 (va_A [(q0, .inr (8, [.ref qb, .ref qm, .ref qp, .ref qy, .ref qd, .ref qc, .ref qf, .ref qv, .int lr])), (qp, .inr (7, [.ref p1, .ref p2, .ref p3])), (p1, .inl (cZ, 8, .inl pt)), (p2, .inl (cI, 8, .inl pl)), (p3, .inl (cI, 8, .inl pm))] sz) := by
  refine Met.ofW (cc := cX8_shape) (maxL := 4) (ret := (some .boolean)) (by decide) rfl ?_
  intro p e s m args below meth c s₁ B hml hv
  obtain ⟨rfl, hsz, hP, hK, hD0, hN⟩ := hv
  have hx := B.exec
  have hb := B.bytes
  have hr := B.returns
  have hts := atoms_spec (ws := wsX8_shape) B.pre
  have hown : s.vm.findClass RX8 = some m.cls := findClass_of_methodNamed B.named
  have hlocks := B.notSynchronized
  have iw_8 : ∀ w ∈ u_ws RX8 TX8 9, w ∈ wsX8_shape := by decide +kernel
  subst hsz
  have hD := hD0.self (sz := s.heap.size)
  generalize hE : FX8_shape pt pl pm k le mo = R0
  generalize hAe : va_A [(q0, .inr (8, [.ref qb, .ref qm, .ref qp, .ref qy, .ref qd, .ref qc, .ref qf, .ref qv, .int lr])), (qp, .inr (7, [.ref p1, .ref p2, .ref p3])), (p1, .inl (cZ, 8, .inl pt)), (p2, .inl (cI, 8, .inl pl)), (p3, .inl (cI, 8, .inl pm))] s.heap.size = A at hD ⊢
  have hA : ∀ q : Nat, s.heap.size ≤ q → A q := fun q h => by rw [← hAe]; exact Or.inr h
  have hS : va_S A s.heap s.heap [] := va_S.rf
  rw [FX8_shape] at hE
  have hl := lv_entry ([.ref q0, .int k, .int le, .int mo]) (n := 4) (Nat.le_of_ble_eq_true rfl)
  rw [lg_entry_eq]
  generalize (lg_sl ([.ref q0, .int k, .int le, .int mo]) ++ List.replicate (4 - (lg_sl ([.ref q0, .int k, .int le, .int mo])).length) Slot.unset).toArray = ls at hl ⊢
  have hl : lv_has ls 4 [(0, .ref q0), (1, .int k), (2, .int le), (3, .int mo)] := hl
  refine lv_aload_n hx hb dX8_shape_0 rfl (lv_at hl 0 rfl) ?_
  refine va_get (D := D) (ci := 8) (v := .ref qp) (C := RX8) (T := TX8) (N := 9) hx hb hts iw_8 hown hK hP 0 rfl rfl 2 (by decide) (hts (.fieldLink RX8 26 "DepositCodes" "spans" "LDepositCodes$Spans;") (by decide +kernel)) (fun _ h9 => h9) rfl dX8_shape_1 ?_
  refine lv_iload_n hx hb dX8_shape_4 rfl (lv_at hl 1 rfl) ?_
  refine lv_iload_n hx hb dX8_shape_5 rfl (lv_at hl 2 rfl) ?_
  refine lv_iload_n hx hb dX8_shape_6 rfl (lv_at hl 3 rfl) ?_
  refine mt_call0 (wr := [(q0, .inr (8, [.ref qb, .ref qm, .ref qp, .ref qy, .ref qd, .ref qc, .ref qf, .ref qv, .int lr]))]) (ws' := [(q0, .inr (8, [.ref qb, .ref qm, .ref qp, .ref qy, .ref qd, .ref qc, .ref qf, .ref qv, .int lr])), (qp, .inr (7, [.ref p1, .ref p2, .ref p3])), (p1, .inl (cZ, 8, .inl ((FX7_tell pt pl pm k le mo).2.1))), (p2, .inl (cI, 8, .inl ((FX7_tell pt pl pm k le mo).2.2.1))), (p3, .inl (cI, 8, .inl ((FX7_tell pt pl pm k le mo).2.2.2)))]) (st1 := [.int ((FX7_tell pt pl pm k le mo).1)]) (va_runV (As := [.int k, .int le, .int mo]) (rest := []) ⟨hx, hb, hml, hown, hts⟩ (kX7_tell l D cI cJ cZ qp p1 p2 p3 pt pl pm k le mo _) (cwV 3 hts gX8_shape_X7_tell rfl rfl rfl (by decide +kernel) ⟨Nat.le_of_ble_eq_true rfl, Nat.le_of_ble_eq_true rfl⟩) ⟨mP_blind, va_recv hK hP (ci := 7) (q0 := 1) rfl rfl, mP_pre (hP.sub [1, 2, 3, 4] rfl) (hD.sub [1, 2, 3, 4] (by decide) rfl) hK hN⟩ rfl rfl hl.1 rfl (lv_room (Nat.le_of_ble_eq_true rfl)) dX8_shape_7 ⟨Nat.zero_le _, Nat.zero_le _⟩) hP hD hS hA [1, 2, 3, 4] [0] [0, 1, 2, 3, 4] rfl rfl (by decide) (by decide) (by decide) rfl rfl (fun H locs hP hD hS => ?_)
  subst hE
  exact W.zret hx hb hr (isB_nar (FX7_tell_b _ _ _ _ _ _)) (fun t ht hW => ⟨rfl, by rw [ht]; exact hP, hD, hS.F ht⟩) hS.2.2 dX8_shape_10
def FX8_full (mf : Nat → Int32) (mn : Nat) (k : Int32) (on : Int32) : Int32 × (Nat → Int32) := ((FX4_setFull mf mn k on).1, (FX4_setFull mf mn k on).2)
theorem FX8_full_b (mf : Nat → Int32) (mn : Nat) (k : Int32) (on : Int32) : isB ((FX8_full mf mn k on).1) := by
  unfold FX8_full
  repeat' split
  all_goals first | exact isB_0 | exact isB_1 | exact FX4_setFull_b _ _ _ _
set_option maxHeartbeats 4000000 in
set_option maxRecDepth 100000 in
theorem kX8_full (l : Launch) (D : va_G) (cI cJ cZ : ClassId) (q0 : Nat) (qb : Nat) (qm : Nat) (qp : Nat) (qy : Nat) (qd : Nat) (qc : Nat) (qf : Nat) (qv : Nat) (lr : Int32) (m1 : Nat) (m2 : Nat) (m3 : Nat) (m4 : Nat) (mf : Nat → Int32) (mp : Nat → Int32) (ms : Nat → Int32) (mu : Nat → Int32) (mn : Nat) (k : Int32) (on : Int32) (sz : Nat) (hmn : mn ≤ 6) : Met l yX8_full wsX8_full ({ frames := 3, cells := 0, slots := 0, locals := 64 }) (mP D (tz cI cJ cZ) [.ref q0, .int k, .int on] sz [(q0, .inr (8, [.ref qb, .ref qm, .ref qp, .ref qy, .ref qd, .ref qc, .ref qf, .ref qv, .int lr])), (qm, .inr (5, [.ref m1, .ref m2, .ref m3, .ref m4, .int (nI mn)])), (m1, .inl (cZ, 6, .inl mf)), (m2, .inl (cZ, 6, .inl mp)), (m3, .inl (cI, 6, .inl ms)), (m4, .inl (cI, 6, .inl mu))]) (mQ D (some (.int ((FX8_full mf mn k on).1))) [(q0, .inr (8, [.ref qb, .ref qm, .ref qp, .ref qy, .ref qd, .ref qc, .ref qf, .ref qv, .int lr])), (qm, .inr (5, [.ref m1, .ref m2, .ref m3, .ref m4, .int (nI mn)])), (m1, .inl (cZ, 6, .inl ((FX8_full mf mn k on).2))), (m2, .inl (cZ, 6, .inl mp)), (m3, .inl (cI, 6, .inl ms)), (m4, .inl (cI, 6, .inl mu))] (va_A [(q0, .inr (8, [.ref qb, .ref qm, .ref qp, .ref qy, .ref qd, .ref qc, .ref qf, .ref qv, .int lr])), (qm, .inr (5, [.ref m1, .ref m2, .ref m3, .ref m4, .int (nI mn)])), (m1, .inl (cZ, 6, .inl mf)), (m2, .inl (cZ, 6, .inl mp)), (m3, .inl (cI, 6, .inl ms)), (m4, .inl (cI, 6, .inl mu))] sz)) 0 0 (va_A [(q0, .inr (8, [.ref qb, .ref qm, .ref qp, .ref qy, .ref qd, .ref qc, .ref qf, .ref qv, .int lr])), (qm, .inr (5, [.ref m1, .ref m2, .ref m3, .ref m4, .int (nI mn)])), (m1, .inl (cZ, 6, .inl mf)), (m2, .inl (cZ, 6, .inl mp)), (m3, .inl (cI, 6, .inl ms)), (m4, .inl (cI, 6, .inl mu))] sz) := by
  refine Met.ofW (cc := cX8_full) (maxL := 3) (ret := (some .boolean)) (by decide) rfl ?_
  intro p e s m args below meth c s₁ B hml hv
  obtain ⟨rfl, hsz, hP, hK, hD0, hN⟩ := hv
  have hx := B.exec
  have hb := B.bytes
  have hr := B.returns
  have hts := atoms_spec (ws := wsX8_full) B.pre
  have hown : s.vm.findClass RX8 = some m.cls := findClass_of_methodNamed B.named
  have hlocks := B.notSynchronized
  have iw_8 : ∀ w ∈ u_ws RX8 TX8 9, w ∈ wsX8_full := by decide +kernel
  subst hsz
  have hD := hD0.self (sz := s.heap.size)
  generalize hE : FX8_full mf mn k on = R0
  generalize hAe : va_A [(q0, .inr (8, [.ref qb, .ref qm, .ref qp, .ref qy, .ref qd, .ref qc, .ref qf, .ref qv, .int lr])), (qm, .inr (5, [.ref m1, .ref m2, .ref m3, .ref m4, .int (nI mn)])), (m1, .inl (cZ, 6, .inl mf)), (m2, .inl (cZ, 6, .inl mp)), (m3, .inl (cI, 6, .inl ms)), (m4, .inl (cI, 6, .inl mu))] s.heap.size = A at hD ⊢
  have hA : ∀ q : Nat, s.heap.size ≤ q → A q := fun q h => by rw [← hAe]; exact Or.inr h
  have hS : va_S A s.heap s.heap [] := va_S.rf
  rw [FX8_full] at hE
  have hl := lv_entry ([.ref q0, .int k, .int on]) (n := 3) (Nat.le_of_ble_eq_true rfl)
  rw [lg_entry_eq]
  generalize (lg_sl ([.ref q0, .int k, .int on]) ++ List.replicate (3 - (lg_sl ([.ref q0, .int k, .int on])).length) Slot.unset).toArray = ls at hl ⊢
  have hl : lv_has ls 3 [(0, .ref q0), (1, .int k), (2, .int on)] := hl
  refine lv_aload_n hx hb dX8_full_0 rfl (lv_at hl 0 rfl) ?_
  refine va_get (D := D) (ci := 8) (v := .ref qm) (C := RX8) (T := TX8) (N := 9) hx hb hts iw_8 hown hK hP 0 rfl rfl 1 (by decide) (hts (.fieldLink RX8 19 "DepositCodes" "machines" "LDepositCodes$Machines;") (by decide +kernel)) (fun _ h9 => h9) rfl dX8_full_1 ?_
  refine lv_iload_n hx hb dX8_full_4 rfl (lv_at hl 1 rfl) ?_
  refine lv_iload_n hx hb dX8_full_5 rfl (lv_at hl 2 rfl) ?_
  refine mt_call0 (wr := [(q0, .inr (8, [.ref qb, .ref qm, .ref qp, .ref qy, .ref qd, .ref qc, .ref qf, .ref qv, .int lr]))]) (ws' := [(q0, .inr (8, [.ref qb, .ref qm, .ref qp, .ref qy, .ref qd, .ref qc, .ref qf, .ref qv, .int lr])), (qm, .inr (5, [.ref m1, .ref m2, .ref m3, .ref m4, .int (nI mn)])), (m1, .inl (cZ, 6, .inl ((FX4_setFull mf mn k on).2))), (m2, .inl (cZ, 6, .inl mp)), (m3, .inl (cI, 6, .inl ms)), (m4, .inl (cI, 6, .inl mu))]) (st1 := [.int ((FX4_setFull mf mn k on).1)]) (va_runV (As := [.int k, .int on]) (rest := []) ⟨hx, hb, hml, hown, hts⟩ (kX4_setFull l D cI cJ cZ qm m1 m2 m3 m4 mf mp ms mu mn k on _ (by first | assumption | omega)) (cwV 2 hts gX8_full_X4_setFull rfl rfl rfl (by decide +kernel) ⟨Nat.le_of_ble_eq_true rfl, Nat.le_of_ble_eq_true rfl⟩) ⟨mP_blind, va_recv hK hP (ci := 5) (q0 := 1) rfl rfl, mP_pre (hP.sub [1, 2, 3, 4, 5] rfl) (hD.sub [1, 2, 3, 4, 5] (by decide) rfl) hK hN⟩ rfl rfl hl.1 rfl (lv_room (Nat.le_of_ble_eq_true rfl)) dX8_full_6 ⟨Nat.zero_le _, Nat.zero_le _⟩) hP hD hS hA [1, 2, 3, 4, 5] [0] [0, 1, 2, 3, 4, 5] rfl rfl (by decide) (by decide) (by decide) rfl rfl (fun H locs hP hD hS => ?_)
  subst hE
  exact W.zret hx hb hr (isB_nar (FX4_setFull_b _ _ _ _)) (fun t ht hW => ⟨rfl, by rw [ht]; exact hP, hD, hS.F ht⟩) hS.2.2 dX8_full_9
def FX8_power (mp : Nat → Int32) (mn : Nat) (k : Int32) (on : Int32) : Int32 × (Nat → Int32) := ((FX4_setPower mp mn k on).1, (FX4_setPower mp mn k on).2)
theorem FX8_power_b (mp : Nat → Int32) (mn : Nat) (k : Int32) (on : Int32) : isB ((FX8_power mp mn k on).1) := by
  unfold FX8_power
  repeat' split
  all_goals first | exact isB_0 | exact isB_1 | exact FX4_setPower_b _ _ _ _
set_option maxHeartbeats 4000000 in
set_option maxRecDepth 100000 in
theorem kX8_power (l : Launch) (D : va_G) (cI cJ cZ : ClassId) (q0 : Nat) (qb : Nat) (qm : Nat) (qp : Nat) (qy : Nat) (qd : Nat) (qc : Nat) (qf : Nat) (qv : Nat) (lr : Int32) (m1 : Nat) (m2 : Nat) (m3 : Nat) (m4 : Nat) (mf : Nat → Int32) (mp : Nat → Int32) (ms : Nat → Int32) (mu : Nat → Int32) (mn : Nat) (k : Int32) (on : Int32) (sz : Nat) (hmn : mn ≤ 6) : Met l yX8_power wsX8_power ({ frames := 3, cells := 0, slots := 0, locals := 64 }) (mP D (tz cI cJ cZ) [.ref q0, .int k, .int on] sz [(q0, .inr (8, [.ref qb, .ref qm, .ref qp, .ref qy, .ref qd, .ref qc, .ref qf, .ref qv, .int lr])), (qm, .inr (5, [.ref m1, .ref m2, .ref m3, .ref m4, .int (nI mn)])), (m1, .inl (cZ, 6, .inl mf)), (m2, .inl (cZ, 6, .inl mp)), (m3, .inl (cI, 6, .inl ms)), (m4, .inl (cI, 6, .inl mu))]) (mQ D (some (.int ((FX8_power mp mn k on).1))) [(q0, .inr (8, [.ref qb, .ref qm, .ref qp, .ref qy, .ref qd, .ref qc, .ref qf, .ref qv, .int lr])), (qm, .inr (5, [.ref m1, .ref m2, .ref m3, .ref m4, .int (nI mn)])), (m1, .inl (cZ, 6, .inl mf)), (m2, .inl (cZ, 6, .inl ((FX8_power mp mn k on).2))), (m3, .inl (cI, 6, .inl ms)), (m4, .inl (cI, 6, .inl mu))] (va_A [(q0, .inr (8, [.ref qb, .ref qm, .ref qp, .ref qy, .ref qd, .ref qc, .ref qf, .ref qv, .int lr])), (qm, .inr (5, [.ref m1, .ref m2, .ref m3, .ref m4, .int (nI mn)])), (m1, .inl (cZ, 6, .inl mf)), (m2, .inl (cZ, 6, .inl mp)), (m3, .inl (cI, 6, .inl ms)), (m4, .inl (cI, 6, .inl mu))] sz)) 0 0 (va_A [(q0, .inr (8, [.ref qb, .ref qm, .ref qp, .ref qy, .ref qd, .ref qc, .ref qf, .ref qv, .int lr])), (qm, .inr (5, [.ref m1, .ref m2, .ref m3, .ref m4, .int (nI mn)])), (m1, .inl (cZ, 6, .inl mf)), (m2, .inl (cZ, 6, .inl mp)), (m3, .inl (cI, 6, .inl ms)), (m4, .inl (cI, 6, .inl mu))] sz) := by
  refine Met.ofW (cc := cX8_power) (maxL := 3) (ret := (some .boolean)) (by decide) rfl ?_
  intro p e s m args below meth c s₁ B hml hv
  obtain ⟨rfl, hsz, hP, hK, hD0, hN⟩ := hv
  have hx := B.exec
  have hb := B.bytes
  have hr := B.returns
  have hts := atoms_spec (ws := wsX8_power) B.pre
  have hown : s.vm.findClass RX8 = some m.cls := findClass_of_methodNamed B.named
  have hlocks := B.notSynchronized
  have iw_8 : ∀ w ∈ u_ws RX8 TX8 9, w ∈ wsX8_power := by decide +kernel
  subst hsz
  have hD := hD0.self (sz := s.heap.size)
  generalize hE : FX8_power mp mn k on = R0
  generalize hAe : va_A [(q0, .inr (8, [.ref qb, .ref qm, .ref qp, .ref qy, .ref qd, .ref qc, .ref qf, .ref qv, .int lr])), (qm, .inr (5, [.ref m1, .ref m2, .ref m3, .ref m4, .int (nI mn)])), (m1, .inl (cZ, 6, .inl mf)), (m2, .inl (cZ, 6, .inl mp)), (m3, .inl (cI, 6, .inl ms)), (m4, .inl (cI, 6, .inl mu))] s.heap.size = A at hD ⊢
  have hA : ∀ q : Nat, s.heap.size ≤ q → A q := fun q h => by rw [← hAe]; exact Or.inr h
  have hS : va_S A s.heap s.heap [] := va_S.rf
  rw [FX8_power] at hE
  have hl := lv_entry ([.ref q0, .int k, .int on]) (n := 3) (Nat.le_of_ble_eq_true rfl)
  rw [lg_entry_eq]
  generalize (lg_sl ([.ref q0, .int k, .int on]) ++ List.replicate (3 - (lg_sl ([.ref q0, .int k, .int on])).length) Slot.unset).toArray = ls at hl ⊢
  have hl : lv_has ls 3 [(0, .ref q0), (1, .int k), (2, .int on)] := hl
  refine lv_aload_n hx hb dX8_power_0 rfl (lv_at hl 0 rfl) ?_
  refine va_get (D := D) (ci := 8) (v := .ref qm) (C := RX8) (T := TX8) (N := 9) hx hb hts iw_8 hown hK hP 0 rfl rfl 1 (by decide) (hts (.fieldLink RX8 19 "DepositCodes" "machines" "LDepositCodes$Machines;") (by decide +kernel)) (fun _ h9 => h9) rfl dX8_power_1 ?_
  refine lv_iload_n hx hb dX8_power_4 rfl (lv_at hl 1 rfl) ?_
  refine lv_iload_n hx hb dX8_power_5 rfl (lv_at hl 2 rfl) ?_
  refine mt_call0 (wr := [(q0, .inr (8, [.ref qb, .ref qm, .ref qp, .ref qy, .ref qd, .ref qc, .ref qf, .ref qv, .int lr]))]) (ws' := [(q0, .inr (8, [.ref qb, .ref qm, .ref qp, .ref qy, .ref qd, .ref qc, .ref qf, .ref qv, .int lr])), (qm, .inr (5, [.ref m1, .ref m2, .ref m3, .ref m4, .int (nI mn)])), (m1, .inl (cZ, 6, .inl mf)), (m2, .inl (cZ, 6, .inl ((FX4_setPower mp mn k on).2))), (m3, .inl (cI, 6, .inl ms)), (m4, .inl (cI, 6, .inl mu))]) (st1 := [.int ((FX4_setPower mp mn k on).1)]) (va_runV (As := [.int k, .int on]) (rest := []) ⟨hx, hb, hml, hown, hts⟩ (kX4_setPower l D cI cJ cZ qm m1 m2 m3 m4 mf mp ms mu mn k on _ (by first | assumption | omega)) (cwV 2 hts gX8_power_X4_setPower rfl rfl rfl (by decide +kernel) ⟨Nat.le_of_ble_eq_true rfl, Nat.le_of_ble_eq_true rfl⟩) ⟨mP_blind, va_recv hK hP (ci := 5) (q0 := 1) rfl rfl, mP_pre (hP.sub [1, 2, 3, 4, 5] rfl) (hD.sub [1, 2, 3, 4, 5] (by decide) rfl) hK hN⟩ rfl rfl hl.1 rfl (lv_room (Nat.le_of_ble_eq_true rfl)) dX8_power_6 ⟨Nat.zero_le _, Nat.zero_le _⟩) hP hD hS hA [1, 2, 3, 4, 5] [0] [0, 1, 2, 3, 4, 5] rfl rfl (by decide) (by decide) (by decide) rfl rfl (fun H locs hP hD hS => ?_)
  subst hE
  exact W.zret hx hb hr (isB_nar (FX4_setPower_b _ _ _ _)) (fun t ht hW => ⟨rfl, by rw [ht]; exact hP, hD, hS.F ht⟩) hS.2.2 dX8_power_9
def FX8_reasonToRefuse (mf : Nat → Int32) (mp : Nat → Int32) (ms : Nat → Int32) (mn : Nat) (pt : Nat → Int32) (pl : Nat → Int32) (pm : Nat → Int32) (ys : Nat → Int64) (yt : Nat → Int32) (yn : Nat) (k : Int32) (v : Int64) (sh : Int32) (w : Int32) : Int32 := if (FX4_exists mn k) = 0 then 1 else (if (FX4_isFull mf mn k) = 0 then (if (FX4_hasPower mp mn k) = 0 then 3 else (if (FX7_isTold pt sh) = 0 then 4 else (if (FX7_holds pt pl pm sh w) = 0 then 5 else (if (FX5_isGood 0 v) = 0 then 6 else (if (FX6_find ys yt yn v (FX4_setOf ms mn k)) = (-1) then 0 else 7))))) else 2)
set_option maxHeartbeats 4000000 in
set_option maxRecDepth 100000 in
theorem kX8_reasonToRefuse (l : Launch) (D : va_G) (cI cJ cZ : ClassId) (q0 : Nat) (qb : Nat) (qm : Nat) (qp : Nat) (qy : Nat) (qd : Nat) (qc : Nat) (qf : Nat) (qv : Nat) (lr : Int32) (m1 : Nat) (m2 : Nat) (m3 : Nat) (m4 : Nat) (mf : Nat → Int32) (mp : Nat → Int32) (ms : Nat → Int32) (mu : Nat → Int32) (mn : Nat) (p1 : Nat) (p2 : Nat) (p3 : Nat) (pt : Nat → Int32) (pl : Nat → Int32) (pm : Nat → Int32) (y1 : Nat) (y2 : Nat) (y3 : Nat) (y4 : Nat) (y5 : Nat) (y6 : Nat) (ys : Nat → Int64) (yp : Nat → Int32) (yt : Nat → Int32) (yh : Nat → Int32) (ym : Nat → Int32) (yr : Nat → Int32) (yn : Nat) (k : Int32) (v : Int64) (sh : Int32) (w : Int32) (hmn : mn ≤ 6) (hyn : yn ≤ 200) : Met l yX8_reasonToRefuse wsX8_reasonToRefuse ({ frames := 4, cells := 0, slots := 0, locals := 85 }) (rP D (tz cI cJ cZ) [.ref q0, .int k, .long v, .int sh, .int w] [(q0, .inr (8, [.ref qb, .ref qm, .ref qp, .ref qy, .ref qd, .ref qc, .ref qf, .ref qv, .int lr])), (qm, .inr (5, [.ref m1, .ref m2, .ref m3, .ref m4, .int (nI mn)])), (m1, .inl (cZ, 6, .inl mf)), (m2, .inl (cZ, 6, .inl mp)), (m3, .inl (cI, 6, .inl ms)), (m4, .inl (cI, 6, .inl mu)), (qp, .inr (7, [.ref p1, .ref p2, .ref p3])), (p1, .inl (cZ, 8, .inl pt)), (p2, .inl (cI, 8, .inl pl)), (p3, .inl (cI, 8, .inl pm)), (qy, .inr (6, [.ref y1, .ref y2, .ref y3, .ref y4, .ref y5, .ref y6, .int (nI yn)])), (y1, .inl (cJ, 200, .inr (.inl ys))), (y2, .inl (cI, 200, .inl yp)), (y3, .inl (cI, 200, .inl yt)), (y4, .inl (cI, 200, .inl yh)), (y5, .inl (cI, 200, .inl ym)), (y6, .inl (cI, 200, .inl yr))]) (k2_QcV (.int (FX8_reasonToRefuse mf mp ms mn pt pl pm ys yt yn k v sh w))) 0 0 (fun _ => False) := by
  refine Met.ofW (cc := cX8_reasonToRefuse) (maxL := 6) (ret := (some .int)) (by decide) rfl ?_
  intro p e s m args below meth c s₁ B hml hv
  obtain ⟨rfl, hP, hK, hN⟩ := hv
  have hx := B.exec
  have hb := B.bytes
  have hr := B.returns
  have hts := atoms_spec (ws := wsX8_reasonToRefuse) B.pre
  have hown : s.vm.findClass RX8 = some m.cls := findClass_of_methodNamed B.named
  have hlocks := B.notSynchronized
  have iw_8 : ∀ w ∈ u_ws RX8 TX8 9, w ∈ wsX8_reasonToRefuse := by decide +kernel
  generalize hE : FX8_reasonToRefuse mf mp ms mn pt pl pm ys yt yn k v sh w = R0
  rw [FX8_reasonToRefuse] at hE
  have hl := lv_entry ([.ref q0, .int k, .long v, .int sh, .int w]) (n := 6) (Nat.le_of_ble_eq_true rfl)
  rw [lg_entry_eq]
  generalize (lg_sl ([.ref q0, .int k, .long v, .int sh, .int w]) ++ List.replicate (6 - (lg_sl ([.ref q0, .int k, .long v, .int sh, .int w])).length) Slot.unset).toArray = ls at hl ⊢
  have hl : lv_has ls 6 [(0, .ref q0), (1, .int k), (2, .long v), (4, .int sh), (5, .int w)] := hl
  refine lv_aload_n hx hb dX8_reasonToRefuse_0 rfl (lv_at hl 0 rfl) ?_
  refine va_get (D := D) (ci := 8) (v := .ref qm) (C := RX8) (T := TX8) (N := 9) hx hb hts iw_8 hown hK hP 0 rfl rfl 1 (by decide) (hts (.fieldLink RX8 19 "DepositCodes" "machines" "LDepositCodes$Machines;") (by decide +kernel)) (fun _ h9 => h9) rfl dX8_reasonToRefuse_1 ?_
  refine lv_iload_n hx hb dX8_reasonToRefuse_4 rfl (lv_at hl 1 rfl) ?_
  refine rd_call (va_runV (As := [.int k]) (rest := []) ⟨hx, hb, hml, hown, hts⟩ (kX4_exists l D cI cJ cZ qm m1 m2 m3 m4 mf mp ms mu mn k) (cwV 1 hts gX8_reasonToRefuse_X4_exists rfl rfl rfl (by decide +kernel) ⟨Nat.le_of_ble_eq_true rfl, Nat.le_of_ble_eq_true rfl⟩) ⟨rP_blind, va_recv hK hP (ci := 5) (q0 := 1) rfl rfl, rP_pre (hP.sub [1, 2, 3, 4, 5] rfl) hK hN⟩ rfl rfl hl.1 rfl (lv_room (Nat.le_of_ble_eq_true rfl)) dX8_reasonToRefuse_5 ⟨Nat.zero_le _, Nat.zero_le _⟩) ?_
  refine lv_if_ne (tgt := 13) hx hb dX8_reasonToRefuse_8 (by decide) (fun c_1 => ?_) (fun c_1 => ?_)
  · rw [if_neg c_1] at hE
    refine lv_aload_n hx hb dX8_reasonToRefuse_13 rfl (lv_at hl 0 rfl) ?_
    refine va_get (D := D) (ci := 8) (v := .ref qm) (C := RX8) (T := TX8) (N := 9) hx hb hts iw_8 hown hK hP 0 rfl rfl 1 (by decide) (hts (.fieldLink RX8 19 "DepositCodes" "machines" "LDepositCodes$Machines;") (by decide +kernel)) (fun _ h9 => h9) rfl dX8_reasonToRefuse_14 ?_
    refine lv_iload_n hx hb dX8_reasonToRefuse_17 rfl (lv_at hl 1 rfl) ?_
    refine rd_call (va_runV (As := [.int k]) (rest := []) ⟨hx, hb, hml, hown, hts⟩ (kX4_isFull l D cI cJ cZ qm m1 m2 m3 m4 mf mp ms mu mn k (by first | assumption | omega)) (cwV 1 hts gX8_reasonToRefuse_X4_isFull rfl rfl rfl (by decide +kernel) ⟨Nat.le_of_ble_eq_true rfl, Nat.le_of_ble_eq_true rfl⟩) ⟨rP_blind, va_recv hK hP (ci := 5) (q0 := 1) rfl rfl, rP_pre (hP.sub [1, 2, 3, 4, 5] rfl) hK hN⟩ rfl rfl hl.1 rfl (lv_room (Nat.le_of_ble_eq_true rfl)) dX8_reasonToRefuse_18 ⟨Nat.zero_le _, Nat.zero_le _⟩) ?_
    refine lv_if_eq (tgt := 26) hx hb dX8_reasonToRefuse_21 (by decide) (fun c_2 => ?_) (fun c_2 => ?_)
    · rw [if_pos c_2] at hE
      refine lv_aload_n hx hb dX8_reasonToRefuse_26 rfl (lv_at hl 0 rfl) ?_
      refine va_get (D := D) (ci := 8) (v := .ref qm) (C := RX8) (T := TX8) (N := 9) hx hb hts iw_8 hown hK hP 0 rfl rfl 1 (by decide) (hts (.fieldLink RX8 19 "DepositCodes" "machines" "LDepositCodes$Machines;") (by decide +kernel)) (fun _ h9 => h9) rfl dX8_reasonToRefuse_27 ?_
      refine lv_iload_n hx hb dX8_reasonToRefuse_30 rfl (lv_at hl 1 rfl) ?_
      refine rd_call (va_runV (As := [.int k]) (rest := []) ⟨hx, hb, hml, hown, hts⟩ (kX4_hasPower l D cI cJ cZ qm m1 m2 m3 m4 mf mp ms mu mn k (by first | assumption | omega)) (cwV 1 hts gX8_reasonToRefuse_X4_hasPower rfl rfl rfl (by decide +kernel) ⟨Nat.le_of_ble_eq_true rfl, Nat.le_of_ble_eq_true rfl⟩) ⟨rP_blind, va_recv hK hP (ci := 5) (q0 := 1) rfl rfl, rP_pre (hP.sub [1, 2, 3, 4, 5] rfl) hK hN⟩ rfl rfl hl.1 rfl (lv_room (Nat.le_of_ble_eq_true rfl)) dX8_reasonToRefuse_31 ⟨Nat.zero_le _, Nat.zero_le _⟩) ?_
      refine lv_if_ne (tgt := 39) hx hb dX8_reasonToRefuse_34 (by decide) (fun c_3 => ?_) (fun c_3 => ?_)
      · rw [if_neg c_3] at hE
        refine lv_aload_n hx hb dX8_reasonToRefuse_39 rfl (lv_at hl 0 rfl) ?_
        refine va_get (D := D) (ci := 8) (v := .ref qp) (C := RX8) (T := TX8) (N := 9) hx hb hts iw_8 hown hK hP 0 rfl rfl 2 (by decide) (hts (.fieldLink RX8 26 "DepositCodes" "spans" "LDepositCodes$Spans;") (by decide +kernel)) (fun _ h9 => h9) rfl dX8_reasonToRefuse_40 ?_
        refine lv_iload hx hb dX8_reasonToRefuse_43 (lv_at hl 3 rfl) ?_
        refine rd_call (va_runV (As := [.int sh]) (rest := []) ⟨hx, hb, hml, hown, hts⟩ (kX7_isTold l D cI cJ cZ qp p1 p2 p3 pt pl pm sh) (cwV 1 hts gX8_reasonToRefuse_X7_isTold rfl rfl rfl (by decide +kernel) ⟨Nat.le_of_ble_eq_true rfl, Nat.le_of_ble_eq_true rfl⟩) ⟨rP_blind, va_recv hK hP (ci := 7) (q0 := 6) rfl rfl, rP_pre (hP.sub [6, 7, 8, 9] rfl) hK hN⟩ rfl rfl hl.1 rfl (lv_room (Nat.le_of_ble_eq_true rfl)) dX8_reasonToRefuse_45 ⟨Nat.zero_le _, Nat.zero_le _⟩) ?_
        refine lv_if_ne (tgt := 53) hx hb dX8_reasonToRefuse_48 (by decide) (fun c_4 => ?_) (fun c_4 => ?_)
        · rw [if_neg c_4] at hE
          refine lv_aload_n hx hb dX8_reasonToRefuse_53 rfl (lv_at hl 0 rfl) ?_
          refine va_get (D := D) (ci := 8) (v := .ref qp) (C := RX8) (T := TX8) (N := 9) hx hb hts iw_8 hown hK hP 0 rfl rfl 2 (by decide) (hts (.fieldLink RX8 26 "DepositCodes" "spans" "LDepositCodes$Spans;") (by decide +kernel)) (fun _ h9 => h9) rfl dX8_reasonToRefuse_54 ?_
          refine lv_iload hx hb dX8_reasonToRefuse_57 (lv_at hl 3 rfl) ?_
          refine lv_iload hx hb dX8_reasonToRefuse_59 (lv_at hl 4 rfl) ?_
          refine rd_call (va_runV (As := [.int sh, .int w]) (rest := []) ⟨hx, hb, hml, hown, hts⟩ (kX7_holds l D cI cJ cZ qp p1 p2 p3 pt pl pm sh w) (cwV 2 hts gX8_reasonToRefuse_X7_holds rfl rfl rfl (by decide +kernel) ⟨Nat.le_of_ble_eq_true rfl, Nat.le_of_ble_eq_true rfl⟩) ⟨rP_blind, va_recv hK hP (ci := 7) (q0 := 6) rfl rfl, rP_pre (hP.sub [6, 7, 8, 9] rfl) hK hN⟩ rfl rfl hl.1 rfl (lv_room (Nat.le_of_ble_eq_true rfl)) dX8_reasonToRefuse_61 ⟨Nat.zero_le _, Nat.zero_le _⟩) ?_
          refine lv_if_ne (tgt := 69) hx hb dX8_reasonToRefuse_64 (by decide) (fun c_5 => ?_) (fun c_5 => ?_)
          · rw [if_neg c_5] at hE
            refine lv_iconst (v := 0) hx hb dX8_reasonToRefuse_69 (by decide) ?_
            refine lv_lload_n hx hb dX8_reasonToRefuse_70 rfl (lv_at hl 2 rfl) ?_
            refine rd_call (va_runS (As := [.int 0, .long v]) (rest := []) ⟨hx, hb, hml, hown, hts⟩ (kX5_isGood l D cI cJ cZ 0 v) (va_cwS 2 hts gX8_reasonToRefuse_X5_isGood rfl rfl rfl (by decide +kernel) ⟨Nat.le_of_ble_eq_true rfl, Nat.le_of_ble_eq_true rfl⟩) ⟨rP_blind, rP_pre (va_P_nil) hK hN⟩ rfl rfl hl.1 rfl (lv_room (Nat.le_of_ble_eq_true rfl)) dX8_reasonToRefuse_71 ⟨Nat.zero_le _, Nat.zero_le _⟩) ?_
            refine lv_if_ne (tgt := 80) hx hb dX8_reasonToRefuse_74 (by decide) (fun c_6 => ?_) (fun c_6 => ?_)
            · rw [if_neg c_6] at hE
              refine lv_aload_n hx hb dX8_reasonToRefuse_80 rfl (lv_at hl 0 rfl) ?_
              refine va_get (D := D) (ci := 8) (v := .ref qy) (C := RX8) (T := TX8) (N := 9) hx hb hts iw_8 hown hK hP 0 rfl rfl 3 (by decide) (hts (.fieldLink RX8 33 "DepositCodes" "payments" "LDepositCodes$Payments;") (by decide +kernel)) (fun _ h9 => h9) rfl dX8_reasonToRefuse_81 ?_
              refine lv_lload_n hx hb dX8_reasonToRefuse_84 rfl (lv_at hl 2 rfl) ?_
              refine lv_aload_n hx hb dX8_reasonToRefuse_85 rfl (lv_at hl 0 rfl) ?_
              refine va_get (D := D) (ci := 8) (v := .ref qm) (C := RX8) (T := TX8) (N := 9) hx hb hts iw_8 hown hK hP 0 rfl rfl 1 (by decide) (hts (.fieldLink RX8 19 "DepositCodes" "machines" "LDepositCodes$Machines;") (by decide +kernel)) (fun _ h9 => h9) rfl dX8_reasonToRefuse_86 ?_
              refine lv_iload_n hx hb dX8_reasonToRefuse_89 rfl (lv_at hl 1 rfl) ?_
              refine rd_call (va_runV (As := [.int k]) (rest := [.long v, .ref qy]) ⟨hx, hb, hml, hown, hts⟩ (kX4_setOf l D cI cJ cZ qm m1 m2 m3 m4 mf mp ms mu mn k (by first | assumption | omega)) (cwV 1 hts gX8_reasonToRefuse_X4_setOf rfl rfl rfl (by decide +kernel) ⟨Nat.le_of_ble_eq_true rfl, Nat.le_of_ble_eq_true rfl⟩) ⟨rP_blind, va_recv hK hP (ci := 5) (q0 := 1) rfl rfl, rP_pre (hP.sub [1, 2, 3, 4, 5] rfl) hK hN⟩ rfl rfl hl.1 rfl (lv_room (Nat.le_of_ble_eq_true rfl)) dX8_reasonToRefuse_90 ⟨Nat.zero_le _, Nat.zero_le _⟩) ?_
              refine rd_call (va_runV (As := [.long v, .int (FX4_setOf ms mn k)]) (rest := []) ⟨hx, hb, hml, hown, hts⟩ (kX6_find l D cI cJ cZ qy y1 y2 y3 y4 y5 y6 ys yp yt yh ym yr yn v (FX4_setOf ms mn k) (by first | assumption | omega)) (cwV 2 hts gX8_reasonToRefuse_X6_find rfl rfl rfl (by decide +kernel) ⟨Nat.le_of_ble_eq_true rfl, Nat.le_of_ble_eq_true rfl⟩) ⟨rP_blind, va_recv hK hP (ci := 6) (q0 := 10) rfl rfl, rP_pre (hP.sub [10, 11, 12, 13, 14, 15, 16] rfl) hK hN⟩ rfl rfl hl.1 rfl (lv_room (Nat.le_of_ble_eq_true rfl)) dX8_reasonToRefuse_93 ⟨Nat.zero_le _, Nat.zero_le _⟩) ?_
              refine lv_iconst (v := (-1)) hx hb dX8_reasonToRefuse_96 (by decide) ?_
              refine lv_icmp_ne (tgt := 104) hx hb dX8_reasonToRefuse_97 (by decide) (fun c_7 => ?_) (fun c_7 => ?_)
              · rw [if_neg c_7] at hE
                refine lv_bipush (v := 7) hx hb dX8_reasonToRefuse_104 (by decide) ?_
                exact W.iret hx hb hr (fun t ht hW => ⟨by rw [← hE], ht⟩) (fun q h => absurd h List.not_mem_nil) dX8_reasonToRefuse_106
              · rw [if_pos c_7] at hE
                refine lv_iconst (v := 0) hx hb dX8_reasonToRefuse_100 (by decide) ?_
                refine lv_goto (tgt := 106) hx hb dX8_reasonToRefuse_101 (by decide) ?_
                exact W.iret hx hb hr (fun t ht hW => ⟨by rw [← hE], ht⟩) (fun q h => absurd h List.not_mem_nil) dX8_reasonToRefuse_106
            · rw [if_pos c_6] at hE
              refine lv_bipush (v := 6) hx hb dX8_reasonToRefuse_77 (by decide) ?_
              exact W.iret hx hb hr (fun t ht hW => ⟨by rw [← hE], ht⟩) (fun q h => absurd h List.not_mem_nil) dX8_reasonToRefuse_79
          · rw [if_pos c_5] at hE
            refine lv_iconst (v := 5) hx hb dX8_reasonToRefuse_67 (by decide) ?_
            exact W.iret hx hb hr (fun t ht hW => ⟨by rw [← hE], ht⟩) (fun q h => absurd h List.not_mem_nil) dX8_reasonToRefuse_68
        · rw [if_pos c_4] at hE
          refine lv_iconst (v := 4) hx hb dX8_reasonToRefuse_51 (by decide) ?_
          exact W.iret hx hb hr (fun t ht hW => ⟨by rw [← hE], ht⟩) (fun q h => absurd h List.not_mem_nil) dX8_reasonToRefuse_52
      · rw [if_pos c_3] at hE
        refine lv_iconst (v := 3) hx hb dX8_reasonToRefuse_37 (by decide) ?_
        exact W.iret hx hb hr (fun t ht hW => ⟨by rw [← hE], ht⟩) (fun q h => absurd h List.not_mem_nil) dX8_reasonToRefuse_38
    · rw [if_neg c_2] at hE
      refine lv_iconst (v := 2) hx hb dX8_reasonToRefuse_24 (by decide) ?_
      exact W.iret hx hb hr (fun t ht hW => ⟨by rw [← hE], ht⟩) (fun q h => absurd h List.not_mem_nil) dX8_reasonToRefuse_25
  · rw [if_pos c_1] at hE
    refine lv_iconst (v := 1) hx hb dX8_reasonToRefuse_11 (by decide) ?_
    exact W.iret hx hb hr (fun t ht hW => ⟨by rw [← hE], ht⟩) (fun q h => absurd h List.not_mem_nil) dX8_reasonToRefuse_12
def FX8_noteRefusal (ys : Nat → Int64) (yr : Nat → Int32) (yn : Nat) (fp : Nat → Int32) (fn : Nat) (k : Int32) (v : Int64) : (Nat → Int32) × (Nat → Int32) × Nat := if (((FX6_addRefusal ys yr yn v).1) - ((FX6_addRefusal ys yr yn v).1) / 3 * 3) = 0 then ((FX6_addRefusal ys yr yn v).2, (FX3_add fp fn k).1, (FX3_add fp fn k).2) else ((FX6_addRefusal ys yr yn v).2, fp, fn)
set_option maxHeartbeats 4000000 in
set_option maxRecDepth 100000 in
theorem kX8_noteRefusal (l : Launch) (D : va_G) (cI cJ cZ : ClassId) (q0 : Nat) (qb : Nat) (qm : Nat) (qp : Nat) (qy : Nat) (qd : Nat) (qc : Nat) (qf : Nat) (qv : Nat) (lr : Int32) (y1 : Nat) (y2 : Nat) (y3 : Nat) (y4 : Nat) (y5 : Nat) (y6 : Nat) (ys : Nat → Int64) (yp : Nat → Int32) (yt : Nat → Int32) (yh : Nat → Int32) (ym : Nat → Int32) (yr : Nat → Int32) (yn : Nat) (f1 : Nat) (fp : Nat → Int32) (fn : Nat) (k : Int32) (v : Int64) (sz : Nat) (hyn : yn ≤ 200) (hfn : fn ≤ 170) : Met l yX8_noteRefusal wsX8_noteRefusal ({ frames := 1, cells := 0, slots := 0, locals := 23 }) (mP D (tz cI cJ cZ) [.ref q0, .int k, .long v] sz [(q0, .inr (8, [.ref qb, .ref qm, .ref qp, .ref qy, .ref qd, .ref qc, .ref qf, .ref qv, .int lr])), (qy, .inr (6, [.ref y1, .ref y2, .ref y3, .ref y4, .ref y5, .ref y6, .int (nI yn)])), (y1, .inl (cJ, 200, .inr (.inl ys))), (y2, .inl (cI, 200, .inl yp)), (y3, .inl (cI, 200, .inl yt)), (y4, .inl (cI, 200, .inl yh)), (y5, .inl (cI, 200, .inl ym)), (y6, .inl (cI, 200, .inl yr)), (qf, .inr (4, [.ref f1, .int (nI fn)])), (f1, .inl (cI, 170, .inl fp))]) (mQ D none [(q0, .inr (8, [.ref qb, .ref qm, .ref qp, .ref qy, .ref qd, .ref qc, .ref qf, .ref qv, .int lr])), (qy, .inr (6, [.ref y1, .ref y2, .ref y3, .ref y4, .ref y5, .ref y6, .int (nI yn)])), (y1, .inl (cJ, 200, .inr (.inl ys))), (y2, .inl (cI, 200, .inl yp)), (y3, .inl (cI, 200, .inl yt)), (y4, .inl (cI, 200, .inl yh)), (y5, .inl (cI, 200, .inl ym)), (y6, .inl (cI, 200, .inl ((FX8_noteRefusal ys yr yn fp fn k v).1))), (qf, .inr (4, [.ref f1, .int (nI ((FX8_noteRefusal ys yr yn fp fn k v).2.2))])), (f1, .inl (cI, 170, .inl ((FX8_noteRefusal ys yr yn fp fn k v).2.1)))] (va_A [(q0, .inr (8, [.ref qb, .ref qm, .ref qp, .ref qy, .ref qd, .ref qc, .ref qf, .ref qv, .int lr])), (qy, .inr (6, [.ref y1, .ref y2, .ref y3, .ref y4, .ref y5, .ref y6, .int (nI yn)])), (y1, .inl (cJ, 200, .inr (.inl ys))), (y2, .inl (cI, 200, .inl yp)), (y3, .inl (cI, 200, .inl yt)), (y4, .inl (cI, 200, .inl yh)), (y5, .inl (cI, 200, .inl ym)), (y6, .inl (cI, 200, .inl yr)), (qf, .inr (4, [.ref f1, .int (nI fn)])), (f1, .inl (cI, 170, .inl fp))] sz)) 0 0 (va_A [(q0, .inr (8, [.ref qb, .ref qm, .ref qp, .ref qy, .ref qd, .ref qc, .ref qf, .ref qv, .int lr])), (qy, .inr (6, [.ref y1, .ref y2, .ref y3, .ref y4, .ref y5, .ref y6, .int (nI yn)])), (y1, .inl (cJ, 200, .inr (.inl ys))), (y2, .inl (cI, 200, .inl yp)), (y3, .inl (cI, 200, .inl yt)), (y4, .inl (cI, 200, .inl yh)), (y5, .inl (cI, 200, .inl ym)), (y6, .inl (cI, 200, .inl yr)), (qf, .inr (4, [.ref f1, .int (nI fn)])), (f1, .inl (cI, 170, .inl fp))] sz) := by
  refine Met.ofW (cc := cX8_noteRefusal) (maxL := 4) (ret := none) (by decide) rfl ?_
  intro p e s m args below meth c s₁ B hml hv
  obtain ⟨rfl, hsz, hP, hK, hD0, hN⟩ := hv
  have hx := B.exec
  have hb := B.bytes
  have hr := B.returns
  have hts := atoms_spec (ws := wsX8_noteRefusal) B.pre
  have hown : s.vm.findClass RX8 = some m.cls := findClass_of_methodNamed B.named
  have hlocks := B.notSynchronized
  have iw_8 : ∀ w ∈ u_ws RX8 TX8 9, w ∈ wsX8_noteRefusal := by decide +kernel
  subst hsz
  have hD := hD0.self (sz := s.heap.size)
  generalize hE : FX8_noteRefusal ys yr yn fp fn k v = R0
  generalize hAe : va_A [(q0, .inr (8, [.ref qb, .ref qm, .ref qp, .ref qy, .ref qd, .ref qc, .ref qf, .ref qv, .int lr])), (qy, .inr (6, [.ref y1, .ref y2, .ref y3, .ref y4, .ref y5, .ref y6, .int (nI yn)])), (y1, .inl (cJ, 200, .inr (.inl ys))), (y2, .inl (cI, 200, .inl yp)), (y3, .inl (cI, 200, .inl yt)), (y4, .inl (cI, 200, .inl yh)), (y5, .inl (cI, 200, .inl ym)), (y6, .inl (cI, 200, .inl yr)), (qf, .inr (4, [.ref f1, .int (nI fn)])), (f1, .inl (cI, 170, .inl fp))] s.heap.size = A at hD ⊢
  have hA : ∀ q : Nat, s.heap.size ≤ q → A q := fun q h => by rw [← hAe]; exact Or.inr h
  have hS : va_S A s.heap s.heap [] := va_S.rf
  rw [FX8_noteRefusal] at hE
  have hl := lv_entry ([.ref q0, .int k, .long v]) (n := 4) (Nat.le_of_ble_eq_true rfl)
  rw [lg_entry_eq]
  generalize (lg_sl ([.ref q0, .int k, .long v]) ++ List.replicate (4 - (lg_sl ([.ref q0, .int k, .long v])).length) Slot.unset).toArray = ls at hl ⊢
  have hl : lv_has ls 4 [(0, .ref q0), (1, .int k), (2, .long v)] := hl
  refine lv_aload_n hx hb dX8_noteRefusal_0 rfl (lv_at hl 0 rfl) ?_
  refine va_get (D := D) (ci := 8) (v := .ref qy) (C := RX8) (T := TX8) (N := 9) hx hb hts iw_8 hown hK hP 0 rfl rfl 3 (by decide) (hts (.fieldLink RX8 33 "DepositCodes" "payments" "LDepositCodes$Payments;") (by decide +kernel)) (fun _ h9 => h9) rfl dX8_noteRefusal_1 ?_
  refine lv_lload_n hx hb dX8_noteRefusal_4 rfl (lv_at hl 2 rfl) ?_
  refine mt_call0 (wr := [(q0, .inr (8, [.ref qb, .ref qm, .ref qp, .ref qy, .ref qd, .ref qc, .ref qf, .ref qv, .int lr])), (qf, .inr (4, [.ref f1, .int (nI fn)])), (f1, .inl (cI, 170, .inl fp))]) (ws' := [(q0, .inr (8, [.ref qb, .ref qm, .ref qp, .ref qy, .ref qd, .ref qc, .ref qf, .ref qv, .int lr])), (qy, .inr (6, [.ref y1, .ref y2, .ref y3, .ref y4, .ref y5, .ref y6, .int (nI yn)])), (y1, .inl (cJ, 200, .inr (.inl ys))), (y2, .inl (cI, 200, .inl yp)), (y3, .inl (cI, 200, .inl yt)), (y4, .inl (cI, 200, .inl yh)), (y5, .inl (cI, 200, .inl ym)), (y6, .inl (cI, 200, .inl ((FX6_addRefusal ys yr yn v).2))), (qf, .inr (4, [.ref f1, .int (nI fn)])), (f1, .inl (cI, 170, .inl fp))]) (st1 := [.int ((FX6_addRefusal ys yr yn v).1)]) (va_runV (As := [.long v]) (rest := []) ⟨hx, hb, hml, hown, hts⟩ (kX6_addRefusal l D cI cJ cZ qy y1 y2 y3 y4 y5 y6 ys yp yt yh ym yr yn v _ (by first | assumption | omega)) (cwV 1 hts gX8_noteRefusal_X6_addRefusal rfl rfl rfl (by decide +kernel) ⟨Nat.le_of_ble_eq_true rfl, Nat.le_of_ble_eq_true rfl⟩) ⟨mP_blind, va_recv hK hP (ci := 6) (q0 := 1) rfl rfl, mP_pre (hP.sub [1, 2, 3, 4, 5, 6, 7] rfl) (hD.sub [1, 2, 3, 4, 5, 6, 7] (by decide) rfl) hK hN⟩ rfl rfl hl.1 rfl (lv_room (Nat.le_of_ble_eq_true rfl)) dX8_noteRefusal_5 ⟨Nat.zero_le _, Nat.zero_le _⟩) hP hD hS hA [1, 2, 3, 4, 5, 6, 7] [0, 8, 9] [0, 3, 4, 5, 6, 7, 8, 9, 1, 2] rfl rfl (by decide) (by decide) (by decide) rfl rfl (fun H locs hP hD hS => ?_)
  refine lv_iconst (v := 3) hx hb dX8_noteRefusal_8 (by decide) ?_
  refine lv_irem hx hb dX8_noteRefusal_9 (by decide) ?_
  refine lv_if_ne (tgt := 21) hx hb dX8_noteRefusal_10 (by decide) (fun c_1 => ?_) (fun c_1 => ?_)
  · rw [if_neg c_1] at hE
    subst hE
    exact W.vret hx hb hr (fun t ht hW => ⟨rfl, by rw [ht]; exact hP, hD, hS.F ht⟩) hS.2.2 dX8_noteRefusal_21
  · rw [if_pos c_1] at hE
    refine lv_aload_n hx hb dX8_noteRefusal_13 rfl (lv_at hl 0 rfl) ?_
    refine va_get (D := D) (ci := 8) (v := .ref qf) (C := RX8) (T := TX8) (N := 9) hx hb hts iw_8 hown hK hP 0 rfl rfl 6 (by decide) (hts (.fieldLink RX8 54 "DepositCodes" "frauds" "LDepositCodes$Frauds;") (by decide +kernel)) (fun _ h9 => h9) rfl dX8_noteRefusal_14 ?_
    refine lv_iload_n hx hb dX8_noteRefusal_17 rfl (lv_at hl 1 rfl) ?_
    refine mt_call0 (wr := [(q0, .inr (8, [.ref qb, .ref qm, .ref qp, .ref qy, .ref qd, .ref qc, .ref qf, .ref qv, .int lr])), (qy, .inr (6, [.ref y1, .ref y2, .ref y3, .ref y4, .ref y5, .ref y6, .int (nI yn)])), (y1, .inl (cJ, 200, .inr (.inl ys))), (y2, .inl (cI, 200, .inl yp)), (y3, .inl (cI, 200, .inl yt)), (y4, .inl (cI, 200, .inl yh)), (y5, .inl (cI, 200, .inl ym)), (y6, .inl (cI, 200, .inl ((FX6_addRefusal ys yr yn v).2)))]) (ws' := [(q0, .inr (8, [.ref qb, .ref qm, .ref qp, .ref qy, .ref qd, .ref qc, .ref qf, .ref qv, .int lr])), (qy, .inr (6, [.ref y1, .ref y2, .ref y3, .ref y4, .ref y5, .ref y6, .int (nI yn)])), (y1, .inl (cJ, 200, .inr (.inl ys))), (y2, .inl (cI, 200, .inl yp)), (y3, .inl (cI, 200, .inl yt)), (y4, .inl (cI, 200, .inl yh)), (y5, .inl (cI, 200, .inl ym)), (y6, .inl (cI, 200, .inl ((FX6_addRefusal ys yr yn v).2))), (qf, .inr (4, [.ref f1, .int (nI ((FX3_add fp fn k).2))])), (f1, .inl (cI, 170, .inl ((FX3_add fp fn k).1)))]) (st1 := []) (va_runV (As := [.int k]) (rest := []) ⟨hx, hb, hml, hown, hts⟩ (kX3_add l D cI cJ cZ qf f1 fp fn k _ (by first | assumption | omega)) (cwV 1 hts gX8_noteRefusal_X3_add rfl rfl rfl (by decide +kernel) ⟨Nat.le_of_ble_eq_true rfl, Nat.le_of_ble_eq_true rfl⟩) ⟨mP_blind, va_recv hK hP (ci := 4) (q0 := 8) rfl rfl, mP_pre (hP.sub [8, 9] rfl) (hD.sub [8, 9] (by decide) rfl) hK hN⟩ rfl rfl hl.1 rfl (lv_room (Nat.le_of_ble_eq_true rfl)) dX8_noteRefusal_18 ⟨Nat.zero_le _, Nat.zero_le _⟩) hP hD hS hA [8, 9] [0, 1, 2, 3, 4, 5, 6, 7] [0, 1, 2, 3, 4, 5, 6, 7, 8, 9] rfl rfl (by decide) (by decide) (by decide) rfl rfl (fun H locs hP hD hS => ?_)
    subst hE
    exact W.vret hx hb hr (fun t ht hW => ⟨rfl, by rw [ht]; exact hP, hD, hS.F ht⟩) hS.2.2 dX8_noteRefusal_21
def FX8_give (lr : Int32) (mf : Nat → Int32) (mp : Nat → Int32) (ms : Nat → Int32) (mu : Nat → Int32) (mn : Nat) (pt : Nat → Int32) (pl : Nat → Int32) (pm : Nat → Int32) (ys : Nat → Int64) (yp : Nat → Int32) (yt : Nat → Int32) (yh : Nat → Int32) (ym : Nat → Int32) (yr : Nat → Int32) (yn : Nat) (fp : Nat → Int32) (fn : Nat) (k : Int32) (v : Int64) (sh : Int32) (w : Int32) (sc : Int64) : Int32 × Int32 × (Nat → Int64) × (Nat → Int32) × (Nat → Int32) × (Nat → Int32) × (Nat → Int32) × (Nat → Int32) × Nat × (Nat → Int32) × (Nat → Int32) × Nat := if (FX5_isNumber v) = 0 then ((-1), lr, ys, yp, yt, yh, ym, yr, yn, mu, fp, fn) else (if (lg_cmp sc 0) < 0 then ((-1), lr, ys, yp, yt, yh, ym, yr, yn, mu, fp, fn) else (if 0 < (lg_cmp sc 100000000000) then ((-1), lr, ys, yp, yt, yh, ym, yr, yn, mu, fp, fn) else (if (FX6_areAtLimit yn) = 0 then (if (FX8_reasonToRefuse mf mp ms mn pt pl pm ys yt yn k v sh w) = 7 then (if (FX8_reasonToRefuse mf mp ms mn pt pl pm ys yt yn k v sh w) = 0 then (1, FX8_reasonToRefuse mf mp ms mn pt pl pm ys yt yn k v sh w, (FX6_add ys yp yt yh ym yn v k (FX4_setOf ms mn k) sh ((sc / 2592000).toInt32)).1, (FX6_add ys yp yt yh ym yn v k (FX4_setOf ms mn k) sh ((sc / 2592000).toInt32)).2.1, (FX6_add ys yp yt yh ym yn v k (FX4_setOf ms mn k) sh ((sc / 2592000).toInt32)).2.2.1, (FX6_add ys yp yt yh ym yn v k (FX4_setOf ms mn k) sh ((sc / 2592000).toInt32)).2.2.2.1, (FX6_add ys yp yt yh ym yn v k (FX4_setOf ms mn k) sh ((sc / 2592000).toInt32)).2.2.2.2.1, (FX8_noteRefusal ys yr yn fp fn k v).1, (FX6_add ys yp yt yh ym yn v k (FX4_setOf ms mn k) sh ((sc / 2592000).toInt32)).2.2.2.2.2, (FX4_addUnprinted mu mn k), (FX8_noteRefusal ys yr yn fp fn k v).2.1, (FX8_noteRefusal ys yr yn fp fn k v).2.2) else (0, FX8_reasonToRefuse mf mp ms mn pt pl pm ys yt yn k v sh w, ys, yp, yt, yh, ym, (FX8_noteRefusal ys yr yn fp fn k v).1, yn, mu, (FX8_noteRefusal ys yr yn fp fn k v).2.1, (FX8_noteRefusal ys yr yn fp fn k v).2.2)) else (if (FX8_reasonToRefuse mf mp ms mn pt pl pm ys yt yn k v sh w) = 0 then (1, FX8_reasonToRefuse mf mp ms mn pt pl pm ys yt yn k v sh w, (FX6_add ys yp yt yh ym yn v k (FX4_setOf ms mn k) sh ((sc / 2592000).toInt32)).1, (FX6_add ys yp yt yh ym yn v k (FX4_setOf ms mn k) sh ((sc / 2592000).toInt32)).2.1, (FX6_add ys yp yt yh ym yn v k (FX4_setOf ms mn k) sh ((sc / 2592000).toInt32)).2.2.1, (FX6_add ys yp yt yh ym yn v k (FX4_setOf ms mn k) sh ((sc / 2592000).toInt32)).2.2.2.1, (FX6_add ys yp yt yh ym yn v k (FX4_setOf ms mn k) sh ((sc / 2592000).toInt32)).2.2.2.2.1, yr, (FX6_add ys yp yt yh ym yn v k (FX4_setOf ms mn k) sh ((sc / 2592000).toInt32)).2.2.2.2.2, (FX4_addUnprinted mu mn k), fp, fn) else (0, FX8_reasonToRefuse mf mp ms mn pt pl pm ys yt yn k v sh w, ys, yp, yt, yh, ym, yr, yn, mu, fp, fn))) else ((-1), lr, ys, yp, yt, yh, ym, yr, yn, mu, fp, fn))))
set_option maxHeartbeats 4000000 in
set_option maxRecDepth 100000 in
theorem kX8_give (l : Launch) (D : va_G) (cI cJ cZ : ClassId) (q0 : Nat) (qb : Nat) (qm : Nat) (qp : Nat) (qy : Nat) (qd : Nat) (qc : Nat) (qf : Nat) (qv : Nat) (lr : Int32) (m1 : Nat) (m2 : Nat) (m3 : Nat) (m4 : Nat) (mf : Nat → Int32) (mp : Nat → Int32) (ms : Nat → Int32) (mu : Nat → Int32) (mn : Nat) (p1 : Nat) (p2 : Nat) (p3 : Nat) (pt : Nat → Int32) (pl : Nat → Int32) (pm : Nat → Int32) (y1 : Nat) (y2 : Nat) (y3 : Nat) (y4 : Nat) (y5 : Nat) (y6 : Nat) (ys : Nat → Int64) (yp : Nat → Int32) (yt : Nat → Int32) (yh : Nat → Int32) (ym : Nat → Int32) (yr : Nat → Int32) (yn : Nat) (f1 : Nat) (fp : Nat → Int32) (fn : Nat) (k : Int32) (v : Int64) (sh : Int32) (w : Int32) (sc : Int64) (sz : Nat) (hmn : mn ≤ 6) (hyn : yn ≤ 200) (hfn : fn ≤ 170) : Met l yX8_give wsX8_give ({ frames := 5, cells := 0, slots := 0, locals := 110 }) (mP D (tz cI cJ cZ) [.ref q0, .int k, .long v, .int sh, .int w, .long sc] sz [(q0, .inr (8, [.ref qb, .ref qm, .ref qp, .ref qy, .ref qd, .ref qc, .ref qf, .ref qv, .int lr])), (qm, .inr (5, [.ref m1, .ref m2, .ref m3, .ref m4, .int (nI mn)])), (m1, .inl (cZ, 6, .inl mf)), (m2, .inl (cZ, 6, .inl mp)), (m3, .inl (cI, 6, .inl ms)), (m4, .inl (cI, 6, .inl mu)), (qp, .inr (7, [.ref p1, .ref p2, .ref p3])), (p1, .inl (cZ, 8, .inl pt)), (p2, .inl (cI, 8, .inl pl)), (p3, .inl (cI, 8, .inl pm)), (qy, .inr (6, [.ref y1, .ref y2, .ref y3, .ref y4, .ref y5, .ref y6, .int (nI yn)])), (y1, .inl (cJ, 200, .inr (.inl ys))), (y2, .inl (cI, 200, .inl yp)), (y3, .inl (cI, 200, .inl yt)), (y4, .inl (cI, 200, .inl yh)), (y5, .inl (cI, 200, .inl ym)), (y6, .inl (cI, 200, .inl yr)), (qf, .inr (4, [.ref f1, .int (nI fn)])), (f1, .inl (cI, 170, .inl fp))]) (mQ D (some (.int ((FX8_give lr mf mp ms mu mn pt pl pm ys yp yt yh ym yr yn fp fn k v sh w sc).1))) [(q0, .inr (8, [.ref qb, .ref qm, .ref qp, .ref qy, .ref qd, .ref qc, .ref qf, .ref qv, .int ((FX8_give lr mf mp ms mu mn pt pl pm ys yp yt yh ym yr yn fp fn k v sh w sc).2.1)])), (qm, .inr (5, [.ref m1, .ref m2, .ref m3, .ref m4, .int (nI mn)])), (m1, .inl (cZ, 6, .inl mf)), (m2, .inl (cZ, 6, .inl mp)), (m3, .inl (cI, 6, .inl ms)), (m4, .inl (cI, 6, .inl ((FX8_give lr mf mp ms mu mn pt pl pm ys yp yt yh ym yr yn fp fn k v sh w sc).2.2.2.2.2.2.2.2.2.1))), (qp, .inr (7, [.ref p1, .ref p2, .ref p3])), (p1, .inl (cZ, 8, .inl pt)), (p2, .inl (cI, 8, .inl pl)), (p3, .inl (cI, 8, .inl pm)), (qy, .inr (6, [.ref y1, .ref y2, .ref y3, .ref y4, .ref y5, .ref y6, .int (nI ((FX8_give lr mf mp ms mu mn pt pl pm ys yp yt yh ym yr yn fp fn k v sh w sc).2.2.2.2.2.2.2.2.1))])), (y1, .inl (cJ, 200, .inr (.inl ((FX8_give lr mf mp ms mu mn pt pl pm ys yp yt yh ym yr yn fp fn k v sh w sc).2.2.1)))), (y2, .inl (cI, 200, .inl ((FX8_give lr mf mp ms mu mn pt pl pm ys yp yt yh ym yr yn fp fn k v sh w sc).2.2.2.1))), (y3, .inl (cI, 200, .inl ((FX8_give lr mf mp ms mu mn pt pl pm ys yp yt yh ym yr yn fp fn k v sh w sc).2.2.2.2.1))), (y4, .inl (cI, 200, .inl ((FX8_give lr mf mp ms mu mn pt pl pm ys yp yt yh ym yr yn fp fn k v sh w sc).2.2.2.2.2.1))), (y5, .inl (cI, 200, .inl ((FX8_give lr mf mp ms mu mn pt pl pm ys yp yt yh ym yr yn fp fn k v sh w sc).2.2.2.2.2.2.1))), (y6, .inl (cI, 200, .inl ((FX8_give lr mf mp ms mu mn pt pl pm ys yp yt yh ym yr yn fp fn k v sh w sc).2.2.2.2.2.2.2.1))), (qf, .inr (4, [.ref f1, .int (nI ((FX8_give lr mf mp ms mu mn pt pl pm ys yp yt yh ym yr yn fp fn k v sh w sc).2.2.2.2.2.2.2.2.2.2.2))])), (f1, .inl (cI, 170, .inl ((FX8_give lr mf mp ms mu mn pt pl pm ys yp yt yh ym yr yn fp fn k v sh w sc).2.2.2.2.2.2.2.2.2.2.1)))] (va_A [(q0, .inr (8, [.ref qb, .ref qm, .ref qp, .ref qy, .ref qd, .ref qc, .ref qf, .ref qv, .int lr])), (qm, .inr (5, [.ref m1, .ref m2, .ref m3, .ref m4, .int (nI mn)])), (m1, .inl (cZ, 6, .inl mf)), (m2, .inl (cZ, 6, .inl mp)), (m3, .inl (cI, 6, .inl ms)), (m4, .inl (cI, 6, .inl mu)), (qp, .inr (7, [.ref p1, .ref p2, .ref p3])), (p1, .inl (cZ, 8, .inl pt)), (p2, .inl (cI, 8, .inl pl)), (p3, .inl (cI, 8, .inl pm)), (qy, .inr (6, [.ref y1, .ref y2, .ref y3, .ref y4, .ref y5, .ref y6, .int (nI yn)])), (y1, .inl (cJ, 200, .inr (.inl ys))), (y2, .inl (cI, 200, .inl yp)), (y3, .inl (cI, 200, .inl yt)), (y4, .inl (cI, 200, .inl yh)), (y5, .inl (cI, 200, .inl ym)), (y6, .inl (cI, 200, .inl yr)), (qf, .inr (4, [.ref f1, .int (nI fn)])), (f1, .inl (cI, 170, .inl fp))] sz)) 0 0 (va_A [(q0, .inr (8, [.ref qb, .ref qm, .ref qp, .ref qy, .ref qd, .ref qc, .ref qf, .ref qv, .int lr])), (qm, .inr (5, [.ref m1, .ref m2, .ref m3, .ref m4, .int (nI mn)])), (m1, .inl (cZ, 6, .inl mf)), (m2, .inl (cZ, 6, .inl mp)), (m3, .inl (cI, 6, .inl ms)), (m4, .inl (cI, 6, .inl mu)), (qp, .inr (7, [.ref p1, .ref p2, .ref p3])), (p1, .inl (cZ, 8, .inl pt)), (p2, .inl (cI, 8, .inl pl)), (p3, .inl (cI, 8, .inl pm)), (qy, .inr (6, [.ref y1, .ref y2, .ref y3, .ref y4, .ref y5, .ref y6, .int (nI yn)])), (y1, .inl (cJ, 200, .inr (.inl ys))), (y2, .inl (cI, 200, .inl yp)), (y3, .inl (cI, 200, .inl yt)), (y4, .inl (cI, 200, .inl yh)), (y5, .inl (cI, 200, .inl ym)), (y6, .inl (cI, 200, .inl yr)), (qf, .inr (4, [.ref f1, .int (nI fn)])), (f1, .inl (cI, 170, .inl fp))] sz) := by
  refine Met.ofW (cc := cX8_give) (maxL := 9) (ret := (some .int)) (by decide) rfl ?_
  intro p e s m args below meth c s₁ B hml hv
  obtain ⟨rfl, hsz, hP, hK, hD0, hN⟩ := hv
  have hx := B.exec
  have hb := B.bytes
  have hr := B.returns
  have hts := atoms_spec (ws := wsX8_give) B.pre
  have hown : s.vm.findClass RX8 = some m.cls := findClass_of_methodNamed B.named
  have hlocks := B.notSynchronized
  have iw_8 : ∀ w ∈ u_ws RX8 TX8 9, w ∈ wsX8_give := by decide +kernel
  subst hsz
  have hD := hD0.self (sz := s.heap.size)
  generalize hE : FX8_give lr mf mp ms mu mn pt pl pm ys yp yt yh ym yr yn fp fn k v sh w sc = R0
  generalize hAe : va_A [(q0, .inr (8, [.ref qb, .ref qm, .ref qp, .ref qy, .ref qd, .ref qc, .ref qf, .ref qv, .int lr])), (qm, .inr (5, [.ref m1, .ref m2, .ref m3, .ref m4, .int (nI mn)])), (m1, .inl (cZ, 6, .inl mf)), (m2, .inl (cZ, 6, .inl mp)), (m3, .inl (cI, 6, .inl ms)), (m4, .inl (cI, 6, .inl mu)), (qp, .inr (7, [.ref p1, .ref p2, .ref p3])), (p1, .inl (cZ, 8, .inl pt)), (p2, .inl (cI, 8, .inl pl)), (p3, .inl (cI, 8, .inl pm)), (qy, .inr (6, [.ref y1, .ref y2, .ref y3, .ref y4, .ref y5, .ref y6, .int (nI yn)])), (y1, .inl (cJ, 200, .inr (.inl ys))), (y2, .inl (cI, 200, .inl yp)), (y3, .inl (cI, 200, .inl yt)), (y4, .inl (cI, 200, .inl yh)), (y5, .inl (cI, 200, .inl ym)), (y6, .inl (cI, 200, .inl yr)), (qf, .inr (4, [.ref f1, .int (nI fn)])), (f1, .inl (cI, 170, .inl fp))] s.heap.size = A at hD ⊢
  have hA : ∀ q : Nat, s.heap.size ≤ q → A q := fun q h => by rw [← hAe]; exact Or.inr h
  have hS : va_S A s.heap s.heap [] := va_S.rf
  rw [FX8_give] at hE
  have hl := lv_entry ([.ref q0, .int k, .long v, .int sh, .int w, .long sc]) (n := 9) (Nat.le_of_ble_eq_true rfl)
  rw [lg_entry_eq]
  generalize (lg_sl ([.ref q0, .int k, .long v, .int sh, .int w, .long sc]) ++ List.replicate (9 - (lg_sl ([.ref q0, .int k, .long v, .int sh, .int w, .long sc])).length) Slot.unset).toArray = ls at hl ⊢
  have hl : lv_has ls 9 [(0, .ref q0), (1, .int k), (2, .long v), (4, .int sh), (5, .int w), (6, .long sc)] := hl
  refine lv_lload_n hx hb dX8_give_0 rfl (lv_at hl 2 rfl) ?_
  refine rd_call (va_runS (As := [.long v]) (rest := []) ⟨hx, hb, hml, hown, hts⟩ (kX5_isNumber l D cI cJ cZ v) (va_cwS 1 hts gX8_give_X5_isNumber rfl rfl rfl (by decide +kernel) ⟨Nat.le_of_ble_eq_true rfl, Nat.le_of_ble_eq_true rfl⟩) ⟨rP_blind, rP_pre (va_P_nil) hK hN⟩ rfl rfl hl.1 rfl (lv_room (Nat.le_of_ble_eq_true rfl)) dX8_give_1 ⟨Nat.zero_le _, Nat.zero_le _⟩) ?_
  refine lv_if_eq (tgt := 33) hx hb dX8_give_4 (by decide) (fun c_1 => ?_) (fun c_1 => ?_)
  · rw [if_pos c_1] at hE
    refine lv_iconst (v := (-1)) hx hb dX8_give_33 (by decide) ?_
    subst hE
    exact W.iret hx hb hr (fun t ht hW => ⟨rfl, by rw [ht]; exact hP, hD, hS.F ht⟩) hS.2.2 dX8_give_34
  · rw [if_neg c_1] at hE
    refine lv_lload hx hb dX8_give_7 (lv_at hl 5 rfl) ?_
    refine lv_lconst (v := 0) hx hb dX8_give_9 (by decide) ?_
    refine W.lcmp hx hb dX8_give_10 ?_
    refine lv_if_lt (tgt := 33) hx hb dX8_give_11 (by decide) (fun c_2 => ?_) (fun c_2 => ?_)
    · rw [if_pos c_2] at hE
      refine lv_iconst (v := (-1)) hx hb dX8_give_33 (by decide) ?_
      subst hE
      exact W.iret hx hb hr (fun t ht hW => ⟨rfl, by rw [ht]; exact hP, hD, hS.F ht⟩) hS.2.2 dX8_give_34
    · rw [if_neg c_2] at hE
      refine lv_lload hx hb dX8_give_14 (lv_at hl 5 rfl) ?_
      refine lv_ldc2 hx hb hown (hts (.constantLong RX8 114 100000000000) (by decide +kernel)) dX8_give_16 ?_
      refine W.lcmp hx hb dX8_give_19 ?_
      refine lv_if_gt (tgt := 33) hx hb dX8_give_20 (by decide) (fun c_3 => ?_) (fun c_3 => ?_)
      · rw [if_pos c_3] at hE
        refine lv_iconst (v := (-1)) hx hb dX8_give_33 (by decide) ?_
        subst hE
        exact W.iret hx hb hr (fun t ht hW => ⟨rfl, by rw [ht]; exact hP, hD, hS.F ht⟩) hS.2.2 dX8_give_34
      · rw [if_neg c_3] at hE
        refine lv_aload_n hx hb dX8_give_23 rfl (lv_at hl 0 rfl) ?_
        refine va_get (D := D) (ci := 8) (v := .ref qy) (C := RX8) (T := TX8) (N := 9) hx hb hts iw_8 hown hK hP 0 rfl rfl 3 (by decide) (hts (.fieldLink RX8 33 "DepositCodes" "payments" "LDepositCodes$Payments;") (by decide +kernel)) (fun _ h9 => h9) rfl dX8_give_24 ?_
        refine rd_call (va_runV (As := []) (rest := []) ⟨hx, hb, hml, hown, hts⟩ (kX6_areAtLimit l D cI cJ cZ qy y1 y2 y3 y4 y5 y6 ys yp yt yh ym yr yn (by first | assumption | omega)) (cwV 0 hts gX8_give_X6_areAtLimit rfl rfl rfl (by decide +kernel) ⟨Nat.le_of_ble_eq_true rfl, Nat.le_of_ble_eq_true rfl⟩) ⟨rP_blind, va_recv hK hP (ci := 6) (q0 := 10) rfl rfl, rP_pre (hP.sub [10, 11, 12, 13, 14, 15, 16] rfl) hK hN⟩ rfl rfl hl.1 rfl (lv_room (Nat.le_of_ble_eq_true rfl)) dX8_give_27 ⟨Nat.zero_le _, Nat.zero_le _⟩) ?_
        refine lv_if_eq (tgt := 35) hx hb dX8_give_30 (by decide) (fun c_4 => ?_) (fun c_4 => ?_)
        · rw [if_pos c_4] at hE
          refine lv_aload_n hx hb dX8_give_35 rfl (lv_at hl 0 rfl) ?_
          refine lv_aload_n hx hb dX8_give_36 rfl (lv_at hl 0 rfl) ?_
          refine lv_iload_n hx hb dX8_give_37 rfl (lv_at hl 1 rfl) ?_
          refine lv_lload_n hx hb dX8_give_38 rfl (lv_at hl 2 rfl) ?_
          refine lv_iload hx hb dX8_give_39 (lv_at hl 3 rfl) ?_
          refine lv_iload hx hb dX8_give_41 (lv_at hl 4 rfl) ?_
          refine rd_call (va_runV (As := [.int k, .long v, .int sh, .int w]) (rest := [.ref q0]) ⟨hx, hb, hml, hown, hts⟩ (kX8_reasonToRefuse l D cI cJ cZ q0 qb qm qp qy qd qc qf qv lr m1 m2 m3 m4 mf mp ms mu mn p1 p2 p3 pt pl pm y1 y2 y3 y4 y5 y6 ys yp yt yh ym yr yn k v sh w (by first | assumption | omega) (by first | assumption | omega)) (cwV 4 hts gX8_give_X8_reasonToRefuse rfl rfl rfl (by decide +kernel) ⟨Nat.le_of_ble_eq_true rfl, Nat.le_of_ble_eq_true rfl⟩) ⟨rP_blind, va_recv hK hP (ci := 8) (q0 := 0) rfl rfl, rP_pre (hP.sub [0, 1, 2, 3, 4, 5, 6, 7, 8, 9, 10, 11, 12, 13, 14, 15, 16] rfl) hK hN⟩ rfl rfl hl.1 rfl (lv_room (Nat.le_of_ble_eq_true rfl)) dX8_give_43 ⟨Nat.zero_le _, Nat.zero_le _⟩) ?_
          refine va_put (D := D) (ci := 8) (v := .int (FX8_reasonToRefuse mf mp ms mn pt pl pm ys yt yn k v sh w)) (ty := .int) (C := RX8) (T := TX8) (N := 9) hx hb hts iw_8 tyX8 tyX8_ok nmX8 hown hK hP hD hS 0 rfl rfl 8 (by decide) (hts (.fieldLink RX8 62 "DepositCodes" "latestReason" "I") (by decide +kernel)) (fun _ h9 => h9) rfl (by decide +kernel) rfl rfl (Nat.le_of_ble_eq_true rfl) dX8_give_46 (fun H locs hP hD hS => ?_)
          have hP : va_P D vwCl [(q0, .inr (8, [.ref qb, .ref qm, .ref qp, .ref qy, .ref qd, .ref qc, .ref qf, .ref qv, .int (FX8_reasonToRefuse mf mp ms mn pt pl pm ys yt yn k v sh w)])), (qm, .inr (5, [.ref m1, .ref m2, .ref m3, .ref m4, .int (nI mn)])), (m1, .inl (cZ, 6, .inl mf)), (m2, .inl (cZ, 6, .inl mp)), (m3, .inl (cI, 6, .inl ms)), (m4, .inl (cI, 6, .inl mu)), (qp, .inr (7, [.ref p1, .ref p2, .ref p3])), (p1, .inl (cZ, 8, .inl pt)), (p2, .inl (cI, 8, .inl pl)), (p3, .inl (cI, 8, .inl pm)), (qy, .inr (6, [.ref y1, .ref y2, .ref y3, .ref y4, .ref y5, .ref y6, .int (nI yn)])), (y1, .inl (cJ, 200, .inr (.inl ys))), (y2, .inl (cI, 200, .inl yp)), (y3, .inl (cI, 200, .inl yt)), (y4, .inl (cI, 200, .inl yh)), (y5, .inl (cI, 200, .inl ym)), (y6, .inl (cI, 200, .inl yr)), (qf, .inr (4, [.ref f1, .int (nI fn)])), (f1, .inl (cI, 170, .inl fp))] H := hP
          have hD : va_D A [(q0, .inr (8, [.ref qb, .ref qm, .ref qp, .ref qy, .ref qd, .ref qc, .ref qf, .ref qv, .int (FX8_reasonToRefuse mf mp ms mn pt pl pm ys yt yn k v sh w)])), (qm, .inr (5, [.ref m1, .ref m2, .ref m3, .ref m4, .int (nI mn)])), (m1, .inl (cZ, 6, .inl mf)), (m2, .inl (cZ, 6, .inl mp)), (m3, .inl (cI, 6, .inl ms)), (m4, .inl (cI, 6, .inl mu)), (qp, .inr (7, [.ref p1, .ref p2, .ref p3])), (p1, .inl (cZ, 8, .inl pt)), (p2, .inl (cI, 8, .inl pl)), (p3, .inl (cI, 8, .inl pm)), (qy, .inr (6, [.ref y1, .ref y2, .ref y3, .ref y4, .ref y5, .ref y6, .int (nI yn)])), (y1, .inl (cJ, 200, .inr (.inl ys))), (y2, .inl (cI, 200, .inl yp)), (y3, .inl (cI, 200, .inl yt)), (y4, .inl (cI, 200, .inl yh)), (y5, .inl (cI, 200, .inl ym)), (y6, .inl (cI, 200, .inl yr)), (qf, .inr (4, [.ref f1, .int (nI fn)])), (f1, .inl (cI, 170, .inl fp))] := hD
          refine lv_aload_n hx hb dX8_give_49 rfl (lv_at hl 0 rfl) ?_
          refine va_get (D := D) (ci := 8) (v := .int (FX8_reasonToRefuse mf mp ms mn pt pl pm ys yt yn k v sh w)) (C := RX8) (T := TX8) (N := 9) hx hb hts iw_8 hown hK hP 0 rfl rfl 8 (by decide) (hts (.fieldLink RX8 62 "DepositCodes" "latestReason" "I") (by decide +kernel)) (fun _ h9 => h9) rfl dX8_give_50 ?_
          refine lv_bipush (v := 7) hx hb dX8_give_53 (by decide) ?_
          refine lv_icmp_ne (tgt := 64) hx hb dX8_give_55 (by decide) (fun c_5 => ?_) (fun c_5 => ?_)
          · rw [if_neg c_5] at hE
            refine lv_aload_n hx hb dX8_give_64 rfl (lv_at hl 0 rfl) ?_
            refine va_get (D := D) (ci := 8) (v := .int (FX8_reasonToRefuse mf mp ms mn pt pl pm ys yt yn k v sh w)) (C := RX8) (T := TX8) (N := 9) hx hb hts iw_8 hown hK hP 0 rfl rfl 8 (by decide) (hts (.fieldLink RX8 62 "DepositCodes" "latestReason" "I") (by decide +kernel)) (fun _ h9 => h9) rfl dX8_give_65 ?_
            refine lv_if_eq (tgt := 73) hx hb dX8_give_68 (by decide) (fun c_6 => ?_) (fun c_6 => ?_)
            · rw [if_pos c_6] at hE
              refine lv_lload hx hb dX8_give_73 (lv_at hl 5 rfl) ?_
              refine lv_ldc2 hx hb hown (hts (.constantLong RX8 128 2592000) (by decide +kernel)) dX8_give_75 ?_
              refine lv_ldiv hx hb dX8_give_78 (by decide) ?_
              refine lv_l2i hx hb dX8_give_79 rfl ?_
              refine lv_istore (lv' := [(8, .int ((sc / 2592000).toInt32)), (0, .ref q0), (1, .int k), (2, .long v), (4, .int sh), (5, .int w), (6, .long sc)]) hx hb dX8_give_80 hl (by decide) rfl (fun ls hl => ?_)
              refine lv_aload_n hx hb dX8_give_82 rfl (lv_at hl 1 rfl) ?_
              refine va_get (D := D) (ci := 8) (v := .ref qy) (C := RX8) (T := TX8) (N := 9) hx hb hts iw_8 hown hK hP 0 rfl rfl 3 (by decide) (hts (.fieldLink RX8 33 "DepositCodes" "payments" "LDepositCodes$Payments;") (by decide +kernel)) (fun _ h9 => h9) rfl dX8_give_83 ?_
              refine lv_lload_n hx hb dX8_give_86 rfl (lv_at hl 3 rfl) ?_
              refine lv_iload_n hx hb dX8_give_87 rfl (lv_at hl 2 rfl) ?_
              refine lv_aload_n hx hb dX8_give_88 rfl (lv_at hl 1 rfl) ?_
              refine va_get (D := D) (ci := 8) (v := .ref qm) (C := RX8) (T := TX8) (N := 9) hx hb hts iw_8 hown hK hP 0 rfl rfl 1 (by decide) (hts (.fieldLink RX8 19 "DepositCodes" "machines" "LDepositCodes$Machines;") (by decide +kernel)) (fun _ h9 => h9) rfl dX8_give_89 ?_
              refine lv_iload_n hx hb dX8_give_92 rfl (lv_at hl 2 rfl) ?_
              refine rd_call (va_runV (As := [.int k]) (rest := [.int k, .long v, .ref qy]) ⟨hx, hb, hml, hown, hts⟩ (kX4_setOf l D cI cJ cZ qm m1 m2 m3 m4 mf mp ms mu mn k (by first | assumption | omega)) (cwV 1 hts gX8_give_X4_setOf rfl rfl rfl (by decide +kernel) ⟨Nat.le_of_ble_eq_true rfl, Nat.le_of_ble_eq_true rfl⟩) ⟨rP_blind, va_recv hK hP (ci := 5) (q0 := 1) rfl rfl, rP_pre (hP.sub [1, 2, 3, 4, 5] rfl) hK hN⟩ rfl rfl hl.1 rfl (lv_room (Nat.le_of_ble_eq_true rfl)) dX8_give_93 ⟨Nat.zero_le _, Nat.zero_le _⟩) ?_
              refine lv_iload hx hb dX8_give_96 (lv_at hl 4 rfl) ?_
              refine lv_iload hx hb dX8_give_98 (lv_at hl 0 rfl) ?_
              refine mt_call0 (wr := [(q0, .inr (8, [.ref qb, .ref qm, .ref qp, .ref qy, .ref qd, .ref qc, .ref qf, .ref qv, .int (FX8_reasonToRefuse mf mp ms mn pt pl pm ys yt yn k v sh w)])), (qm, .inr (5, [.ref m1, .ref m2, .ref m3, .ref m4, .int (nI mn)])), (m1, .inl (cZ, 6, .inl mf)), (m2, .inl (cZ, 6, .inl mp)), (m3, .inl (cI, 6, .inl ms)), (m4, .inl (cI, 6, .inl mu)), (qp, .inr (7, [.ref p1, .ref p2, .ref p3])), (p1, .inl (cZ, 8, .inl pt)), (p2, .inl (cI, 8, .inl pl)), (p3, .inl (cI, 8, .inl pm)), (qf, .inr (4, [.ref f1, .int (nI fn)])), (f1, .inl (cI, 170, .inl fp))]) (ws' := [(q0, .inr (8, [.ref qb, .ref qm, .ref qp, .ref qy, .ref qd, .ref qc, .ref qf, .ref qv, .int (FX8_reasonToRefuse mf mp ms mn pt pl pm ys yt yn k v sh w)])), (qm, .inr (5, [.ref m1, .ref m2, .ref m3, .ref m4, .int (nI mn)])), (m1, .inl (cZ, 6, .inl mf)), (m2, .inl (cZ, 6, .inl mp)), (m3, .inl (cI, 6, .inl ms)), (m4, .inl (cI, 6, .inl mu)), (qp, .inr (7, [.ref p1, .ref p2, .ref p3])), (p1, .inl (cZ, 8, .inl pt)), (p2, .inl (cI, 8, .inl pl)), (p3, .inl (cI, 8, .inl pm)), (qy, .inr (6, [.ref y1, .ref y2, .ref y3, .ref y4, .ref y5, .ref y6, .int (nI ((FX6_add ys yp yt yh ym yn v k (FX4_setOf ms mn k) sh ((sc / 2592000).toInt32)).2.2.2.2.2))])), (y1, .inl (cJ, 200, .inr (.inl ((FX6_add ys yp yt yh ym yn v k (FX4_setOf ms mn k) sh ((sc / 2592000).toInt32)).1)))), (y2, .inl (cI, 200, .inl ((FX6_add ys yp yt yh ym yn v k (FX4_setOf ms mn k) sh ((sc / 2592000).toInt32)).2.1))), (y3, .inl (cI, 200, .inl ((FX6_add ys yp yt yh ym yn v k (FX4_setOf ms mn k) sh ((sc / 2592000).toInt32)).2.2.1))), (y4, .inl (cI, 200, .inl ((FX6_add ys yp yt yh ym yn v k (FX4_setOf ms mn k) sh ((sc / 2592000).toInt32)).2.2.2.1))), (y5, .inl (cI, 200, .inl ((FX6_add ys yp yt yh ym yn v k (FX4_setOf ms mn k) sh ((sc / 2592000).toInt32)).2.2.2.2.1))), (y6, .inl (cI, 200, .inl yr)), (qf, .inr (4, [.ref f1, .int (nI fn)])), (f1, .inl (cI, 170, .inl fp))]) (st1 := []) (va_runV (As := [.long v, .int k, .int (FX4_setOf ms mn k), .int sh, .int ((sc / 2592000).toInt32)]) (rest := []) ⟨hx, hb, hml, hown, hts⟩ (kX6_add l D cI cJ cZ qy y1 y2 y3 y4 y5 y6 ys yp yt yh ym yr yn v k (FX4_setOf ms mn k) sh ((sc / 2592000).toInt32) _ (by first | assumption | omega)) (cwV 5 hts gX8_give_X6_add rfl rfl rfl (by decide +kernel) ⟨Nat.le_of_ble_eq_true rfl, Nat.le_of_ble_eq_true rfl⟩) ⟨mP_blind, va_recv hK hP (ci := 6) (q0 := 10) rfl rfl, mP_pre (hP.sub [10, 11, 12, 13, 14, 15, 16] rfl) (hD.sub [10, 11, 12, 13, 14, 15, 16] (by decide) rfl) hK hN⟩ rfl rfl hl.1 rfl (lv_room (Nat.le_of_ble_eq_true rfl)) dX8_give_100 ⟨Nat.zero_le _, Nat.zero_le _⟩) hP hD hS hA [10, 11, 12, 13, 14, 15, 16] [0, 1, 2, 3, 4, 5, 6, 7, 8, 9, 17, 18] [0, 1, 2, 3, 4, 5, 6, 7, 8, 9, 12, 13, 14, 15, 16, 17, 18, 10, 11] rfl rfl (by decide) (by decide) (by decide) rfl rfl (fun H locs hP hD hS => ?_)
              refine lv_aload_n hx hb dX8_give_103 rfl (lv_at hl 1 rfl) ?_
              refine va_get (D := D) (ci := 8) (v := .ref qm) (C := RX8) (T := TX8) (N := 9) hx hb hts iw_8 hown hK hP 0 rfl rfl 1 (by decide) (hts (.fieldLink RX8 19 "DepositCodes" "machines" "LDepositCodes$Machines;") (by decide +kernel)) (fun _ h9 => h9) rfl dX8_give_104 ?_
              refine lv_iload_n hx hb dX8_give_107 rfl (lv_at hl 2 rfl) ?_
              refine mt_call0 (wr := [(q0, .inr (8, [.ref qb, .ref qm, .ref qp, .ref qy, .ref qd, .ref qc, .ref qf, .ref qv, .int (FX8_reasonToRefuse mf mp ms mn pt pl pm ys yt yn k v sh w)])), (qp, .inr (7, [.ref p1, .ref p2, .ref p3])), (p1, .inl (cZ, 8, .inl pt)), (p2, .inl (cI, 8, .inl pl)), (p3, .inl (cI, 8, .inl pm)), (qy, .inr (6, [.ref y1, .ref y2, .ref y3, .ref y4, .ref y5, .ref y6, .int (nI ((FX6_add ys yp yt yh ym yn v k (FX4_setOf ms mn k) sh ((sc / 2592000).toInt32)).2.2.2.2.2))])), (y1, .inl (cJ, 200, .inr (.inl ((FX6_add ys yp yt yh ym yn v k (FX4_setOf ms mn k) sh ((sc / 2592000).toInt32)).1)))), (y2, .inl (cI, 200, .inl ((FX6_add ys yp yt yh ym yn v k (FX4_setOf ms mn k) sh ((sc / 2592000).toInt32)).2.1))), (y3, .inl (cI, 200, .inl ((FX6_add ys yp yt yh ym yn v k (FX4_setOf ms mn k) sh ((sc / 2592000).toInt32)).2.2.1))), (y4, .inl (cI, 200, .inl ((FX6_add ys yp yt yh ym yn v k (FX4_setOf ms mn k) sh ((sc / 2592000).toInt32)).2.2.2.1))), (y5, .inl (cI, 200, .inl ((FX6_add ys yp yt yh ym yn v k (FX4_setOf ms mn k) sh ((sc / 2592000).toInt32)).2.2.2.2.1))), (y6, .inl (cI, 200, .inl yr)), (qf, .inr (4, [.ref f1, .int (nI fn)])), (f1, .inl (cI, 170, .inl fp))]) (ws' := [(q0, .inr (8, [.ref qb, .ref qm, .ref qp, .ref qy, .ref qd, .ref qc, .ref qf, .ref qv, .int (FX8_reasonToRefuse mf mp ms mn pt pl pm ys yt yn k v sh w)])), (qm, .inr (5, [.ref m1, .ref m2, .ref m3, .ref m4, .int (nI mn)])), (m1, .inl (cZ, 6, .inl mf)), (m2, .inl (cZ, 6, .inl mp)), (m3, .inl (cI, 6, .inl ms)), (m4, .inl (cI, 6, .inl (FX4_addUnprinted mu mn k))), (qp, .inr (7, [.ref p1, .ref p2, .ref p3])), (p1, .inl (cZ, 8, .inl pt)), (p2, .inl (cI, 8, .inl pl)), (p3, .inl (cI, 8, .inl pm)), (qy, .inr (6, [.ref y1, .ref y2, .ref y3, .ref y4, .ref y5, .ref y6, .int (nI ((FX6_add ys yp yt yh ym yn v k (FX4_setOf ms mn k) sh ((sc / 2592000).toInt32)).2.2.2.2.2))])), (y1, .inl (cJ, 200, .inr (.inl ((FX6_add ys yp yt yh ym yn v k (FX4_setOf ms mn k) sh ((sc / 2592000).toInt32)).1)))), (y2, .inl (cI, 200, .inl ((FX6_add ys yp yt yh ym yn v k (FX4_setOf ms mn k) sh ((sc / 2592000).toInt32)).2.1))), (y3, .inl (cI, 200, .inl ((FX6_add ys yp yt yh ym yn v k (FX4_setOf ms mn k) sh ((sc / 2592000).toInt32)).2.2.1))), (y4, .inl (cI, 200, .inl ((FX6_add ys yp yt yh ym yn v k (FX4_setOf ms mn k) sh ((sc / 2592000).toInt32)).2.2.2.1))), (y5, .inl (cI, 200, .inl ((FX6_add ys yp yt yh ym yn v k (FX4_setOf ms mn k) sh ((sc / 2592000).toInt32)).2.2.2.2.1))), (y6, .inl (cI, 200, .inl yr)), (qf, .inr (4, [.ref f1, .int (nI fn)])), (f1, .inl (cI, 170, .inl fp))]) (st1 := []) (va_runV (As := [.int k]) (rest := []) ⟨hx, hb, hml, hown, hts⟩ (kX4_addUnprinted l D cI cJ cZ qm m1 m2 m3 m4 mf mp ms mu mn k _ (by first | assumption | omega)) (cwV 1 hts gX8_give_X4_addUnprinted rfl rfl rfl (by decide +kernel) ⟨Nat.le_of_ble_eq_true rfl, Nat.le_of_ble_eq_true rfl⟩) ⟨mP_blind, va_recv hK hP (ci := 5) (q0 := 1) rfl rfl, mP_pre (hP.sub [1, 2, 3, 4, 5] rfl) (hD.sub [1, 2, 3, 4, 5] (by decide) rfl) hK hN⟩ rfl rfl hl.1 rfl (lv_room (Nat.le_of_ble_eq_true rfl)) dX8_give_108 ⟨Nat.zero_le _, Nat.zero_le _⟩) hP hD hS hA [1, 2, 3, 4, 5] [0, 6, 7, 8, 9, 10, 11, 12, 13, 14, 15, 16, 17, 18] [0, 14, 15, 16, 17, 18, 1, 2, 3, 4, 5, 6, 7, 8, 9, 10, 11, 12, 13] rfl rfl (by decide) (by decide) (by decide) rfl rfl (fun H locs hP hD hS => ?_)
              refine lv_iconst (v := 1) hx hb dX8_give_111 (by decide) ?_
              subst hE
              exact W.iret hx hb hr (fun t ht hW => ⟨rfl, by rw [ht]; exact hP, hD, hS.F ht⟩) hS.2.2 dX8_give_112
            · rw [if_neg c_6] at hE
              refine lv_iconst (v := 0) hx hb dX8_give_71 (by decide) ?_
              subst hE
              exact W.iret hx hb hr (fun t ht hW => ⟨rfl, by rw [ht]; exact hP, hD, hS.F ht⟩) hS.2.2 dX8_give_72
          · rw [if_pos c_5] at hE
            refine lv_aload_n hx hb dX8_give_58 rfl (lv_at hl 0 rfl) ?_
            refine lv_iload_n hx hb dX8_give_59 rfl (lv_at hl 1 rfl) ?_
            refine lv_lload_n hx hb dX8_give_60 rfl (lv_at hl 2 rfl) ?_
            refine mt_call0 (wr := [(qm, .inr (5, [.ref m1, .ref m2, .ref m3, .ref m4, .int (nI mn)])), (m1, .inl (cZ, 6, .inl mf)), (m2, .inl (cZ, 6, .inl mp)), (m3, .inl (cI, 6, .inl ms)), (m4, .inl (cI, 6, .inl mu)), (qp, .inr (7, [.ref p1, .ref p2, .ref p3])), (p1, .inl (cZ, 8, .inl pt)), (p2, .inl (cI, 8, .inl pl)), (p3, .inl (cI, 8, .inl pm))]) (ws' := [(q0, .inr (8, [.ref qb, .ref qm, .ref qp, .ref qy, .ref qd, .ref qc, .ref qf, .ref qv, .int (FX8_reasonToRefuse mf mp ms mn pt pl pm ys yt yn k v sh w)])), (qm, .inr (5, [.ref m1, .ref m2, .ref m3, .ref m4, .int (nI mn)])), (m1, .inl (cZ, 6, .inl mf)), (m2, .inl (cZ, 6, .inl mp)), (m3, .inl (cI, 6, .inl ms)), (m4, .inl (cI, 6, .inl mu)), (qp, .inr (7, [.ref p1, .ref p2, .ref p3])), (p1, .inl (cZ, 8, .inl pt)), (p2, .inl (cI, 8, .inl pl)), (p3, .inl (cI, 8, .inl pm)), (qy, .inr (6, [.ref y1, .ref y2, .ref y3, .ref y4, .ref y5, .ref y6, .int (nI yn)])), (y1, .inl (cJ, 200, .inr (.inl ys))), (y2, .inl (cI, 200, .inl yp)), (y3, .inl (cI, 200, .inl yt)), (y4, .inl (cI, 200, .inl yh)), (y5, .inl (cI, 200, .inl ym)), (y6, .inl (cI, 200, .inl ((FX8_noteRefusal ys yr yn fp fn k v).1))), (qf, .inr (4, [.ref f1, .int (nI ((FX8_noteRefusal ys yr yn fp fn k v).2.2))])), (f1, .inl (cI, 170, .inl ((FX8_noteRefusal ys yr yn fp fn k v).2.1)))]) (st1 := []) (va_runV (As := [.int k, .long v]) (rest := []) ⟨hx, hb, hml, hown, hts⟩ (kX8_noteRefusal l D cI cJ cZ q0 qb qm qp qy qd qc qf qv (FX8_reasonToRefuse mf mp ms mn pt pl pm ys yt yn k v sh w) y1 y2 y3 y4 y5 y6 ys yp yt yh ym yr yn f1 fp fn k v _ (by first | assumption | omega) (by first | assumption | omega)) (cwV 2 hts gX8_give_X8_noteRefusal rfl rfl rfl (by decide +kernel) ⟨Nat.le_of_ble_eq_true rfl, Nat.le_of_ble_eq_true rfl⟩) ⟨mP_blind, va_recv hK hP (ci := 8) (q0 := 0) rfl rfl, mP_pre (hP.sub [0, 10, 11, 12, 13, 14, 15, 16, 17, 18] rfl) (hD.sub [0, 10, 11, 12, 13, 14, 15, 16, 17, 18] (by decide) rfl) hK hN⟩ rfl rfl hl.1 rfl (lv_room (Nat.le_of_ble_eq_true rfl)) dX8_give_61 ⟨Nat.zero_le _, Nat.zero_le _⟩) hP hD hS hA [0, 10, 11, 12, 13, 14, 15, 16, 17, 18] [1, 2, 3, 4, 5, 6, 7, 8, 9] [9, 0, 1, 2, 3, 4, 5, 6, 7, 8, 10, 11, 12, 13, 14, 15, 16, 17, 18] rfl rfl (by decide) (by decide) (by decide) rfl rfl (fun H locs hP hD hS => ?_)
            refine lv_aload_n hx hb dX8_give_64 rfl (lv_at hl 0 rfl) ?_
            refine va_get (D := D) (ci := 8) (v := .int (FX8_reasonToRefuse mf mp ms mn pt pl pm ys yt yn k v sh w)) (C := RX8) (T := TX8) (N := 9) hx hb hts iw_8 hown hK hP 0 rfl rfl 8 (by decide) (hts (.fieldLink RX8 62 "DepositCodes" "latestReason" "I") (by decide +kernel)) (fun _ h9 => h9) rfl dX8_give_65 ?_
            refine lv_if_eq (tgt := 73) hx hb dX8_give_68 (by decide) (fun c_7 => ?_) (fun c_7 => ?_)
            · rw [if_pos c_7] at hE
              refine lv_lload hx hb dX8_give_73 (lv_at hl 5 rfl) ?_
              refine lv_ldc2 hx hb hown (hts (.constantLong RX8 128 2592000) (by decide +kernel)) dX8_give_75 ?_
              refine lv_ldiv hx hb dX8_give_78 (by decide) ?_
              refine lv_l2i hx hb dX8_give_79 rfl ?_
              refine lv_istore (lv' := [(8, .int ((sc / 2592000).toInt32)), (0, .ref q0), (1, .int k), (2, .long v), (4, .int sh), (5, .int w), (6, .long sc)]) hx hb dX8_give_80 hl (by decide) rfl (fun ls hl => ?_)
              refine lv_aload_n hx hb dX8_give_82 rfl (lv_at hl 1 rfl) ?_
              refine va_get (D := D) (ci := 8) (v := .ref qy) (C := RX8) (T := TX8) (N := 9) hx hb hts iw_8 hown hK hP 0 rfl rfl 3 (by decide) (hts (.fieldLink RX8 33 "DepositCodes" "payments" "LDepositCodes$Payments;") (by decide +kernel)) (fun _ h9 => h9) rfl dX8_give_83 ?_
              refine lv_lload_n hx hb dX8_give_86 rfl (lv_at hl 3 rfl) ?_
              refine lv_iload_n hx hb dX8_give_87 rfl (lv_at hl 2 rfl) ?_
              refine lv_aload_n hx hb dX8_give_88 rfl (lv_at hl 1 rfl) ?_
              refine va_get (D := D) (ci := 8) (v := .ref qm) (C := RX8) (T := TX8) (N := 9) hx hb hts iw_8 hown hK hP 0 rfl rfl 1 (by decide) (hts (.fieldLink RX8 19 "DepositCodes" "machines" "LDepositCodes$Machines;") (by decide +kernel)) (fun _ h9 => h9) rfl dX8_give_89 ?_
              refine lv_iload_n hx hb dX8_give_92 rfl (lv_at hl 2 rfl) ?_
              refine rd_call (va_runV (As := [.int k]) (rest := [.int k, .long v, .ref qy]) ⟨hx, hb, hml, hown, hts⟩ (kX4_setOf l D cI cJ cZ qm m1 m2 m3 m4 mf mp ms mu mn k (by first | assumption | omega)) (cwV 1 hts gX8_give_X4_setOf rfl rfl rfl (by decide +kernel) ⟨Nat.le_of_ble_eq_true rfl, Nat.le_of_ble_eq_true rfl⟩) ⟨rP_blind, va_recv hK hP (ci := 5) (q0 := 1) rfl rfl, rP_pre (hP.sub [1, 2, 3, 4, 5] rfl) hK hN⟩ rfl rfl hl.1 rfl (lv_room (Nat.le_of_ble_eq_true rfl)) dX8_give_93 ⟨Nat.zero_le _, Nat.zero_le _⟩) ?_
              refine lv_iload hx hb dX8_give_96 (lv_at hl 4 rfl) ?_
              refine lv_iload hx hb dX8_give_98 (lv_at hl 0 rfl) ?_
              refine mt_call0 (wr := [(q0, .inr (8, [.ref qb, .ref qm, .ref qp, .ref qy, .ref qd, .ref qc, .ref qf, .ref qv, .int (FX8_reasonToRefuse mf mp ms mn pt pl pm ys yt yn k v sh w)])), (qm, .inr (5, [.ref m1, .ref m2, .ref m3, .ref m4, .int (nI mn)])), (m1, .inl (cZ, 6, .inl mf)), (m2, .inl (cZ, 6, .inl mp)), (m3, .inl (cI, 6, .inl ms)), (m4, .inl (cI, 6, .inl mu)), (qp, .inr (7, [.ref p1, .ref p2, .ref p3])), (p1, .inl (cZ, 8, .inl pt)), (p2, .inl (cI, 8, .inl pl)), (p3, .inl (cI, 8, .inl pm)), (qf, .inr (4, [.ref f1, .int (nI ((FX8_noteRefusal ys yr yn fp fn k v).2.2))])), (f1, .inl (cI, 170, .inl ((FX8_noteRefusal ys yr yn fp fn k v).2.1)))]) (ws' := [(q0, .inr (8, [.ref qb, .ref qm, .ref qp, .ref qy, .ref qd, .ref qc, .ref qf, .ref qv, .int (FX8_reasonToRefuse mf mp ms mn pt pl pm ys yt yn k v sh w)])), (qm, .inr (5, [.ref m1, .ref m2, .ref m3, .ref m4, .int (nI mn)])), (m1, .inl (cZ, 6, .inl mf)), (m2, .inl (cZ, 6, .inl mp)), (m3, .inl (cI, 6, .inl ms)), (m4, .inl (cI, 6, .inl mu)), (qp, .inr (7, [.ref p1, .ref p2, .ref p3])), (p1, .inl (cZ, 8, .inl pt)), (p2, .inl (cI, 8, .inl pl)), (p3, .inl (cI, 8, .inl pm)), (qy, .inr (6, [.ref y1, .ref y2, .ref y3, .ref y4, .ref y5, .ref y6, .int (nI ((FX6_add ys yp yt yh ym yn v k (FX4_setOf ms mn k) sh ((sc / 2592000).toInt32)).2.2.2.2.2))])), (y1, .inl (cJ, 200, .inr (.inl ((FX6_add ys yp yt yh ym yn v k (FX4_setOf ms mn k) sh ((sc / 2592000).toInt32)).1)))), (y2, .inl (cI, 200, .inl ((FX6_add ys yp yt yh ym yn v k (FX4_setOf ms mn k) sh ((sc / 2592000).toInt32)).2.1))), (y3, .inl (cI, 200, .inl ((FX6_add ys yp yt yh ym yn v k (FX4_setOf ms mn k) sh ((sc / 2592000).toInt32)).2.2.1))), (y4, .inl (cI, 200, .inl ((FX6_add ys yp yt yh ym yn v k (FX4_setOf ms mn k) sh ((sc / 2592000).toInt32)).2.2.2.1))), (y5, .inl (cI, 200, .inl ((FX6_add ys yp yt yh ym yn v k (FX4_setOf ms mn k) sh ((sc / 2592000).toInt32)).2.2.2.2.1))), (y6, .inl (cI, 200, .inl ((FX8_noteRefusal ys yr yn fp fn k v).1))), (qf, .inr (4, [.ref f1, .int (nI ((FX8_noteRefusal ys yr yn fp fn k v).2.2))])), (f1, .inl (cI, 170, .inl ((FX8_noteRefusal ys yr yn fp fn k v).2.1)))]) (st1 := []) (va_runV (As := [.long v, .int k, .int (FX4_setOf ms mn k), .int sh, .int ((sc / 2592000).toInt32)]) (rest := []) ⟨hx, hb, hml, hown, hts⟩ (kX6_add l D cI cJ cZ qy y1 y2 y3 y4 y5 y6 ys yp yt yh ym ((FX8_noteRefusal ys yr yn fp fn k v).1) yn v k (FX4_setOf ms mn k) sh ((sc / 2592000).toInt32) _ (by first | assumption | omega)) (cwV 5 hts gX8_give_X6_add rfl rfl rfl (by decide +kernel) ⟨Nat.le_of_ble_eq_true rfl, Nat.le_of_ble_eq_true rfl⟩) ⟨mP_blind, va_recv hK hP (ci := 6) (q0 := 10) rfl rfl, mP_pre (hP.sub [10, 11, 12, 13, 14, 15, 16] rfl) (hD.sub [10, 11, 12, 13, 14, 15, 16] (by decide) rfl) hK hN⟩ rfl rfl hl.1 rfl (lv_room (Nat.le_of_ble_eq_true rfl)) dX8_give_100 ⟨Nat.zero_le _, Nat.zero_le _⟩) hP hD hS hA [10, 11, 12, 13, 14, 15, 16] [0, 1, 2, 3, 4, 5, 6, 7, 8, 9, 17, 18] [0, 1, 2, 3, 4, 5, 6, 7, 8, 9, 12, 13, 14, 15, 16, 17, 18, 10, 11] rfl rfl (by decide) (by decide) (by decide) rfl rfl (fun H locs hP hD hS => ?_)
              refine lv_aload_n hx hb dX8_give_103 rfl (lv_at hl 1 rfl) ?_
              refine va_get (D := D) (ci := 8) (v := .ref qm) (C := RX8) (T := TX8) (N := 9) hx hb hts iw_8 hown hK hP 0 rfl rfl 1 (by decide) (hts (.fieldLink RX8 19 "DepositCodes" "machines" "LDepositCodes$Machines;") (by decide +kernel)) (fun _ h9 => h9) rfl dX8_give_104 ?_
              refine lv_iload_n hx hb dX8_give_107 rfl (lv_at hl 2 rfl) ?_
              refine mt_call0 (wr := [(q0, .inr (8, [.ref qb, .ref qm, .ref qp, .ref qy, .ref qd, .ref qc, .ref qf, .ref qv, .int (FX8_reasonToRefuse mf mp ms mn pt pl pm ys yt yn k v sh w)])), (qp, .inr (7, [.ref p1, .ref p2, .ref p3])), (p1, .inl (cZ, 8, .inl pt)), (p2, .inl (cI, 8, .inl pl)), (p3, .inl (cI, 8, .inl pm)), (qy, .inr (6, [.ref y1, .ref y2, .ref y3, .ref y4, .ref y5, .ref y6, .int (nI ((FX6_add ys yp yt yh ym yn v k (FX4_setOf ms mn k) sh ((sc / 2592000).toInt32)).2.2.2.2.2))])), (y1, .inl (cJ, 200, .inr (.inl ((FX6_add ys yp yt yh ym yn v k (FX4_setOf ms mn k) sh ((sc / 2592000).toInt32)).1)))), (y2, .inl (cI, 200, .inl ((FX6_add ys yp yt yh ym yn v k (FX4_setOf ms mn k) sh ((sc / 2592000).toInt32)).2.1))), (y3, .inl (cI, 200, .inl ((FX6_add ys yp yt yh ym yn v k (FX4_setOf ms mn k) sh ((sc / 2592000).toInt32)).2.2.1))), (y4, .inl (cI, 200, .inl ((FX6_add ys yp yt yh ym yn v k (FX4_setOf ms mn k) sh ((sc / 2592000).toInt32)).2.2.2.1))), (y5, .inl (cI, 200, .inl ((FX6_add ys yp yt yh ym yn v k (FX4_setOf ms mn k) sh ((sc / 2592000).toInt32)).2.2.2.2.1))), (y6, .inl (cI, 200, .inl ((FX8_noteRefusal ys yr yn fp fn k v).1))), (qf, .inr (4, [.ref f1, .int (nI ((FX8_noteRefusal ys yr yn fp fn k v).2.2))])), (f1, .inl (cI, 170, .inl ((FX8_noteRefusal ys yr yn fp fn k v).2.1)))]) (ws' := [(q0, .inr (8, [.ref qb, .ref qm, .ref qp, .ref qy, .ref qd, .ref qc, .ref qf, .ref qv, .int (FX8_reasonToRefuse mf mp ms mn pt pl pm ys yt yn k v sh w)])), (qm, .inr (5, [.ref m1, .ref m2, .ref m3, .ref m4, .int (nI mn)])), (m1, .inl (cZ, 6, .inl mf)), (m2, .inl (cZ, 6, .inl mp)), (m3, .inl (cI, 6, .inl ms)), (m4, .inl (cI, 6, .inl (FX4_addUnprinted mu mn k))), (qp, .inr (7, [.ref p1, .ref p2, .ref p3])), (p1, .inl (cZ, 8, .inl pt)), (p2, .inl (cI, 8, .inl pl)), (p3, .inl (cI, 8, .inl pm)), (qy, .inr (6, [.ref y1, .ref y2, .ref y3, .ref y4, .ref y5, .ref y6, .int (nI ((FX6_add ys yp yt yh ym yn v k (FX4_setOf ms mn k) sh ((sc / 2592000).toInt32)).2.2.2.2.2))])), (y1, .inl (cJ, 200, .inr (.inl ((FX6_add ys yp yt yh ym yn v k (FX4_setOf ms mn k) sh ((sc / 2592000).toInt32)).1)))), (y2, .inl (cI, 200, .inl ((FX6_add ys yp yt yh ym yn v k (FX4_setOf ms mn k) sh ((sc / 2592000).toInt32)).2.1))), (y3, .inl (cI, 200, .inl ((FX6_add ys yp yt yh ym yn v k (FX4_setOf ms mn k) sh ((sc / 2592000).toInt32)).2.2.1))), (y4, .inl (cI, 200, .inl ((FX6_add ys yp yt yh ym yn v k (FX4_setOf ms mn k) sh ((sc / 2592000).toInt32)).2.2.2.1))), (y5, .inl (cI, 200, .inl ((FX6_add ys yp yt yh ym yn v k (FX4_setOf ms mn k) sh ((sc / 2592000).toInt32)).2.2.2.2.1))), (y6, .inl (cI, 200, .inl ((FX8_noteRefusal ys yr yn fp fn k v).1))), (qf, .inr (4, [.ref f1, .int (nI ((FX8_noteRefusal ys yr yn fp fn k v).2.2))])), (f1, .inl (cI, 170, .inl ((FX8_noteRefusal ys yr yn fp fn k v).2.1)))]) (st1 := []) (va_runV (As := [.int k]) (rest := []) ⟨hx, hb, hml, hown, hts⟩ (kX4_addUnprinted l D cI cJ cZ qm m1 m2 m3 m4 mf mp ms mu mn k _ (by first | assumption | omega)) (cwV 1 hts gX8_give_X4_addUnprinted rfl rfl rfl (by decide +kernel) ⟨Nat.le_of_ble_eq_true rfl, Nat.le_of_ble_eq_true rfl⟩) ⟨mP_blind, va_recv hK hP (ci := 5) (q0 := 1) rfl rfl, mP_pre (hP.sub [1, 2, 3, 4, 5] rfl) (hD.sub [1, 2, 3, 4, 5] (by decide) rfl) hK hN⟩ rfl rfl hl.1 rfl (lv_room (Nat.le_of_ble_eq_true rfl)) dX8_give_108 ⟨Nat.zero_le _, Nat.zero_le _⟩) hP hD hS hA [1, 2, 3, 4, 5] [0, 6, 7, 8, 9, 10, 11, 12, 13, 14, 15, 16, 17, 18] [0, 14, 15, 16, 17, 18, 1, 2, 3, 4, 5, 6, 7, 8, 9, 10, 11, 12, 13] rfl rfl (by decide) (by decide) (by decide) rfl rfl (fun H locs hP hD hS => ?_)
              refine lv_iconst (v := 1) hx hb dX8_give_111 (by decide) ?_
              subst hE
              exact W.iret hx hb hr (fun t ht hW => ⟨rfl, by rw [ht]; exact hP, hD, hS.F ht⟩) hS.2.2 dX8_give_112
            · rw [if_neg c_7] at hE
              refine lv_iconst (v := 0) hx hb dX8_give_71 (by decide) ?_
              subst hE
              exact W.iret hx hb hr (fun t ht hW => ⟨rfl, by rw [ht]; exact hP, hD, hS.F ht⟩) hS.2.2 dX8_give_72
        · rw [if_neg c_4] at hE
          refine lv_iconst (v := (-1)) hx hb dX8_give_33 (by decide) ?_
          subst hE
          exact W.iret hx hb hr (fun t ht hW => ⟨rfl, by rw [ht]; exact hP, hD, hS.F ht⟩) hS.2.2 dX8_give_34
def FX8_reason (lr : Int32) : Int32 := lr
set_option maxHeartbeats 4000000 in
set_option maxRecDepth 100000 in
theorem kX8_reason (l : Launch) (D : va_G) (cI cJ cZ : ClassId) (q0 : Nat) (qb : Nat) (qm : Nat) (qp : Nat) (qy : Nat) (qd : Nat) (qc : Nat) (qf : Nat) (qv : Nat) (lr : Int32) : Met l yX8_reason wsX8_reason ({ frames := 0, cells := 0, slots := 0, locals := 0 }) (rP D (tz cI cJ cZ) [.ref q0] [(q0, .inr (8, [.ref qb, .ref qm, .ref qp, .ref qy, .ref qd, .ref qc, .ref qf, .ref qv, .int lr]))]) (k2_QcV (.int (FX8_reason lr))) 0 0 (fun _ => False) := by
  refine Met.ofW (cc := cX8_reason) (maxL := 1) (ret := (some .int)) (by decide) rfl ?_
  intro p e s m args below meth c s₁ B hml hv
  obtain ⟨rfl, hP, hK, hN⟩ := hv
  have hx := B.exec
  have hb := B.bytes
  have hr := B.returns
  have hts := atoms_spec (ws := wsX8_reason) B.pre
  have hown : s.vm.findClass RX8 = some m.cls := findClass_of_methodNamed B.named
  have hlocks := B.notSynchronized
  have iw_8 : ∀ w ∈ u_ws RX8 TX8 9, w ∈ wsX8_reason := by decide +kernel
  generalize hE : FX8_reason lr = R0
  rw [FX8_reason] at hE
  have hl := lv_entry ([.ref q0]) (n := 1) (Nat.le_of_ble_eq_true rfl)
  rw [lg_entry_eq]
  generalize (lg_sl ([.ref q0]) ++ List.replicate (1 - (lg_sl ([.ref q0])).length) Slot.unset).toArray = ls at hl ⊢
  have hl : lv_has ls 1 [(0, .ref q0)] := hl
  refine lv_aload_n hx hb dX8_reason_0 rfl (lv_at hl 0 rfl) ?_
  refine va_get (D := D) (ci := 8) (v := .int lr) (C := RX8) (T := TX8) (N := 9) hx hb hts iw_8 hown hK hP 0 rfl rfl 8 (by decide) (hts (.fieldLink RX8 62 "DepositCodes" "latestReason" "I") (by decide +kernel)) (fun _ h9 => h9) rfl dX8_reason_1 ?_
  exact W.iret hx hb hr (fun t ht hW => ⟨by rw [← hE], ht⟩) (fun q h => absurd h List.not_mem_nil) dX8_reason_4
def FX8_count (mn : Nat) (yp : Nat → Int32) (yh : Nat → Int32) (yn : Nat) (k : Int32) (sh : Int32) : Int64 := if (FX4_exists mn k) = 0 then (-1) else (if (FX7_exists sh) = 0 then (-1) else (FX6_paidBy yp yh yn k sh).toInt64)
set_option maxHeartbeats 4000000 in
set_option maxRecDepth 100000 in
theorem kX8_count (l : Launch) (D : va_G) (cI cJ cZ : ClassId) (q0 : Nat) (qb : Nat) (qm : Nat) (qp : Nat) (qy : Nat) (qd : Nat) (qc : Nat) (qf : Nat) (qv : Nat) (lr : Int32) (m1 : Nat) (m2 : Nat) (m3 : Nat) (m4 : Nat) (mf : Nat → Int32) (mp : Nat → Int32) (ms : Nat → Int32) (mu : Nat → Int32) (mn : Nat) (p1 : Nat) (p2 : Nat) (p3 : Nat) (pt : Nat → Int32) (pl : Nat → Int32) (pm : Nat → Int32) (y1 : Nat) (y2 : Nat) (y3 : Nat) (y4 : Nat) (y5 : Nat) (y6 : Nat) (ys : Nat → Int64) (yp : Nat → Int32) (yt : Nat → Int32) (yh : Nat → Int32) (ym : Nat → Int32) (yr : Nat → Int32) (yn : Nat) (k : Int32) (sh : Int32) (hmn : mn ≤ 6) (hyn : yn ≤ 200) : Met l yX8_count wsX8_count ({ frames := 2, cells := 0, slots := 0, locals := 42 }) (rP D (tz cI cJ cZ) [.ref q0, .int k, .int sh] [(q0, .inr (8, [.ref qb, .ref qm, .ref qp, .ref qy, .ref qd, .ref qc, .ref qf, .ref qv, .int lr])), (qm, .inr (5, [.ref m1, .ref m2, .ref m3, .ref m4, .int (nI mn)])), (m1, .inl (cZ, 6, .inl mf)), (m2, .inl (cZ, 6, .inl mp)), (m3, .inl (cI, 6, .inl ms)), (m4, .inl (cI, 6, .inl mu)), (qp, .inr (7, [.ref p1, .ref p2, .ref p3])), (p1, .inl (cZ, 8, .inl pt)), (p2, .inl (cI, 8, .inl pl)), (p3, .inl (cI, 8, .inl pm)), (qy, .inr (6, [.ref y1, .ref y2, .ref y3, .ref y4, .ref y5, .ref y6, .int (nI yn)])), (y1, .inl (cJ, 200, .inr (.inl ys))), (y2, .inl (cI, 200, .inl yp)), (y3, .inl (cI, 200, .inl yt)), (y4, .inl (cI, 200, .inl yh)), (y5, .inl (cI, 200, .inl ym)), (y6, .inl (cI, 200, .inl yr))]) (k2_QcV (.long (FX8_count mn yp yh yn k sh))) 0 0 (fun _ => False) := by
  refine Met.ofW (cc := cX8_count) (maxL := 3) (ret := (some .long)) (by decide) rfl ?_
  intro p e s m args below meth c s₁ B hml hv
  obtain ⟨rfl, hP, hK, hN⟩ := hv
  have hx := B.exec
  have hb := B.bytes
  have hr := B.returns
  have hts := atoms_spec (ws := wsX8_count) B.pre
  have hown : s.vm.findClass RX8 = some m.cls := findClass_of_methodNamed B.named
  have hlocks := B.notSynchronized
  have iw_8 : ∀ w ∈ u_ws RX8 TX8 9, w ∈ wsX8_count := by decide +kernel
  generalize hE : FX8_count mn yp yh yn k sh = R0
  rw [FX8_count] at hE
  have hl := lv_entry ([.ref q0, .int k, .int sh]) (n := 3) (Nat.le_of_ble_eq_true rfl)
  rw [lg_entry_eq]
  generalize (lg_sl ([.ref q0, .int k, .int sh]) ++ List.replicate (3 - (lg_sl ([.ref q0, .int k, .int sh])).length) Slot.unset).toArray = ls at hl ⊢
  have hl : lv_has ls 3 [(0, .ref q0), (1, .int k), (2, .int sh)] := hl
  refine lv_aload_n hx hb dX8_count_0 rfl (lv_at hl 0 rfl) ?_
  refine va_get (D := D) (ci := 8) (v := .ref qm) (C := RX8) (T := TX8) (N := 9) hx hb hts iw_8 hown hK hP 0 rfl rfl 1 (by decide) (hts (.fieldLink RX8 19 "DepositCodes" "machines" "LDepositCodes$Machines;") (by decide +kernel)) (fun _ h9 => h9) rfl dX8_count_1 ?_
  refine lv_iload_n hx hb dX8_count_4 rfl (lv_at hl 1 rfl) ?_
  refine rd_call (va_runV (As := [.int k]) (rest := []) ⟨hx, hb, hml, hown, hts⟩ (kX4_exists l D cI cJ cZ qm m1 m2 m3 m4 mf mp ms mu mn k) (cwV 1 hts gX8_count_X4_exists rfl rfl rfl (by decide +kernel) ⟨Nat.le_of_ble_eq_true rfl, Nat.le_of_ble_eq_true rfl⟩) ⟨rP_blind, va_recv hK hP (ci := 5) (q0 := 1) rfl rfl, rP_pre (hP.sub [1, 2, 3, 4, 5] rfl) hK hN⟩ rfl rfl hl.1 rfl (lv_room (Nat.le_of_ble_eq_true rfl)) dX8_count_5 ⟨Nat.zero_le _, Nat.zero_le _⟩) ?_
  refine lv_if_eq (tgt := 22) hx hb dX8_count_8 (by decide) (fun c_1 => ?_) (fun c_1 => ?_)
  · rw [if_pos c_1] at hE
    refine lv_ldc2 hx hb hown (hts (.constantLong RX8 145 (-1)) (by decide +kernel)) dX8_count_22 ?_
    exact W.lret hx hb hr (fun t ht hW => ⟨by rw [← hE], ht⟩) (fun q h => absurd h List.not_mem_nil) dX8_count_25
  · rw [if_neg c_1] at hE
    refine lv_aload_n hx hb dX8_count_11 rfl (lv_at hl 0 rfl) ?_
    refine va_get (D := D) (ci := 8) (v := .ref qp) (C := RX8) (T := TX8) (N := 9) hx hb hts iw_8 hown hK hP 0 rfl rfl 2 (by decide) (hts (.fieldLink RX8 26 "DepositCodes" "spans" "LDepositCodes$Spans;") (by decide +kernel)) (fun _ h9 => h9) rfl dX8_count_12 ?_
    refine lv_iload_n hx hb dX8_count_15 rfl (lv_at hl 2 rfl) ?_
    refine rd_call (va_runV (As := [.int sh]) (rest := []) ⟨hx, hb, hml, hown, hts⟩ (kX7_exists l D cI cJ cZ qp p1 p2 p3 pt pl pm sh) (cwV 1 hts gX8_count_X7_exists rfl rfl rfl (by decide +kernel) ⟨Nat.le_of_ble_eq_true rfl, Nat.le_of_ble_eq_true rfl⟩) ⟨rP_blind, va_recv hK hP (ci := 7) (q0 := 6) rfl rfl, rP_pre (hP.sub [6, 7, 8, 9] rfl) hK hN⟩ rfl rfl hl.1 rfl (lv_room (Nat.le_of_ble_eq_true rfl)) dX8_count_16 ⟨Nat.zero_le _, Nat.zero_le _⟩) ?_
    refine lv_if_ne (tgt := 26) hx hb dX8_count_19 (by decide) (fun c_2 => ?_) (fun c_2 => ?_)
    · rw [if_neg c_2] at hE
      refine lv_aload_n hx hb dX8_count_26 rfl (lv_at hl 0 rfl) ?_
      refine va_get (D := D) (ci := 8) (v := .ref qy) (C := RX8) (T := TX8) (N := 9) hx hb hts iw_8 hown hK hP 0 rfl rfl 3 (by decide) (hts (.fieldLink RX8 33 "DepositCodes" "payments" "LDepositCodes$Payments;") (by decide +kernel)) (fun _ h9 => h9) rfl dX8_count_27 ?_
      refine lv_iload_n hx hb dX8_count_30 rfl (lv_at hl 1 rfl) ?_
      refine lv_iload_n hx hb dX8_count_31 rfl (lv_at hl 2 rfl) ?_
      refine rd_call (va_runV (As := [.int k, .int sh]) (rest := []) ⟨hx, hb, hml, hown, hts⟩ (kX6_paidBy l D cI cJ cZ qy y1 y2 y3 y4 y5 y6 ys yp yt yh ym yr yn k sh (by first | assumption | omega)) (cwV 2 hts gX8_count_X6_paidBy rfl rfl rfl (by decide +kernel) ⟨Nat.le_of_ble_eq_true rfl, Nat.le_of_ble_eq_true rfl⟩) ⟨rP_blind, va_recv hK hP (ci := 6) (q0 := 10) rfl rfl, rP_pre (hP.sub [10, 11, 12, 13, 14, 15, 16] rfl) hK hN⟩ rfl rfl hl.1 rfl (lv_room (Nat.le_of_ble_eq_true rfl)) dX8_count_32 ⟨Nat.zero_le _, Nat.zero_le _⟩) ?_
      refine lv_i2l hx hb dX8_count_35 rfl ?_
      exact W.lret hx hb hr (fun t ht hW => ⟨by rw [← hE], ht⟩) (fun q h => absurd h List.not_mem_nil) dX8_count_36
    · rw [if_pos c_2] at hE
      refine lv_ldc2 hx hb hown (hts (.constantLong RX8 145 (-1)) (by decide +kernel)) dX8_count_22 ?_
      exact W.lret hx hb hr (fun t ht hW => ⟨by rw [← hE], ht⟩) (fun q h => absurd h List.not_mem_nil) dX8_count_25
