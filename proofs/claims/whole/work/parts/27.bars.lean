def FX0_widthAt (bw : Nat → Int32) (k : Int32) : Int32 := if (FX8_isIndex k 64) = 0 then 0 else bw k.toNatClampNeg
set_option maxHeartbeats 4000000 in
set_option maxRecDepth 100000 in
theorem kX0_widthAt (l : Launch) (D : va_G) (cI cJ cZ : ClassId) (qb : Nat) (b1 : Nat) (b2 : Nat) (bw : Nat → Int32) (bd : Nat → Int32) (bn : Nat) (k : Int32) : Met l yX0_widthAt wsX0_widthAt ({ frames := 1, cells := 0, slots := 0, locals := 21 }) (rP D (tz cI cJ cZ) [.ref qb, .int k] [(qb, .inr (1, [.ref b1, .ref b2, .int (nI bn)])), (b1, .inl (cI, 64, .inl bw)), (b2, .inl (cI, 14, .inl bd))]) (k2_QcV (.int (FX0_widthAt bw k))) 0 0 (fun _ => False) := by
  refine Met.ofW (cc := cX0_widthAt) (maxL := 2) (ret := (some .int)) (by decide) rfl ?_
  intro p e s m args below meth c s₁ B hml hv
  obtain ⟨rfl, hP, hK, hN⟩ := hv
  have hx := B.exec
  have hb := B.bytes
  have hr := B.returns
  have hts := atoms_spec (ws := wsX0_widthAt) B.pre
  have hown : s.vm.findClass RX0 = some m.cls := findClass_of_methodNamed B.named
  have hlocks := B.notSynchronized
  have iw_1 : ∀ w ∈ u_ws RX0 TX0 3, w ∈ wsX0_widthAt := by decide +kernel
  generalize hE : FX0_widthAt bw k = R0
  rw [FX0_widthAt] at hE
  have hl := lv_entry ([.ref qb, .int k]) (n := 2) (Nat.le_of_ble_eq_true rfl)
  rw [lg_entry_eq]
  generalize (lg_sl ([.ref qb, .int k]) ++ List.replicate (2 - (lg_sl ([.ref qb, .int k])).length) Slot.unset).toArray = ls at hl ⊢
  have hl : lv_has ls 2 [(0, .ref qb), (1, .int k)] := hl
  refine lv_iload_n hx hb dX0_widthAt_0 rfl (lv_at hl 1 rfl) ?_
  refine lv_bipush (v := 64) hx hb dX0_widthAt_1 (by decide) ?_
  refine rd_call (va_runSN (As := [.int k, .int 64]) (rest := []) ⟨hx, hb, hml, hown, hts⟩ (kX8_isIndex l D cI cJ cZ k 64) ⟨va_cnB 2 hts gX0_widthAt_X8_isIndex_n22 rfl rfl rfl hN.1 (hts (.initialized RX8) (by decide +kernel)) (by decide +kernel) ⟨Nat.le_of_ble_eq_true rfl, Nat.le_of_ble_eq_true rfl⟩, hts (.static yX8_isIndex) (by decide +kernel), trivial⟩ ⟨rP_blind, rP_pre (va_P_nil) hK hN⟩ rfl rfl hl.1 rfl (lv_room (Nat.le_of_ble_eq_true rfl)) dX0_widthAt_3 ⟨Nat.zero_le _, Nat.zero_le _⟩) ?_
  refine lv_if_eq (tgt := 18) hx hb dX0_widthAt_6 (by decide) (fun c_1 => ?_) (fun c_1 => ?_)
  · rw [if_pos c_1] at hE
    refine lv_iconst (v := 0) hx hb dX0_widthAt_18 (by decide) ?_
    exact W.iret hx hb hr (fun t ht hW => ⟨by rw [← hE], ht⟩) (fun q h => absurd h List.not_mem_nil) dX0_widthAt_19
  · rw [if_neg c_1] at hE
    have hin : vp_in k 64 := isIx_in (k := k) (n := 64) (by assumption) (by decide) (by decide)
    refine lv_aload_n hx hb dX0_widthAt_9 rfl (lv_at hl 0 rfl) ?_
    refine va_get (D := D) (ci := 1) (v := .ref b1) (C := RX0) (T := TX0) (N := 3) hx hb hts iw_1 hown hK hP 0 rfl rfl 0 (by decide) (hts (.fieldLink RX0 11 "DepositCodes$Bars" "widths" "[I") (by decide +kernel)) (fun _ h9 => h9) rfl dX0_widthAt_10 ?_
    refine lv_iload_n hx hb dX0_widthAt_13 rfl (lv_at hl 1 rfl) ?_
    refine va_iald hx hb hK hP 1 0 rfl rfl (by assumption) dX0_widthAt_14 ?_
    refine lv_goto (tgt := 19) hx hb dX0_widthAt_15 (by decide) ?_
    exact W.iret hx hb hr (fun t ht hW => ⟨by rw [← hE], ht⟩) (fun q h => absurd h List.not_mem_nil) dX0_widthAt_19
def FX0_setWidth (bw : Nat → Int32) (k : Int32) (w : Int32) : Int32 × (Nat → Int32) := if (FX8_isIndex k 64) = 0 then (0, bw) else (if w < 0 then (0, bw) else (if w ≤ 1000 then (1, upd bw k.toNatClampNeg w) else (0, bw)))
theorem FX0_setWidth_b (bw : Nat → Int32) (k : Int32) (w : Int32) : isB ((FX0_setWidth bw k w).1) := by
  unfold FX0_setWidth
  repeat' split
  all_goals first | exact isB_0 | exact isB_1
set_option maxHeartbeats 4000000 in
set_option maxRecDepth 100000 in
theorem kX0_setWidth (l : Launch) (D : va_G) (cI cJ cZ : ClassId) (qb : Nat) (b1 : Nat) (b2 : Nat) (bw : Nat → Int32) (bd : Nat → Int32) (bn : Nat) (k : Int32) (w : Int32) (sz : Nat) : Met l yX0_setWidth wsX0_setWidth ({ frames := 1, cells := 0, slots := 0, locals := 21 }) (mP D (tz cI cJ cZ) [.ref qb, .int k, .int w] sz [(qb, .inr (1, [.ref b1, .ref b2, .int (nI bn)])), (b1, .inl (cI, 64, .inl bw)), (b2, .inl (cI, 14, .inl bd))]) (mQ D (some (.int ((FX0_setWidth bw k w).1))) [(qb, .inr (1, [.ref b1, .ref b2, .int (nI bn)])), (b1, .inl (cI, 64, .inl ((FX0_setWidth bw k w).2))), (b2, .inl (cI, 14, .inl bd))] (va_A [(qb, .inr (1, [.ref b1, .ref b2, .int (nI bn)])), (b1, .inl (cI, 64, .inl bw)), (b2, .inl (cI, 14, .inl bd))] sz)) 0 0 (va_A [(qb, .inr (1, [.ref b1, .ref b2, .int (nI bn)])), (b1, .inl (cI, 64, .inl bw)), (b2, .inl (cI, 14, .inl bd))] sz) := by
  refine Met.ofW (cc := cX0_setWidth) (maxL := 3) (ret := (some .boolean)) (by decide) rfl ?_
  intro p e s m args below meth c s₁ B hml hv
  obtain ⟨rfl, hsz, hP, hK, hD0, hN⟩ := hv
  have hx := B.exec
  have hb := B.bytes
  have hr := B.returns
  have hts := atoms_spec (ws := wsX0_setWidth) B.pre
  have hown : s.vm.findClass RX0 = some m.cls := findClass_of_methodNamed B.named
  have hlocks := B.notSynchronized
  have iw_1 : ∀ w ∈ u_ws RX0 TX0 3, w ∈ wsX0_setWidth := by decide +kernel
  subst hsz
  have hD := hD0.self (sz := s.heap.size)
  generalize hE : FX0_setWidth bw k w = R0
  generalize hAe : va_A [(qb, .inr (1, [.ref b1, .ref b2, .int (nI bn)])), (b1, .inl (cI, 64, .inl bw)), (b2, .inl (cI, 14, .inl bd))] s.heap.size = A at hD ⊢
  have hA : ∀ q : Nat, s.heap.size ≤ q → A q := fun q h => by rw [← hAe]; exact Or.inr h
  have hS : va_S A s.heap s.heap [] := va_S.rf
  rw [FX0_setWidth] at hE
  have hl := lv_entry ([.ref qb, .int k, .int w]) (n := 3) (Nat.le_of_ble_eq_true rfl)
  rw [lg_entry_eq]
  generalize (lg_sl ([.ref qb, .int k, .int w]) ++ List.replicate (3 - (lg_sl ([.ref qb, .int k, .int w])).length) Slot.unset).toArray = ls at hl ⊢
  have hl : lv_has ls 3 [(0, .ref qb), (1, .int k), (2, .int w)] := hl
  refine lv_iload_n hx hb dX0_setWidth_0 rfl (lv_at hl 1 rfl) ?_
  refine lv_bipush (v := 64) hx hb dX0_setWidth_1 (by decide) ?_
  refine rd_call (va_runSN (As := [.int k, .int 64]) (rest := []) ⟨hx, hb, hml, hown, hts⟩ (kX8_isIndex l D cI cJ cZ k 64) ⟨va_cnB 2 hts gX0_setWidth_X8_isIndex_n22 rfl rfl rfl hN.1 (hts (.initialized RX8) (by decide +kernel)) (by decide +kernel) ⟨Nat.le_of_ble_eq_true rfl, Nat.le_of_ble_eq_true rfl⟩, hts (.static yX8_isIndex) (by decide +kernel), trivial⟩ ⟨rP_blind, rP_pre (va_P_nil) hK hN⟩ rfl rfl hl.1 rfl (lv_room (Nat.le_of_ble_eq_true rfl)) dX0_setWidth_3 ⟨Nat.zero_le _, Nat.zero_le _⟩) ?_
  refine lv_if_eq (tgt := 20) hx hb dX0_setWidth_6 (by decide) (fun c_1 => ?_) (fun c_1 => ?_)
  · rw [if_pos c_1] at hE
    refine lv_iconst (v := 0) hx hb dX0_setWidth_20 (by decide) ?_
    subst hE
    exact W.zret hx hb hr narrow_b0 (fun t ht hW => ⟨rfl, by rw [ht]; exact hP, hD, hS.F ht⟩) hS.2.2 dX0_setWidth_21
  · rw [if_neg c_1] at hE
    refine lv_iload_n hx hb dX0_setWidth_9 rfl (lv_at hl 2 rfl) ?_
    refine lv_if_lt (tgt := 20) hx hb dX0_setWidth_10 (by decide) (fun c_2 => ?_) (fun c_2 => ?_)
    · rw [if_pos c_2] at hE
      refine lv_iconst (v := 0) hx hb dX0_setWidth_20 (by decide) ?_
      subst hE
      exact W.zret hx hb hr narrow_b0 (fun t ht hW => ⟨rfl, by rw [ht]; exact hP, hD, hS.F ht⟩) hS.2.2 dX0_setWidth_21
    · rw [if_neg c_2] at hE
      refine lv_iload_n hx hb dX0_setWidth_13 rfl (lv_at hl 2 rfl) ?_
      refine lv_sipush (v := 1000) hx hb dX0_setWidth_14 (by decide) ?_
      refine lv_icmp_le (tgt := 22) hx hb dX0_setWidth_17 (by decide) (fun c_3 => ?_) (fun c_3 => ?_)
      · rw [if_pos c_3] at hE
        have hin : vp_in k 64 := isIx_in (k := k) (n := 64) (by assumption) (by decide) (by decide)
        refine lv_aload_n hx hb dX0_setWidth_22 rfl (lv_at hl 0 rfl) ?_
        refine va_get (D := D) (ci := 1) (v := .ref b1) (C := RX0) (T := TX0) (N := 3) hx hb hts iw_1 hown hK hP 0 rfl rfl 0 (by decide) (hts (.fieldLink RX0 11 "DepositCodes$Bars" "widths" "[I") (by decide +kernel)) (fun _ h9 => h9) rfl dX0_setWidth_23 ?_
        refine lv_iload_n hx hb dX0_setWidth_26 rfl (lv_at hl 1 rfl) ?_
        refine lv_iload_n hx hb dX0_setWidth_27 rfl (lv_at hl 2 rfl) ?_
        refine va_iast hx hb hK hP hD hS 1 0 rfl rfl (by assumption) dX0_setWidth_28 (fun H locs hP hD hS => ?_)
        have hP : va_P D vwCl [(qb, .inr (1, [.ref b1, .ref b2, .int (nI bn)])), (b1, .inl (cI, 64, .inl (upd bw k.toNatClampNeg w))), (b2, .inl (cI, 14, .inl bd))] H := hP
        have hD : va_D A [(qb, .inr (1, [.ref b1, .ref b2, .int (nI bn)])), (b1, .inl (cI, 64, .inl (upd bw k.toNatClampNeg w))), (b2, .inl (cI, 14, .inl bd))] := hD
        refine lv_iconst (v := 1) hx hb dX0_setWidth_29 (by decide) ?_
        subst hE
        exact W.zret hx hb hr narrow_b1 (fun t ht hW => ⟨rfl, by rw [ht]; exact hP, hD, hS.F ht⟩) hS.2.2 dX0_setWidth_30
      · rw [if_neg c_3] at hE
        refine lv_iconst (v := 0) hx hb dX0_setWidth_20 (by decide) ?_
        subst hE
        exact W.zret hx hb hr narrow_b0 (fun t ht hW => ⟨rfl, by rw [ht]; exact hP, hD, hS.F ht⟩) hS.2.2 dX0_setWidth_21
def FX0_digitAt (bd : Nat → Int32) (bn : Nat) (k : Int32) : Int32 := if (FX8_isIndex k (nI bn)) = 0 then (-1) else bd k.toNatClampNeg
set_option maxHeartbeats 4000000 in
set_option maxRecDepth 100000 in
theorem kX0_digitAt (l : Launch) (D : va_G) (cI cJ cZ : ClassId) (qb : Nat) (b1 : Nat) (b2 : Nat) (bw : Nat → Int32) (bd : Nat → Int32) (bn : Nat) (k : Int32) (hbn : bn ≤ 14) : Met l yX0_digitAt wsX0_digitAt ({ frames := 1, cells := 0, slots := 0, locals := 21 }) (rP D (tz cI cJ cZ) [.ref qb, .int k] [(qb, .inr (1, [.ref b1, .ref b2, .int (nI bn)])), (b1, .inl (cI, 64, .inl bw)), (b2, .inl (cI, 14, .inl bd))]) (k2_QcV (.int (FX0_digitAt bd bn k))) 0 0 (fun _ => False) := by
  refine Met.ofW (cc := cX0_digitAt) (maxL := 2) (ret := (some .int)) (by decide) rfl ?_
  intro p e s m args below meth c s₁ B hml hv
  obtain ⟨rfl, hP, hK, hN⟩ := hv
  have hx := B.exec
  have hb := B.bytes
  have hr := B.returns
  have hts := atoms_spec (ws := wsX0_digitAt) B.pre
  have hown : s.vm.findClass RX0 = some m.cls := findClass_of_methodNamed B.named
  have hlocks := B.notSynchronized
  have iw_1 : ∀ w ∈ u_ws RX0 TX0 3, w ∈ wsX0_digitAt := by decide +kernel
  generalize hE : FX0_digitAt bd bn k = R0
  rw [FX0_digitAt] at hE
  have hl := lv_entry ([.ref qb, .int k]) (n := 2) (Nat.le_of_ble_eq_true rfl)
  rw [lg_entry_eq]
  generalize (lg_sl ([.ref qb, .int k]) ++ List.replicate (2 - (lg_sl ([.ref qb, .int k])).length) Slot.unset).toArray = ls at hl ⊢
  have hl : lv_has ls 2 [(0, .ref qb), (1, .int k)] := hl
  refine lv_iload_n hx hb dX0_digitAt_0 rfl (lv_at hl 1 rfl) ?_
  refine lv_aload_n hx hb dX0_digitAt_1 rfl (lv_at hl 0 rfl) ?_
  refine va_get (D := D) (ci := 1) (v := .int (nI bn)) (C := RX0) (T := TX0) (N := 3) hx hb hts iw_1 hown hK hP 0 rfl rfl 2 (by decide) (hts (.fieldLink RX0 18 "DepositCodes$Bars" "digitCount" "I") (by decide +kernel)) (fun _ h9 => h9) rfl dX0_digitAt_2 ?_
  refine rd_call (va_runSN (As := [.int k, .int (nI bn)]) (rest := []) ⟨hx, hb, hml, hown, hts⟩ (kX8_isIndex l D cI cJ cZ k (nI bn)) ⟨va_cnB 2 hts gX0_digitAt_X8_isIndex_n22 rfl rfl rfl hN.1 (hts (.initialized RX8) (by decide +kernel)) (by decide +kernel) ⟨Nat.le_of_ble_eq_true rfl, Nat.le_of_ble_eq_true rfl⟩, hts (.static yX8_isIndex) (by decide +kernel), trivial⟩ ⟨rP_blind, rP_pre (va_P_nil) hK hN⟩ rfl rfl hl.1 rfl (lv_room (Nat.le_of_ble_eq_true rfl)) dX0_digitAt_5 ⟨Nat.zero_le _, Nat.zero_le _⟩) ?_
  refine lv_if_eq (tgt := 20) hx hb dX0_digitAt_8 (by decide) (fun c_1 => ?_) (fun c_1 => ?_)
  · rw [if_pos c_1] at hE
    refine lv_iconst (v := (-1)) hx hb dX0_digitAt_20 (by decide) ?_
    exact W.iret hx hb hr (fun t ht hW => ⟨by rw [← hE], ht⟩) (fun q h => absurd h List.not_mem_nil) dX0_digitAt_21
  · rw [if_neg c_1] at hE
    have hin : vp_in k 14 := isIx_in (k := k) (n := bn) (by assumption) hbn (by decide)
    refine lv_aload_n hx hb dX0_digitAt_11 rfl (lv_at hl 0 rfl) ?_
    refine va_get (D := D) (ci := 1) (v := .ref b2) (C := RX0) (T := TX0) (N := 3) hx hb hts iw_1 hown hK hP 0 rfl rfl 1 (by decide) (hts (.fieldLink RX0 15 "DepositCodes$Bars" "digits" "[I") (by decide +kernel)) (fun _ h9 => h9) rfl dX0_digitAt_12 ?_
    refine lv_iload_n hx hb dX0_digitAt_15 rfl (lv_at hl 1 rfl) ?_
    refine va_iald hx hb hK hP 2 0 rfl rfl (by assumption) dX0_digitAt_16 ?_
    refine lv_goto (tgt := 21) hx hb dX0_digitAt_17 (by decide) ?_
    exact W.iret hx hb hr (fun t ht hW => ⟨by rw [← hE], ht⟩) (fun q h => absurd h List.not_mem_nil) dX0_digitAt_21
def FX0_rowLength_l2 (bw : Nat → Int32) : Nat → Nat → Nat
  | 0, _ => 0
  | n + 1, k => if 64 ≤ k then k else (if (bw k) = 0 then k else FX0_rowLength_l2 bw n (k + 1))
def FX0_rowLength (bw : Nat → Int32) : Nat := FX0_rowLength_l2 bw 65 0
set_option maxHeartbeats 4000000 in
set_option maxRecDepth 100000 in
theorem kX0_rowLength (l : Launch) (D : va_G) (cI cJ cZ : ClassId) (qb : Nat) (b1 : Nat) (b2 : Nat) (bw : Nat → Int32) (bd : Nat → Int32) (bn : Nat) : Met l yX0_rowLength wsX0_rowLength ({ frames := 0, cells := 0, slots := 0, locals := 0 }) (rP D (tz cI cJ cZ) [.ref qb] [(qb, .inr (1, [.ref b1, .ref b2, .int (nI bn)])), (b1, .inl (cI, 64, .inl bw)), (b2, .inl (cI, 14, .inl bd))]) (k2_QcV (.int (nI (FX0_rowLength bw)))) 0 0 (fun _ => False) := by
  refine Met.ofW (cc := cX0_rowLength) (maxL := 2) (ret := (some .int)) (by decide) rfl ?_
  intro p e s m args below meth c s₁ B hml hv
  obtain ⟨rfl, hP, hK, hN⟩ := hv
  have hx := B.exec
  have hb := B.bytes
  have hr := B.returns
  have hts := atoms_spec (ws := wsX0_rowLength) B.pre
  have hown : s.vm.findClass RX0 = some m.cls := findClass_of_methodNamed B.named
  have hlocks := B.notSynchronized
  have iw_1 : ∀ w ∈ u_ws RX0 TX0 3, w ∈ wsX0_rowLength := by decide +kernel
  generalize hE : FX0_rowLength bw = R0
  rw [FX0_rowLength] at hE
  have hl := lv_entry ([.ref qb]) (n := 2) (Nat.le_of_ble_eq_true rfl)
  rw [lg_entry_eq]
  generalize (lg_sl ([.ref qb]) ++ List.replicate (2 - (lg_sl ([.ref qb])).length) Slot.unset).toArray = ls at hl ⊢
  have hl : lv_has ls 2 [(0, .ref qb)] := hl
  have loop_2 : ∀ (n : Nat) (k : Nat), k ≤ 64 → k + n = 65 → FX0_rowLength_l2 bw n k = R0 → ∀ ls : Array Slot, lv_has ls 2 [(1, .int (nI k)), (0, .ref qb)] → W p l e (headSpec wsX0_rowLength ({ frames := 0, cells := 0, slots := 0, locals := 0 })).room s m ([.ref qb] : List Value).toArray below meth c s.heap [] 0 0 (MQ below (k2_QcV (.int (nI R0))) ([.ref qb] : List Value).toArray s 0 0 (fun _ => False)) (F0 m 2 ls []) := by
    intro n
    induction n with
    | zero =>
      intro k i_1 i_2
      exact absurd i_1 (by omega)
    | succ n ih =>
      intro k i_1 i_2 hE ls hl
      rw [FX0_rowLength_l2] at hE
      refine lv_iload_n hx hb dX0_rowLength_2 rfl (lv_at hl 0 rfl) ?_
      refine lv_bipush (v := 64) hx hb dX0_rowLength_3 (by decide) ?_
      refine lv_icmp_ge (tgt := 23) hx hb dX0_rowLength_5 (by decide) (fun c_1 => ?_) (fun c_1 => ?_)
      · have c_1 : 64 ≤ k := (nI_leI (a := 64) (b := k) (by omega) (by omega)).mp c_1
        rw [if_pos c_1] at hE
        refine lv_iload_n hx hb dX0_rowLength_23 rfl (lv_at hl 0 rfl) ?_
        exact W.iret (v := nI k) hx hb hr (fun t ht hW => ⟨by rw [← hE], ht⟩) (fun q h => absurd h List.not_mem_nil) dX0_rowLength_24
      · have c_1 : ¬ 64 ≤ k := fun h9 => c_1 ((nI_leI (a := 64) (b := k) (by omega) (by omega)).mpr h9)
        rw [if_neg c_1] at hE
        refine lv_aload_n hx hb dX0_rowLength_8 rfl (lv_at hl 1 rfl) ?_
        refine va_get (D := D) (ci := 1) (v := .ref b1) (C := RX0) (T := TX0) (N := 3) hx hb hts iw_1 hown hK hP 0 rfl rfl 0 (by decide) (hts (.fieldLink RX0 11 "DepositCodes$Bars" "widths" "[I") (by decide +kernel)) (fun _ h9 => h9) rfl dX0_rowLength_9 ?_
        refine lv_iload_n hx hb dX0_rowLength_12 rfl (lv_at hl 0 rfl) ?_
        refine na_iald hx hb hK hP 1 0 rfl rfl (by omega) (by decide) dX0_rowLength_13 ?_
        refine lv_if_eq (tgt := 23) hx hb dX0_rowLength_14 (by decide) (fun c_2 => ?_) (fun c_2 => ?_)
        · rw [if_pos c_2] at hE
          refine lv_iload_n hx hb dX0_rowLength_23 rfl (lv_at hl 0 rfl) ?_
          exact W.iret (v := nI k) hx hb hr (fun t ht hW => ⟨by rw [← hE], ht⟩) (fun q h => absurd h List.not_mem_nil) dX0_rowLength_24
        · rw [if_neg c_2] at hE
          refine lv_iinc (v := nI (k + 1)) (lv' := [(1, .int (nI (k + 1))), (0, .ref qb)]) hx hb dX0_rowLength_17 hl (k := 0) rfl (nI_1 k) (by decide) rfl (fun ls hl => ?_)
          refine lv_goto (tgt := 2) hx hb dX0_rowLength_20 (by decide) ?_
          exact ih (k + 1) (by omega) (by omega) hE ls (lv_sub hl [0, 1] rfl)
  refine lv_iconst (v := 0) hx hb dX0_rowLength_0 (by decide) ?_
  refine lv_istore_n (lv' := [(1, .int 0), (0, .ref qb)]) hx hb dX0_rowLength_1 rfl hl (by decide) rfl (fun ls hl => ?_)
  exact loop_2 65 0 (by omega) (by omega) hE ls (lv_sub hl [0, 1] rfl)
theorem FX0_rowLength_l2_le (bw : Nat → Int32) (n : Nat) : ∀ k : Nat, k ≤ 64 → k + n = 65 → FX0_rowLength_l2 bw n k ≤ 64 := by
  induction n with
  | zero => intro k h1 h2; omega
  | succ n ih =>
    intro k h1 h2
    rw [FX0_rowLength_l2]
    split
    · exact h1
    · split
      · exact h1
      · exact ih _ (by omega) (by omega)
theorem FX0_rowLength_le (bw : Nat → Int32) : FX0_rowLength bw ≤ 64 := FX0_rowLength_l2_le bw 65 0 (by omega) (by omega)
theorem sub_toInt {a b : Nat} (ha : a < 2 ^ 30) (hb : b < 2 ^ 30) : (nI a - nI b).toInt = (a : Int) - b := pk_sub_toInt ha hb
theorem ln_10 {ln : Nat} (h : ln ≤ 64) (hc : ¬ nI ln - 6 < 4) : 10 ≤ ln := by
  rw [Int32.lt_iff_toInt_lt, show (6 : Int32) = nI 6 from rfl, pk_sub_toInt (by omega) (by omega)] at hc
  have : (4 : Int32).toInt = 4 := rfl
  omega
def FX0_isEdge (bw : Nat → Int32) (k : Int32) : Int32 := if (FX0_widthAt bw k) = (FX0_widthAt bw (k + 1)) then (if (FX0_widthAt bw k) = (FX0_widthAt bw (k + 2)) then 1 else 0) else 0
theorem FX0_isEdge_b (bw : Nat → Int32) (k : Int32) : isB (FX0_isEdge bw k) := by
  unfold FX0_isEdge
  repeat' split
  all_goals first | exact isB_0 | exact isB_1
set_option maxHeartbeats 4000000 in
set_option maxRecDepth 100000 in
theorem kX0_isEdge (l : Launch) (D : va_G) (cI cJ cZ : ClassId) (qb : Nat) (b1 : Nat) (b2 : Nat) (bw : Nat → Int32) (bd : Nat → Int32) (bn : Nat) (k : Int32) : Met l yX0_isEdge wsX0_isEdge ({ frames := 2, cells := 0, slots := 0, locals := 42 }) (rP D (tz cI cJ cZ) [.ref qb, .int k] [(qb, .inr (1, [.ref b1, .ref b2, .int (nI bn)])), (b1, .inl (cI, 64, .inl bw)), (b2, .inl (cI, 14, .inl bd))]) (k2_QcV (.int (FX0_isEdge bw k))) 0 0 (fun _ => False) := by
  refine Met.ofW (cc := cX0_isEdge) (maxL := 3) (ret := (some .boolean)) (by decide) rfl ?_
  intro p e s m args below meth c s₁ B hml hv
  obtain ⟨rfl, hP, hK, hN⟩ := hv
  have hx := B.exec
  have hb := B.bytes
  have hr := B.returns
  have hts := atoms_spec (ws := wsX0_isEdge) B.pre
  have hown : s.vm.findClass RX0 = some m.cls := findClass_of_methodNamed B.named
  have hlocks := B.notSynchronized
  generalize hE : FX0_isEdge bw k = R0
  rw [FX0_isEdge] at hE
  have hl := lv_entry ([.ref qb, .int k]) (n := 3) (Nat.le_of_ble_eq_true rfl)
  rw [lg_entry_eq]
  generalize (lg_sl ([.ref qb, .int k]) ++ List.replicate (3 - (lg_sl ([.ref qb, .int k])).length) Slot.unset).toArray = ls at hl ⊢
  have hl : lv_has ls 3 [(0, .ref qb), (1, .int k)] := hl
  refine lv_aload_n hx hb dX0_isEdge_0 rfl (lv_at hl 0 rfl) ?_
  refine lv_iload_n hx hb dX0_isEdge_1 rfl (lv_at hl 1 rfl) ?_
  refine rd_call (va_runV (As := [.int k]) (rest := []) ⟨hx, hb, hml, hown, hts⟩ (kX0_widthAt l D cI cJ cZ qb b1 b2 bw bd bn k) (cwV 1 hts gX0_isEdge_X0_widthAt rfl rfl rfl (by decide +kernel) ⟨Nat.le_of_ble_eq_true rfl, Nat.le_of_ble_eq_true rfl⟩) ⟨rP_blind, va_recv hK hP (ci := 1) (q0 := 0) rfl rfl, rP_pre (hP.sub [0, 1, 2] rfl) hK hN⟩ rfl rfl hl.1 rfl (lv_room (Nat.le_of_ble_eq_true rfl)) dX0_isEdge_2 ⟨Nat.zero_le _, Nat.zero_le _⟩) ?_
  refine lv_istore_n (lv' := [(2, .int (FX0_widthAt bw k)), (0, .ref qb), (1, .int k)]) hx hb dX0_isEdge_5 rfl hl (by decide) rfl (fun ls hl => ?_)
  refine lv_iload_n hx hb dX0_isEdge_6 rfl (lv_at hl 0 rfl) ?_
  refine lv_aload_n hx hb dX0_isEdge_7 rfl (lv_at hl 1 rfl) ?_
  refine lv_iload_n hx hb dX0_isEdge_8 rfl (lv_at hl 2 rfl) ?_
  refine lv_iconst (v := 1) hx hb dX0_isEdge_9 (by decide) ?_
  refine lv_iadd hx hb dX0_isEdge_10 ?_
  refine rd_call (va_runV (As := [.int (k + 1)]) (rest := [.int (FX0_widthAt bw k)]) ⟨hx, hb, hml, hown, hts⟩ (kX0_widthAt l D cI cJ cZ qb b1 b2 bw bd bn (k + 1)) (cwV 1 hts gX0_isEdge_X0_widthAt rfl rfl rfl (by decide +kernel) ⟨Nat.le_of_ble_eq_true rfl, Nat.le_of_ble_eq_true rfl⟩) ⟨rP_blind, va_recv hK hP (ci := 1) (q0 := 0) rfl rfl, rP_pre (hP.sub [0, 1, 2] rfl) hK hN⟩ rfl rfl hl.1 rfl (lv_room (Nat.le_of_ble_eq_true rfl)) dX0_isEdge_11 ⟨Nat.zero_le _, Nat.zero_le _⟩) ?_
  refine lv_icmp_ne (tgt := 32) hx hb dX0_isEdge_14 (by decide) (fun c_1 => ?_) (fun c_1 => ?_)
  · rw [if_neg c_1] at hE
    refine lv_iconst (v := 0) hx hb dX0_isEdge_32 (by decide) ?_
    exact W.zret hx hb hr narrow_b0 (fun t ht hW => ⟨by rw [← hE], ht⟩) (fun q h => absurd h List.not_mem_nil) dX0_isEdge_33
  · rw [if_pos c_1] at hE
    refine lv_iload_n hx hb dX0_isEdge_17 rfl (lv_at hl 0 rfl) ?_
    refine lv_aload_n hx hb dX0_isEdge_18 rfl (lv_at hl 1 rfl) ?_
    refine lv_iload_n hx hb dX0_isEdge_19 rfl (lv_at hl 2 rfl) ?_
    refine lv_iconst (v := 2) hx hb dX0_isEdge_20 (by decide) ?_
    refine lv_iadd hx hb dX0_isEdge_21 ?_
    refine rd_call (va_runV (As := [.int (k + 2)]) (rest := [.int (FX0_widthAt bw k)]) ⟨hx, hb, hml, hown, hts⟩ (kX0_widthAt l D cI cJ cZ qb b1 b2 bw bd bn (k + 2)) (cwV 1 hts gX0_isEdge_X0_widthAt rfl rfl rfl (by decide +kernel) ⟨Nat.le_of_ble_eq_true rfl, Nat.le_of_ble_eq_true rfl⟩) ⟨rP_blind, va_recv hK hP (ci := 1) (q0 := 0) rfl rfl, rP_pre (hP.sub [0, 1, 2] rfl) hK hN⟩ rfl rfl hl.1 rfl (lv_room (Nat.le_of_ble_eq_true rfl)) dX0_isEdge_22 ⟨Nat.zero_le _, Nat.zero_le _⟩) ?_
    refine lv_icmp_ne (tgt := 32) hx hb dX0_isEdge_25 (by decide) (fun c_2 => ?_) (fun c_2 => ?_)
    · rw [if_neg c_2] at hE
      refine lv_iconst (v := 0) hx hb dX0_isEdge_32 (by decide) ?_
      exact W.zret hx hb hr narrow_b0 (fun t ht hW => ⟨by rw [← hE], ht⟩) (fun q h => absurd h List.not_mem_nil) dX0_isEdge_33
    · rw [if_pos c_2] at hE
      refine lv_iconst (v := 1) hx hb dX0_isEdge_28 (by decide) ?_
      refine lv_goto (tgt := 33) hx hb dX0_isEdge_29 (by decide) ?_
      exact W.zret hx hb hr narrow_b1 (fun t ht hW => ⟨by rw [← hE], ht⟩) (fun q h => absurd h List.not_mem_nil) dX0_isEdge_33
def FX0_matches_l66 (bw : Nat → Int32) (d : Nat) : Nat → Nat → Int32 → Int32 → Int32 → Int32
  | 0, _, _, _, _ => 0
  | n + 1, k, sm, sp, fr => if 4 ≤ k then 1 else (if (7 * (FX0_widthAt bw (fr + ((nI k) * sp)))) = (sm * (patF ((d * 4) + k))) then FX0_matches_l66 bw d n (k + 1) sm sp fr else 0)
def FX0_matches_l34 (bw : Nat → Int32) (d : Nat) : Nat → Nat → Int32 → Int32 → Int32 → Int32
  | 0, _, _, _, _ => 0
  | n + 1, k, sm, sp, fr => if 4 ≤ k then FX0_matches_l66 bw d 5 0 sm sp fr else FX0_matches_l34 bw d n (k + 1) (sm + (FX0_widthAt bw (fr + ((nI k) * sp)))) sp fr
def FX0_matches (bw : Nat → Int32) (d : Nat) (sa : Int32) (ln : Int32) (rv : Int32) : Int32 := if rv = 0 then (if rv = 0 then FX0_matches_l34 bw d 5 0 0 1 sa else FX0_matches_l34 bw d 5 0 0 1 ((ln - 1) - sa)) else (if rv = 0 then FX0_matches_l34 bw d 5 0 0 (-1) sa else FX0_matches_l34 bw d 5 0 0 (-1) ((ln - 1) - sa))
set_option maxHeartbeats 4000000 in
set_option maxRecDepth 100000 in
theorem kX0_matches (l : Launch) (D : va_G) (cI cJ cZ : ClassId) (qb : Nat) (b1 : Nat) (b2 : Nat) (bw : Nat → Int32) (bd : Nat → Int32) (bn : Nat) (d : Nat) (sa : Int32) (ln : Int32) (rv : Int32) (hd : d < 10) : Met l yX0_matches wsX0_matches ({ frames := 2, cells := 0, slots := 0, locals := 42 }) (rPz D (tz cI cJ cZ) [.ref qb, .int (nI d), .int sa, .int ln, .int rv] [(qb, .inr (1, [.ref b1, .ref b2, .int (nI bn)])), (b1, .inl (cI, 64, .inl bw)), (b2, .inl (cI, 14, .inl bd))]) (k2_QcV (.int (FX0_matches bw d sa ln rv))) 0 0 (fun _ => False) := by
  refine Met.ofW (cc := cX0_matches) (maxL := 9) (ret := (some .boolean)) (by decide) rfl ?_
  intro p e s m args below meth c s₁ B hml hv
  obtain ⟨⟨rfl, hP, hK, hN⟩, hZP⟩ := hv
  have hx := B.exec
  have hb := B.bytes
  have hr := B.returns
  have hts := atoms_spec (ws := wsX0_matches) B.pre
  have hown : s.vm.findClass RX0 = some m.cls := findClass_of_methodNamed B.named
  have hlocks := B.notSynchronized
  generalize hE : FX0_matches bw d sa ln rv = R0
  have hS0 : va_S (fun _ => False) s.heap s.heap [] := va_S.rf
  obtain ⟨tPAT, hZ, hT⟩ := id hZP
  rw [FX0_matches] at hE
  have hl := lv_entry ([.ref qb, .int (nI d), .int sa, .int ln, .int rv]) (n := 9) (Nat.le_of_ble_eq_true rfl)
  rw [lg_entry_eq]
  generalize (lg_sl ([.ref qb, .int (nI d), .int sa, .int ln, .int rv]) ++ List.replicate (9 - (lg_sl ([.ref qb, .int (nI d), .int sa, .int ln, .int rv])).length) Slot.unset).toArray = ls at hl ⊢
  have hl : lv_has ls 9 [(0, .ref qb), (1, .int (nI d)), (2, .int sa), (3, .int ln), (4, .int rv)] := hl
  have loop_66 : ∀ (n : Nat) (k : Nat) (sm : Int32) (sp : Int32) (fr : Int32), k ≤ 4 → k + n = 5 → FX0_matches_l66 bw d n k sm sp fr = R0 → ∀ ls : Array Slot, lv_has ls 9 [(8, .int (nI k)), (7, .int sm), (6, .int fr), (5, .int sp), (0, .ref qb), (1, .int (nI d)), (2, .int sa), (3, .int ln), (4, .int rv)] → W p l e (headSpec wsX0_matches ({ frames := 2, cells := 0, slots := 0, locals := 42 })).room s m ([.ref qb, .int (nI d), .int sa, .int ln, .int rv] : List Value).toArray below meth c s.heap [] 0 0 (MQ below (k2_QcV (.int R0)) ([.ref qb, .int (nI d), .int sa, .int ln, .int rv] : List Value).toArray s 0 0 (fun _ => False)) (F0 m 66 ls []) := by
    intro n
    induction n with
    | zero =>
      intro k sm sp fr i_1 i_2
      exact absurd i_1 (by omega)
    | succ n ih =>
      intro k sm sp fr i_1 i_2 hE ls hl
      rw [FX0_matches_l66] at hE
      refine lv_iload hx hb dX0_matches_66 (lv_at hl 0 rfl) ?_
      refine lv_iconst (v := 4) hx hb dX0_matches_68 (by decide) ?_
      refine lv_icmp_ge (tgt := 111) hx hb dX0_matches_69 (by decide) (fun c_5 => ?_) (fun c_5 => ?_)
      · have c_5 : 4 ≤ k := (nI_leI (a := 4) (b := k) (by omega) (by omega)).mp c_5
        rw [if_pos c_5] at hE
        refine lv_iconst (v := 1) hx hb dX0_matches_111 (by decide) ?_
        exact W.zret hx hb hr narrow_b1 (fun t ht hW => ⟨by rw [← hE], ht⟩) (fun q h => absurd h List.not_mem_nil) dX0_matches_112
      · have c_5 : ¬ 4 ≤ k := fun h9 => c_5 ((nI_leI (a := 4) (b := k) (by omega) (by omega)).mpr h9)
        rw [if_neg c_5] at hE
        refine lv_bipush (v := 7) hx hb dX0_matches_72 (by decide) ?_
        refine lv_aload_n hx hb dX0_matches_74 rfl (lv_at hl 4 rfl) ?_
        refine lv_iload hx hb dX0_matches_75 (lv_at hl 2 rfl) ?_
        refine lv_iload hx hb dX0_matches_77 (lv_at hl 0 rfl) ?_
        refine lv_iload hx hb dX0_matches_79 (lv_at hl 3 rfl) ?_
        refine lv_imul hx hb dX0_matches_81 ?_
        refine lv_iadd hx hb dX0_matches_82 ?_
        refine rd_call (va_runV (As := [.int (fr + ((nI k) * sp))]) (rest := [.int 7]) ⟨hx, hb, hml, hown, hts⟩ (kX0_widthAt l D cI cJ cZ qb b1 b2 bw bd bn (fr + ((nI k) * sp))) (cwV 1 hts gX0_matches_X0_widthAt rfl rfl rfl (by decide +kernel) ⟨Nat.le_of_ble_eq_true rfl, Nat.le_of_ble_eq_true rfl⟩) ⟨rP_blind, va_recv hK hP (ci := 1) (q0 := 0) rfl rfl, rP_pre (hP.sub [0, 1, 2] rfl) hK hN⟩ rfl rfl hl.1 rfl (lv_room (Nat.le_of_ble_eq_true rfl)) dX0_matches_83 ⟨Nat.zero_le _, Nat.zero_le _⟩) ?_
        refine lv_imul hx hb dX0_matches_86 ?_
        refine lv_iload hx hb dX0_matches_87 (lv_at hl 1 rfl) ?_
        refine va_gets hx hb hZ hS0 hown (hts (.fieldLink RX0 50 "DepositCodes$Bars" "PATTERNS" "[I") (by decide +kernel)) (fun _ h9 => h9) dX0_matches_89 ?_
        refine lv_iload_n hx hb dX0_matches_92 rfl (lv_at hl 5 rfl) ?_
        refine lv_iconst (v := 4) hx hb dX0_matches_93 (by decide) ?_
        refine lv_imul hx hb dX0_matches_94 ?_
        refine na_top (show (nI d) * 4 = nI (d * 4) from pk_mul d 4) ?_
        refine lv_iload hx hb dX0_matches_95 (lv_at hl 0 rfl) ?_
        refine lv_iadd hx hb dX0_matches_97 ?_
        refine na_top (show (nI (d * 4)) + (nI k) = nI ((d * 4) + k) from nI_add (d * 4) k) ?_
        refine na_ti hx hb hT hS0 (by omega) (by decide) rfl dX0_matches_98 ?_
        refine lv_imul hx hb dX0_matches_99 ?_
        refine lv_icmp_eq (tgt := 105) hx hb dX0_matches_100 (by decide) (fun c_6 => ?_) (fun c_6 => ?_)
        · rw [if_pos c_6] at hE
          refine lv_iinc (v := nI (k + 1)) (lv' := [(8, .int (nI (k + 1))), (7, .int sm), (6, .int fr), (5, .int sp), (0, .ref qb), (1, .int (nI d)), (2, .int sa), (3, .int ln), (4, .int rv)]) hx hb dX0_matches_105 hl (k := 0) rfl (nI_1 k) (by decide) rfl (fun ls hl => ?_)
          refine lv_goto (tgt := 66) hx hb dX0_matches_108 (by decide) ?_
          exact ih (k + 1) sm sp fr (by omega) (by omega) hE ls (lv_sub hl [0, 1, 2, 3, 4, 5, 6, 7, 8] rfl)
        · rw [if_neg c_6] at hE
          refine lv_iconst (v := 0) hx hb dX0_matches_103 (by decide) ?_
          exact W.zret hx hb hr narrow_b0 (fun t ht hW => ⟨by rw [← hE], ht⟩) (fun q h => absurd h List.not_mem_nil) dX0_matches_104
  have loop_34 : ∀ (n : Nat) (k : Nat) (sm : Int32) (sp : Int32) (fr : Int32), k ≤ 4 → k + n = 5 → FX0_matches_l34 bw d n k sm sp fr = R0 → ∀ ls : Array Slot, lv_has ls 9 [(8, .int (nI k)), (7, .int sm), (6, .int fr), (5, .int sp), (0, .ref qb), (1, .int (nI d)), (2, .int sa), (3, .int ln), (4, .int rv)] → W p l e (headSpec wsX0_matches ({ frames := 2, cells := 0, slots := 0, locals := 42 })).room s m ([.ref qb, .int (nI d), .int sa, .int ln, .int rv] : List Value).toArray below meth c s.heap [] 0 0 (MQ below (k2_QcV (.int R0)) ([.ref qb, .int (nI d), .int sa, .int ln, .int rv] : List Value).toArray s 0 0 (fun _ => False)) (F0 m 34 ls []) := by
    intro n
    induction n with
    | zero =>
      intro k sm sp fr i_1 i_2
      exact absurd i_1 (by omega)
    | succ n ih =>
      intro k sm sp fr i_1 i_2 hE ls hl
      rw [FX0_matches_l34] at hE
      refine lv_iload hx hb dX0_matches_34 (lv_at hl 0 rfl) ?_
      refine lv_iconst (v := 4) hx hb dX0_matches_36 (by decide) ?_
      refine lv_icmp_ge (tgt := 63) hx hb dX0_matches_37 (by decide) (fun c_4 => ?_) (fun c_4 => ?_)
      · have c_4 : 4 ≤ k := (nI_leI (a := 4) (b := k) (by omega) (by omega)).mp c_4
        rw [if_pos c_4] at hE
        refine lv_iconst (v := 0) hx hb dX0_matches_63 (by decide) ?_
        refine lv_istore (lv' := [(8, .int 0), (7, .int sm), (6, .int fr), (5, .int sp), (0, .ref qb), (1, .int (nI d)), (2, .int sa), (3, .int ln), (4, .int rv)]) hx hb dX0_matches_64 hl (by decide) rfl (fun ls hl => ?_)
        exact loop_66 5 0 sm sp fr (by omega) (by omega) hE ls (lv_sub hl [0, 1, 2, 3, 4, 5, 6, 7, 8] rfl)
      · have c_4 : ¬ 4 ≤ k := fun h9 => c_4 ((nI_leI (a := 4) (b := k) (by omega) (by omega)).mpr h9)
        rw [if_neg c_4] at hE
        refine lv_iload hx hb dX0_matches_40 (lv_at hl 1 rfl) ?_
        refine lv_aload_n hx hb dX0_matches_42 rfl (lv_at hl 4 rfl) ?_
        refine lv_iload hx hb dX0_matches_43 (lv_at hl 2 rfl) ?_
        refine lv_iload hx hb dX0_matches_45 (lv_at hl 0 rfl) ?_
        refine lv_iload hx hb dX0_matches_47 (lv_at hl 3 rfl) ?_
        refine lv_imul hx hb dX0_matches_49 ?_
        refine lv_iadd hx hb dX0_matches_50 ?_
        refine rd_call (va_runV (As := [.int (fr + ((nI k) * sp))]) (rest := [.int sm]) ⟨hx, hb, hml, hown, hts⟩ (kX0_widthAt l D cI cJ cZ qb b1 b2 bw bd bn (fr + ((nI k) * sp))) (cwV 1 hts gX0_matches_X0_widthAt rfl rfl rfl (by decide +kernel) ⟨Nat.le_of_ble_eq_true rfl, Nat.le_of_ble_eq_true rfl⟩) ⟨rP_blind, va_recv hK hP (ci := 1) (q0 := 0) rfl rfl, rP_pre (hP.sub [0, 1, 2] rfl) hK hN⟩ rfl rfl hl.1 rfl (lv_room (Nat.le_of_ble_eq_true rfl)) dX0_matches_51 ⟨Nat.zero_le _, Nat.zero_le _⟩) ?_
        refine lv_iadd hx hb dX0_matches_54 ?_
        refine lv_istore (lv' := [(7, .int (sm + (FX0_widthAt bw (fr + ((nI k) * sp))))), (8, .int (nI k)), (6, .int fr), (5, .int sp), (0, .ref qb), (1, .int (nI d)), (2, .int sa), (3, .int ln), (4, .int rv)]) hx hb dX0_matches_55 hl (by decide) rfl (fun ls hl => ?_)
        refine lv_iinc (v := nI (k + 1)) (lv' := [(8, .int (nI (k + 1))), (7, .int (sm + (FX0_widthAt bw (fr + ((nI k) * sp))))), (6, .int fr), (5, .int sp), (0, .ref qb), (1, .int (nI d)), (2, .int sa), (3, .int ln), (4, .int rv)]) hx hb dX0_matches_57 hl (k := 1) rfl (nI_1 k) (by decide) rfl (fun ls hl => ?_)
        refine lv_goto (tgt := 34) hx hb dX0_matches_60 (by decide) ?_
        exact ih (k + 1) (sm + (FX0_widthAt bw (fr + ((nI k) * sp)))) sp fr (by omega) (by omega) hE ls (lv_sub hl [0, 1, 2, 3, 4, 5, 6, 7, 8] rfl)
  refine lv_iload hx hb dX0_matches_0 (lv_at hl 4 rfl) ?_
  refine lv_if_eq (tgt := 9) hx hb dX0_matches_2 (by decide) (fun c_1 => ?_) (fun c_1 => ?_)
  · rw [if_pos c_1] at hE
    refine lv_iconst (v := 1) hx hb dX0_matches_9 (by decide) ?_
    refine lv_istore (lv' := [(5, .int 1), (0, .ref qb), (1, .int (nI d)), (2, .int sa), (3, .int ln), (4, .int rv)]) hx hb dX0_matches_10 hl (by decide) rfl (fun ls hl => ?_)
    refine lv_iload hx hb dX0_matches_12 (lv_at hl 5 rfl) ?_
    refine lv_if_eq (tgt := 25) hx hb dX0_matches_14 (by decide) (fun c_2 => ?_) (fun c_2 => ?_)
    · rw [if_pos c_2] at hE
      refine lv_iload_n hx hb dX0_matches_25 rfl (lv_at hl 3 rfl) ?_
      refine lv_istore (lv' := [(6, .int sa), (5, .int 1), (0, .ref qb), (1, .int (nI d)), (2, .int sa), (3, .int ln), (4, .int rv)]) hx hb dX0_matches_26 hl (by decide) rfl (fun ls hl => ?_)
      refine lv_iconst (v := 0) hx hb dX0_matches_28 (by decide) ?_
      refine lv_istore (lv' := [(7, .int 0), (6, .int sa), (5, .int 1), (0, .ref qb), (1, .int (nI d)), (2, .int sa), (3, .int ln), (4, .int rv)]) hx hb dX0_matches_29 hl (by decide) rfl (fun ls hl => ?_)
      refine lv_iconst (v := 0) hx hb dX0_matches_31 (by decide) ?_
      refine lv_istore (lv' := [(8, .int 0), (7, .int 0), (6, .int sa), (5, .int 1), (0, .ref qb), (1, .int (nI d)), (2, .int sa), (3, .int ln), (4, .int rv)]) hx hb dX0_matches_32 hl (by decide) rfl (fun ls hl => ?_)
      exact loop_34 5 0 0 1 sa (by omega) (by omega) hE ls (lv_sub hl [0, 1, 2, 3, 4, 5, 6, 7, 8] rfl)
    · rw [if_neg c_2] at hE
      refine lv_iload_n hx hb dX0_matches_17 rfl (lv_at hl 4 rfl) ?_
      refine lv_iconst (v := 1) hx hb dX0_matches_18 (by decide) ?_
      refine lv_isub hx hb dX0_matches_19 ?_
      refine lv_iload_n hx hb dX0_matches_20 rfl (lv_at hl 3 rfl) ?_
      refine lv_isub hx hb dX0_matches_21 ?_
      refine lv_goto (tgt := 26) hx hb dX0_matches_22 (by decide) ?_
      refine lv_istore (lv' := [(6, .int ((ln - 1) - sa)), (5, .int 1), (0, .ref qb), (1, .int (nI d)), (2, .int sa), (3, .int ln), (4, .int rv)]) hx hb dX0_matches_26 hl (by decide) rfl (fun ls hl => ?_)
      refine lv_iconst (v := 0) hx hb dX0_matches_28 (by decide) ?_
      refine lv_istore (lv' := [(7, .int 0), (6, .int ((ln - 1) - sa)), (5, .int 1), (0, .ref qb), (1, .int (nI d)), (2, .int sa), (3, .int ln), (4, .int rv)]) hx hb dX0_matches_29 hl (by decide) rfl (fun ls hl => ?_)
      refine lv_iconst (v := 0) hx hb dX0_matches_31 (by decide) ?_
      refine lv_istore (lv' := [(8, .int 0), (7, .int 0), (6, .int ((ln - 1) - sa)), (5, .int 1), (0, .ref qb), (1, .int (nI d)), (2, .int sa), (3, .int ln), (4, .int rv)]) hx hb dX0_matches_32 hl (by decide) rfl (fun ls hl => ?_)
      exact loop_34 5 0 0 1 ((ln - 1) - sa) (by omega) (by omega) hE ls (lv_sub hl [0, 1, 2, 3, 4, 5, 6, 7, 8] rfl)
  · rw [if_neg c_1] at hE
    refine lv_iconst (v := (-1)) hx hb dX0_matches_5 (by decide) ?_
    refine lv_goto (tgt := 10) hx hb dX0_matches_6 (by decide) ?_
    refine lv_istore (lv' := [(5, .int (-1)), (0, .ref qb), (1, .int (nI d)), (2, .int sa), (3, .int ln), (4, .int rv)]) hx hb dX0_matches_10 hl (by decide) rfl (fun ls hl => ?_)
    refine lv_iload hx hb dX0_matches_12 (lv_at hl 5 rfl) ?_
    refine lv_if_eq (tgt := 25) hx hb dX0_matches_14 (by decide) (fun c_3 => ?_) (fun c_3 => ?_)
    · rw [if_pos c_3] at hE
      refine lv_iload_n hx hb dX0_matches_25 rfl (lv_at hl 3 rfl) ?_
      refine lv_istore (lv' := [(6, .int sa), (5, .int (-1)), (0, .ref qb), (1, .int (nI d)), (2, .int sa), (3, .int ln), (4, .int rv)]) hx hb dX0_matches_26 hl (by decide) rfl (fun ls hl => ?_)
      refine lv_iconst (v := 0) hx hb dX0_matches_28 (by decide) ?_
      refine lv_istore (lv' := [(7, .int 0), (6, .int sa), (5, .int (-1)), (0, .ref qb), (1, .int (nI d)), (2, .int sa), (3, .int ln), (4, .int rv)]) hx hb dX0_matches_29 hl (by decide) rfl (fun ls hl => ?_)
      refine lv_iconst (v := 0) hx hb dX0_matches_31 (by decide) ?_
      refine lv_istore (lv' := [(8, .int 0), (7, .int 0), (6, .int sa), (5, .int (-1)), (0, .ref qb), (1, .int (nI d)), (2, .int sa), (3, .int ln), (4, .int rv)]) hx hb dX0_matches_32 hl (by decide) rfl (fun ls hl => ?_)
      exact loop_34 5 0 0 (-1) sa (by omega) (by omega) hE ls (lv_sub hl [0, 1, 2, 3, 4, 5, 6, 7, 8] rfl)
    · rw [if_neg c_3] at hE
      refine lv_iload_n hx hb dX0_matches_17 rfl (lv_at hl 4 rfl) ?_
      refine lv_iconst (v := 1) hx hb dX0_matches_18 (by decide) ?_
      refine lv_isub hx hb dX0_matches_19 ?_
      refine lv_iload_n hx hb dX0_matches_20 rfl (lv_at hl 3 rfl) ?_
      refine lv_isub hx hb dX0_matches_21 ?_
      refine lv_goto (tgt := 26) hx hb dX0_matches_22 (by decide) ?_
      refine lv_istore (lv' := [(6, .int ((ln - 1) - sa)), (5, .int (-1)), (0, .ref qb), (1, .int (nI d)), (2, .int sa), (3, .int ln), (4, .int rv)]) hx hb dX0_matches_26 hl (by decide) rfl (fun ls hl => ?_)
      refine lv_iconst (v := 0) hx hb dX0_matches_28 (by decide) ?_
      refine lv_istore (lv' := [(7, .int 0), (6, .int ((ln - 1) - sa)), (5, .int (-1)), (0, .ref qb), (1, .int (nI d)), (2, .int sa), (3, .int ln), (4, .int rv)]) hx hb dX0_matches_29 hl (by decide) rfl (fun ls hl => ?_)
      refine lv_iconst (v := 0) hx hb dX0_matches_31 (by decide) ?_
      refine lv_istore (lv' := [(8, .int 0), (7, .int 0), (6, .int ((ln - 1) - sa)), (5, .int (-1)), (0, .ref qb), (1, .int (nI d)), (2, .int sa), (3, .int ln), (4, .int rv)]) hx hb dX0_matches_32 hl (by decide) rfl (fun ls hl => ?_)
      exact loop_34 5 0 0 (-1) ((ln - 1) - sa) (by omega) (by omega) hE ls (lv_sub hl [0, 1, 2, 3, 4, 5, 6, 7, 8] rfl)
def FX0_digitOfGroup_l3 (bw : Nat → Int32) (sa : Int32) (ln : Int32) (rv : Int32) : Nat → Nat → Int32
  | 0, _ => 0
  | n + 1, d => if 10 ≤ d then (-1) else (if (FX0_matches bw d sa ln rv) = 0 then FX0_digitOfGroup_l3 bw sa ln rv n (d + 1) else nI d)
def FX0_digitOfGroup (bw : Nat → Int32) (sa : Int32) (ln : Int32) (rv : Int32) : Int32 := FX0_digitOfGroup_l3 bw sa ln rv 11 0
set_option maxHeartbeats 4000000 in
set_option maxRecDepth 100000 in
theorem kX0_digitOfGroup (l : Launch) (D : va_G) (cI cJ cZ : ClassId) (qb : Nat) (b1 : Nat) (b2 : Nat) (bw : Nat → Int32) (bd : Nat → Int32) (bn : Nat) (sa : Int32) (ln : Int32) (rv : Int32) : Met l yX0_digitOfGroup wsX0_digitOfGroup ({ frames := 3, cells := 0, slots := 0, locals := 70 }) (rPz D (tz cI cJ cZ) [.ref qb, .int sa, .int ln, .int rv] [(qb, .inr (1, [.ref b1, .ref b2, .int (nI bn)])), (b1, .inl (cI, 64, .inl bw)), (b2, .inl (cI, 14, .inl bd))]) (k2_QcV (.int (FX0_digitOfGroup bw sa ln rv))) 0 0 (fun _ => False) := by
  refine Met.ofW (cc := cX0_digitOfGroup) (maxL := 5) (ret := (some .int)) (by decide) rfl ?_
  intro p e s m args below meth c s₁ B hml hv
  obtain ⟨⟨rfl, hP, hK, hN⟩, hZP⟩ := hv
  have hx := B.exec
  have hb := B.bytes
  have hr := B.returns
  have hts := atoms_spec (ws := wsX0_digitOfGroup) B.pre
  have hown : s.vm.findClass RX0 = some m.cls := findClass_of_methodNamed B.named
  have hlocks := B.notSynchronized
  generalize hE : FX0_digitOfGroup bw sa ln rv = R0
  have hS0 : va_S (fun _ => False) s.heap s.heap [] := va_S.rf
  obtain ⟨tPAT, hZ, hT⟩ := id hZP
  rw [FX0_digitOfGroup] at hE
  have hl := lv_entry ([.ref qb, .int sa, .int ln, .int rv]) (n := 5) (Nat.le_of_ble_eq_true rfl)
  rw [lg_entry_eq]
  generalize (lg_sl ([.ref qb, .int sa, .int ln, .int rv]) ++ List.replicate (5 - (lg_sl ([.ref qb, .int sa, .int ln, .int rv])).length) Slot.unset).toArray = ls at hl ⊢
  have hl : lv_has ls 5 [(0, .ref qb), (1, .int sa), (2, .int ln), (3, .int rv)] := hl
  have loop_3 : ∀ (n : Nat) (d : Nat), d ≤ 10 → d + n = 11 → FX0_digitOfGroup_l3 bw sa ln rv n d = R0 → ∀ ls : Array Slot, lv_has ls 5 [(4, .int (nI d)), (0, .ref qb), (1, .int sa), (2, .int ln), (3, .int rv)] → W p l e (headSpec wsX0_digitOfGroup ({ frames := 3, cells := 0, slots := 0, locals := 70 })).room s m ([.ref qb, .int sa, .int ln, .int rv] : List Value).toArray below meth c s.heap [] 0 0 (MQ below (k2_QcV (.int R0)) ([.ref qb, .int sa, .int ln, .int rv] : List Value).toArray s 0 0 (fun _ => False)) (F0 m 3 ls []) := by
    intro n
    induction n with
    | zero =>
      intro d i_1 i_2
      exact absurd i_1 (by omega)
    | succ n ih =>
      intro d i_1 i_2 hE ls hl
      rw [FX0_digitOfGroup_l3] at hE
      refine lv_iload hx hb dX0_digitOfGroup_3 (lv_at hl 0 rfl) ?_
      refine lv_bipush (v := 10) hx hb dX0_digitOfGroup_5 (by decide) ?_
      refine lv_icmp_ge (tgt := 31) hx hb dX0_digitOfGroup_7 (by decide) (fun c_1 => ?_) (fun c_1 => ?_)
      · have c_1 : 10 ≤ d := (nI_leI (a := 10) (b := d) (by omega) (by omega)).mp c_1
        rw [if_pos c_1] at hE
        refine lv_iconst (v := (-1)) hx hb dX0_digitOfGroup_31 (by decide) ?_
        exact W.iret hx hb hr (fun t ht hW => ⟨by rw [← hE], ht⟩) (fun q h => absurd h List.not_mem_nil) dX0_digitOfGroup_32
      · have c_1 : ¬ 10 ≤ d := fun h9 => c_1 ((nI_leI (a := 10) (b := d) (by omega) (by omega)).mpr h9)
        rw [if_neg c_1] at hE
        refine lv_aload_n hx hb dX0_digitOfGroup_10 rfl (lv_at hl 1 rfl) ?_
        refine lv_iload hx hb dX0_digitOfGroup_11 (lv_at hl 0 rfl) ?_
        refine lv_iload_n hx hb dX0_digitOfGroup_13 rfl (lv_at hl 2 rfl) ?_
        refine lv_iload_n hx hb dX0_digitOfGroup_14 rfl (lv_at hl 3 rfl) ?_
        refine lv_iload_n hx hb dX0_digitOfGroup_15 rfl (lv_at hl 4 rfl) ?_
        refine rd_call (va_runV (As := [.int (nI d), .int sa, .int ln, .int rv]) (rest := []) ⟨hx, hb, hml, hown, hts⟩ (kX0_matches l D cI cJ cZ qb b1 b2 bw bd bn d sa ln rv (by first | assumption | omega)) (cwV 4 hts gX0_digitOfGroup_X0_matches rfl rfl rfl (by decide +kernel) ⟨Nat.le_of_ble_eq_true rfl, Nat.le_of_ble_eq_true rfl⟩) ⟨rPz_blind, va_recv hK hP (ci := 1) (q0 := 0) rfl rfl, rPz_pre (hP.sub [0, 1, 2] rfl) hK hN hZP⟩ rfl rfl hl.1 rfl (lv_room (Nat.le_of_ble_eq_true rfl)) dX0_digitOfGroup_16 ⟨Nat.zero_le _, Nat.zero_le _⟩) ?_
        refine lv_if_eq (tgt := 25) hx hb dX0_digitOfGroup_19 (by decide) (fun c_2 => ?_) (fun c_2 => ?_)
        · rw [if_pos c_2] at hE
          refine lv_iinc (v := nI (d + 1)) (lv' := [(4, .int (nI (d + 1))), (0, .ref qb), (1, .int sa), (2, .int ln), (3, .int rv)]) hx hb dX0_digitOfGroup_25 hl (k := 0) rfl (nI_1 d) (by decide) rfl (fun ls hl => ?_)
          refine lv_goto (tgt := 3) hx hb dX0_digitOfGroup_28 (by decide) ?_
          exact ih (d + 1) (by omega) (by omega) hE ls (lv_sub hl [0, 1, 2, 3, 4] rfl)
        · rw [if_neg c_2] at hE
          refine lv_iload hx hb dX0_digitOfGroup_22 (lv_at hl 0 rfl) ?_
          exact W.iret hx hb hr (fun t ht hW => ⟨by rw [← hE], ht⟩) (fun q h => absurd h List.not_mem_nil) dX0_digitOfGroup_24
  refine lv_iconst (v := 0) hx hb dX0_digitOfGroup_0 (by decide) ?_
  refine lv_istore (lv' := [(4, .int 0), (0, .ref qb), (1, .int sa), (2, .int ln), (3, .int rv)]) hx hb dX0_digitOfGroup_1 hl (by decide) rfl (fun ls hl => ?_)
  exact loop_3 11 0 (by omega) (by omega) hE ls (lv_sub hl [0, 1, 2, 3, 4] rfl)
def FX0_decode_l44 (bw : Nat → Int32) (bn : Nat) (ln : Nat) (rv : Int32) : Nat → Nat → (Nat → Int32) → Int32 × (Nat → Int32) × Nat
  | 0, _, _ => (0, fun _ => 0, 0)
  | n + 1, g, bdx => if ((ln - 6) / 4) ≤ g then (1, bdx, (ln - 6) / 4) else (if 14 ≤ g then (1, bdx, (ln - 6) / 4) else (if (FX0_digitOfGroup bw (nI (3 + (g * 4))) (nI ln) rv) = (-1) then (0, bdx, bn) else FX0_decode_l44 bw bn ln rv n (g + 1) (upd bdx g (FX0_digitOfGroup bw (nI (3 + (g * 4))) (nI ln) rv))))
def FX0_decode (bw : Nat → Int32) (bd : Nat → Int32) (bn : Nat) (ln : Nat) (rv : Int32) : Int32 × (Nat → Int32) × Nat := if ((nI ln) - 6) < 4 then (0, bd, bn) else (if ((ln - 6) % 4) = 0 then (if (FX0_isEdge bw 0) = 0 then (0, bd, bn) else (if (FX0_isEdge bw ((nI ln) - 3)) = 0 then (0, bd, bn) else FX0_decode_l44 bw bn ln rv 15 0 bd)) else (0, bd, bn))
set_option maxHeartbeats 4000000 in
set_option maxRecDepth 100000 in
theorem kX0_decode (l : Launch) (D : va_G) (cI cJ cZ : ClassId) (qb : Nat) (b1 : Nat) (b2 : Nat) (bw : Nat → Int32) (bd : Nat → Int32) (bn : Nat) (ln : Nat) (rv : Int32) (sz : Nat) (hln : ln ≤ 64) : Met l yX0_decode wsX0_decode ({ frames := 4, cells := 0, slots := 0, locals := 94 }) (mPz D (tz cI cJ cZ) [.ref qb, .int (nI ln), .int rv] sz [(qb, .inr (1, [.ref b1, .ref b2, .int (nI bn)])), (b1, .inl (cI, 64, .inl bw)), (b2, .inl (cI, 14, .inl bd))]) (mQ D (some (.int ((FX0_decode bw bd bn ln rv).1))) [(qb, .inr (1, [.ref b1, .ref b2, .int (nI ((FX0_decode bw bd bn ln rv).2.2))])), (b1, .inl (cI, 64, .inl bw)), (b2, .inl (cI, 14, .inl ((FX0_decode bw bd bn ln rv).2.1)))] (va_A [(qb, .inr (1, [.ref b1, .ref b2, .int (nI bn)])), (b1, .inl (cI, 64, .inl bw)), (b2, .inl (cI, 14, .inl bd))] sz)) 0 0 (va_A [(qb, .inr (1, [.ref b1, .ref b2, .int (nI bn)])), (b1, .inl (cI, 64, .inl bw)), (b2, .inl (cI, 14, .inl bd))] sz) := by
  refine Met.ofW (cc := cX0_decode) (maxL := 7) (ret := (some .boolean)) (by decide) rfl ?_
  intro p e s m args below meth c s₁ B hml hv
  obtain ⟨⟨rfl, hsz, hP, hK, hD0, hN⟩, hZA⟩ := hv
  have hx := B.exec
  have hb := B.bytes
  have hr := B.returns
  have hts := atoms_spec (ws := wsX0_decode) B.pre
  have hown : s.vm.findClass RX0 = some m.cls := findClass_of_methodNamed B.named
  have hlocks := B.notSynchronized
  have iw_1 : ∀ w ∈ u_ws RX0 TX0 3, w ∈ wsX0_decode := by decide +kernel
  rw [← hsz] at hZA
  subst hsz
  have hD := hD0.self (sz := s.heap.size)
  generalize hE : FX0_decode bw bd bn ln rv = R0
  generalize hAe : va_A [(qb, .inr (1, [.ref b1, .ref b2, .int (nI bn)])), (b1, .inl (cI, 64, .inl bw)), (b2, .inl (cI, 14, .inl bd))] s.heap.size = A at hD hZA ⊢
  have hA : ∀ q : Nat, s.heap.size ≤ q → A q := fun q h => by rw [← hAe]; exact Or.inr h
  have hS : va_S A s.heap s.heap [] := va_S.rf
  rw [FX0_decode] at hE
  have hl := lv_entry ([.ref qb, .int (nI ln), .int rv]) (n := 7) (Nat.le_of_ble_eq_true rfl)
  rw [lg_entry_eq]
  generalize (lg_sl ([.ref qb, .int (nI ln), .int rv]) ++ List.replicate (7 - (lg_sl ([.ref qb, .int (nI ln), .int rv])).length) Slot.unset).toArray = ls at hl ⊢
  have hl : lv_has ls 7 [(0, .ref qb), (1, .int (nI ln)), (2, .int rv)] := hl
  have loop_44 : ∀ (n : Nat) (g : Nat) (bdx : Nat → Int32), g ≤ 14 → g + n = 15 → FX0_decode_l44 bw bn ln rv n g bdx = R0 → ∀ (H : Heap) (locs : List Loc), va_P D vwCl [(qb, .inr (1, [.ref b1, .ref b2, .int (nI bn)])), (b1, .inl (cI, 64, .inl bw)), (b2, .inl (cI, 14, .inl bdx))] H → va_D A [(qb, .inr (1, [.ref b1, .ref b2, .int (nI bn)])), (b1, .inl (cI, 64, .inl bw)), (b2, .inl (cI, 14, .inl bdx))] → va_S A s.heap H locs → ∀ ls : Array Slot, lv_has ls 7 [(5, .int (nI g)), (4, .int (nI ((ln - 6) / 4))), (3, .int (nI (ln - 6))), (0, .ref qb), (1, .int (nI ln)), (2, .int rv)] → W p l e (headSpec wsX0_decode ({ frames := 4, cells := 0, slots := 0, locals := 94 })).room s m ([.ref qb, .int (nI ln), .int rv] : List Value).toArray below meth c H locs 0 0 (MQ below (mQ D (some (.int R0.1)) [(qb, .inr (1, [.ref b1, .ref b2, .int (nI R0.2.2)])), (b1, .inl (cI, 64, .inl bw)), (b2, .inl (cI, 14, .inl R0.2.1))] A) ([.ref qb, .int (nI ln), .int rv] : List Value).toArray s 0 0 A) (F0 m 44 ls []) := by
    intro n
    induction n with
    | zero =>
      intro g bdx i_1 i_2
      exact absurd i_1 (by omega)
    | succ n ih =>
      intro g bdx i_1 i_2 hE H locs hP hD hS ls hl
      rw [FX0_decode_l44] at hE
      refine lv_iload hx hb dX0_decode_44 (lv_at hl 0 rfl) ?_
      refine lv_iload hx hb dX0_decode_46 (lv_at hl 1 rfl) ?_
      refine lv_icmp_ge (tgt := 95) hx hb dX0_decode_48 (by decide) (fun c_5 => ?_) (fun c_5 => ?_)
      · have c_5 : ((ln - 6) / 4) ≤ g := (nI_leI (a := ((ln - 6) / 4)) (b := g) (by omega) (by omega)).mp c_5
        rw [if_pos c_5] at hE
        refine lv_aload_n hx hb dX0_decode_95 rfl (lv_at hl 3 rfl) ?_
        refine lv_iload hx hb dX0_decode_96 (lv_at hl 1 rfl) ?_
        refine va_put (D := D) (ci := 1) (v := .int (nI ((ln - 6) / 4))) (ty := .int) (C := RX0) (T := TX0) (N := 3) hx hb hts iw_1 tyX0 tyX0_ok nmX0 hown hK hP hD hS 0 rfl rfl 2 (by decide) (hts (.fieldLink RX0 18 "DepositCodes$Bars" "digitCount" "I") (by decide +kernel)) (fun _ h9 => h9) rfl (by decide +kernel) rfl rfl (Nat.le_of_ble_eq_true rfl) dX0_decode_98 (fun H locs hP hD hS => ?_)
        have hP : va_P D vwCl [(qb, .inr (1, [.ref b1, .ref b2, .int (nI ((ln - 6) / 4))])), (b1, .inl (cI, 64, .inl bw)), (b2, .inl (cI, 14, .inl bdx))] H := hP
        have hD : va_D A [(qb, .inr (1, [.ref b1, .ref b2, .int (nI ((ln - 6) / 4))])), (b1, .inl (cI, 64, .inl bw)), (b2, .inl (cI, 14, .inl bdx))] := hD
        refine lv_iconst (v := 1) hx hb dX0_decode_101 (by decide) ?_
        subst hE
        exact W.zret hx hb hr narrow_b1 (fun t ht hW => ⟨rfl, by rw [ht]; exact hP, hD, hS.F ht⟩) hS.2.2 dX0_decode_102
      · have c_5 : ¬ ((ln - 6) / 4) ≤ g := fun h9 => c_5 ((nI_leI (a := ((ln - 6) / 4)) (b := g) (by omega) (by omega)).mpr h9)
        rw [if_neg c_5] at hE
        refine lv_iload hx hb dX0_decode_51 (lv_at hl 0 rfl) ?_
        refine lv_bipush (v := 14) hx hb dX0_decode_53 (by decide) ?_
        refine lv_icmp_ge (tgt := 95) hx hb dX0_decode_55 (by decide) (fun c_6 => ?_) (fun c_6 => ?_)
        · have c_6 : 14 ≤ g := (nI_leI (a := 14) (b := g) (by omega) (by omega)).mp c_6
          rw [if_pos c_6] at hE
          refine lv_aload_n hx hb dX0_decode_95 rfl (lv_at hl 3 rfl) ?_
          refine lv_iload hx hb dX0_decode_96 (lv_at hl 1 rfl) ?_
          refine va_put (D := D) (ci := 1) (v := .int (nI ((ln - 6) / 4))) (ty := .int) (C := RX0) (T := TX0) (N := 3) hx hb hts iw_1 tyX0 tyX0_ok nmX0 hown hK hP hD hS 0 rfl rfl 2 (by decide) (hts (.fieldLink RX0 18 "DepositCodes$Bars" "digitCount" "I") (by decide +kernel)) (fun _ h9 => h9) rfl (by decide +kernel) rfl rfl (Nat.le_of_ble_eq_true rfl) dX0_decode_98 (fun H locs hP hD hS => ?_)
          have hP : va_P D vwCl [(qb, .inr (1, [.ref b1, .ref b2, .int (nI ((ln - 6) / 4))])), (b1, .inl (cI, 64, .inl bw)), (b2, .inl (cI, 14, .inl bdx))] H := hP
          have hD : va_D A [(qb, .inr (1, [.ref b1, .ref b2, .int (nI ((ln - 6) / 4))])), (b1, .inl (cI, 64, .inl bw)), (b2, .inl (cI, 14, .inl bdx))] := hD
          refine lv_iconst (v := 1) hx hb dX0_decode_101 (by decide) ?_
          subst hE
          exact W.zret hx hb hr narrow_b1 (fun t ht hW => ⟨rfl, by rw [ht]; exact hP, hD, hS.F ht⟩) hS.2.2 dX0_decode_102
        · have c_6 : ¬ 14 ≤ g := fun h9 => c_6 ((nI_leI (a := 14) (b := g) (by omega) (by omega)).mpr h9)
          rw [if_neg c_6] at hE
          refine lv_aload_n hx hb dX0_decode_58 rfl (lv_at hl 3 rfl) ?_
          refine lv_iconst (v := 3) hx hb dX0_decode_59 (by decide) ?_
          refine lv_iload hx hb dX0_decode_60 (lv_at hl 0 rfl) ?_
          refine lv_iconst (v := 4) hx hb dX0_decode_62 (by decide) ?_
          refine lv_imul hx hb dX0_decode_63 ?_
          refine na_top (show (nI g) * 4 = nI (g * 4) from pk_mul g 4) ?_
          refine lv_iadd hx hb dX0_decode_64 ?_
          refine na_top (show 3 + (nI (g * 4)) = nI (3 + (g * 4)) from nI_add 3 (g * 4)) ?_
          refine lv_iload_n hx hb dX0_decode_65 rfl (lv_at hl 4 rfl) ?_
          refine lv_iload_n hx hb dX0_decode_66 rfl (lv_at hl 5 rfl) ?_
          refine rd_call (va_runV (As := [.int (nI (3 + (g * 4))), .int (nI ln), .int rv]) (rest := []) ⟨hx, hb, hml, hown, hts⟩ (kX0_digitOfGroup l D cI cJ cZ qb b1 b2 bw bdx bn (nI (3 + (g * 4))) (nI ln) rv) (cwV 3 hts gX0_decode_X0_digitOfGroup rfl rfl rfl (by decide +kernel) ⟨Nat.le_of_ble_eq_true rfl, Nat.le_of_ble_eq_true rfl⟩) ⟨rPz_blind, va_recv hK hP (ci := 1) (q0 := 0) rfl rfl, rPz_pre (hP.sub [0, 1, 2] rfl) hK hN (hZA.ro hS)⟩ rfl rfl hl.1 rfl (lv_room (Nat.le_of_ble_eq_true rfl)) dX0_decode_67 ⟨Nat.zero_le _, Nat.zero_le _⟩) ?_
          refine lv_istore (lv' := [(6, .int (FX0_digitOfGroup bw (nI (3 + (g * 4))) (nI ln) rv)), (5, .int (nI g)), (4, .int (nI ((ln - 6) / 4))), (3, .int (nI (ln - 6))), (0, .ref qb), (1, .int (nI ln)), (2, .int rv)]) hx hb dX0_decode_70 hl (by decide) rfl (fun ls hl => ?_)
          refine lv_iload hx hb dX0_decode_72 (lv_at hl 0 rfl) ?_
          refine lv_iconst (v := (-1)) hx hb dX0_decode_74 (by decide) ?_
          refine lv_icmp_ne (tgt := 80) hx hb dX0_decode_75 (by decide) (fun c_7 => ?_) (fun c_7 => ?_)
          · rw [if_neg c_7] at hE
            refine lv_aload_n hx hb dX0_decode_80 rfl (lv_at hl 4 rfl) ?_
            refine va_get (D := D) (ci := 1) (v := .ref b2) (C := RX0) (T := TX0) (N := 3) hx hb hts iw_1 hown hK hP 0 rfl rfl 1 (by decide) (hts (.fieldLink RX0 15 "DepositCodes$Bars" "digits" "[I") (by decide +kernel)) (fun _ h9 => h9) rfl dX0_decode_81 ?_
            refine lv_iload hx hb dX0_decode_84 (lv_at hl 1 rfl) ?_
            refine lv_iload hx hb dX0_decode_86 (lv_at hl 0 rfl) ?_
            refine na_iast hx hb hK hP hD hS 2 0 rfl rfl (by omega) (by decide) dX0_decode_88 (fun H locs hP hD hS => ?_)
            have hP : va_P D vwCl [(qb, .inr (1, [.ref b1, .ref b2, .int (nI bn)])), (b1, .inl (cI, 64, .inl bw)), (b2, .inl (cI, 14, .inl (upd bdx g (FX0_digitOfGroup bw (nI (3 + (g * 4))) (nI ln) rv))))] H := hP
            have hD : va_D A [(qb, .inr (1, [.ref b1, .ref b2, .int (nI bn)])), (b1, .inl (cI, 64, .inl bw)), (b2, .inl (cI, 14, .inl (upd bdx g (FX0_digitOfGroup bw (nI (3 + (g * 4))) (nI ln) rv))))] := hD
            refine lv_iinc (v := nI (g + 1)) (lv' := [(5, .int (nI (g + 1))), (6, .int (FX0_digitOfGroup bw (nI (3 + (g * 4))) (nI ln) rv)), (4, .int (nI ((ln - 6) / 4))), (3, .int (nI (ln - 6))), (0, .ref qb), (1, .int (nI ln)), (2, .int rv)]) hx hb dX0_decode_89 hl (k := 1) rfl (nI_1 g) (by decide) rfl (fun ls hl => ?_)
            refine lv_goto (tgt := 44) hx hb dX0_decode_92 (by decide) ?_
            exact ih (g + 1) (upd bdx g (FX0_digitOfGroup bw (nI (3 + (g * 4))) (nI ln) rv)) (by omega) (by omega) hE _ _ hP hD hS ls (lv_sub hl [0, 2, 3, 4, 5, 6] rfl)
          · rw [if_pos c_7] at hE
            refine lv_iconst (v := 0) hx hb dX0_decode_78 (by decide) ?_
            subst hE
            exact W.zret hx hb hr narrow_b0 (fun t ht hW => ⟨rfl, by rw [ht]; exact hP, hD, hS.F ht⟩) hS.2.2 dX0_decode_79
  refine lv_iload_n hx hb dX0_decode_0 rfl (lv_at hl 1 rfl) ?_
  refine lv_bipush (v := 6) hx hb dX0_decode_1 (by decide) ?_
  refine lv_isub hx hb dX0_decode_3 ?_
  refine lv_istore_n (lv' := [(3, .int ((nI ln) - 6)), (0, .ref qb), (1, .int (nI ln)), (2, .int rv)]) hx hb dX0_decode_4 rfl hl (by decide) rfl (fun ls hl => ?_)
  refine lv_iload_n hx hb dX0_decode_5 rfl (lv_at hl 0 rfl) ?_
  refine lv_iconst (v := 4) hx hb dX0_decode_6 (by decide) ?_
  refine lv_icmp_lt (tgt := 34) hx hb dX0_decode_7 (by decide) (fun c_1 => ?_) (fun c_1 => ?_)
  · rw [if_pos c_1] at hE
    refine lv_iconst (v := 0) hx hb dX0_decode_34 (by decide) ?_
    subst hE
    exact W.zret hx hb hr narrow_b0 (fun t ht hW => ⟨rfl, by rw [ht]; exact hP, hD, hS.F ht⟩) hS.2.2 dX0_decode_35
  · rw [if_neg c_1] at hE
    have h10 : 10 ≤ ln := ln_10 hln (by assumption)
    have hl : lv_has ls 7 [(3, .int (nI (ln - 6))), (0, .ref qb), (1, .int (nI ln)), (2, .int rv)] := by have e9 : (nI ln) - 6 = nI (ln - 6) := pk_sub (a := ln) (b := 6) (by omega); rw [← e9]; exact hl
    refine lv_iload_n hx hb dX0_decode_10 rfl (lv_at hl 0 rfl) ?_
    refine lv_iconst (v := 4) hx hb dX0_decode_11 (by decide) ?_
    refine lv_irem hx hb dX0_decode_12 (by decide) ?_
    refine na_top (show (nI (ln - 6)) - (nI (ln - 6)) / 4 * 4 = nI ((ln - 6) % 4) from pk_rem (a := (ln - 6)) (d := 4) (by omega) (by decide) (by decide)) ?_
    refine lv_if_ne (tgt := 34) hx hb dX0_decode_13 (by decide) (fun c_2 => ?_) (fun c_2 => ?_)
    · have c_2 : ¬ ((ln - 6) % 4) = 0 := fun h9 => c_2 ((nI_eq (a := ((ln - 6) % 4)) (b := 0) (by omega) (by omega)).mpr h9)
      rw [if_neg c_2] at hE
      refine lv_iconst (v := 0) hx hb dX0_decode_34 (by decide) ?_
      subst hE
      exact W.zret hx hb hr narrow_b0 (fun t ht hW => ⟨rfl, by rw [ht]; exact hP, hD, hS.F ht⟩) hS.2.2 dX0_decode_35
    · have c_2 : ((ln - 6) % 4) = 0 := (nI_eq (a := ((ln - 6) % 4)) (b := 0) (by omega) (by omega)).mp c_2
      rw [if_pos c_2] at hE
      refine lv_aload_n hx hb dX0_decode_16 rfl (lv_at hl 1 rfl) ?_
      refine lv_iconst (v := 0) hx hb dX0_decode_17 (by decide) ?_
      refine rd_call (va_runV (As := [.int 0]) (rest := []) ⟨hx, hb, hml, hown, hts⟩ (kX0_isEdge l D cI cJ cZ qb b1 b2 bw bd bn 0) (cwV 1 hts gX0_decode_X0_isEdge rfl rfl rfl (by decide +kernel) ⟨Nat.le_of_ble_eq_true rfl, Nat.le_of_ble_eq_true rfl⟩) ⟨rP_blind, va_recv hK hP (ci := 1) (q0 := 0) rfl rfl, rP_pre (hP.sub [0, 1, 2] rfl) hK hN⟩ rfl rfl hl.1 rfl (lv_room (Nat.le_of_ble_eq_true rfl)) dX0_decode_18 ⟨Nat.zero_le _, Nat.zero_le _⟩) ?_
      refine lv_if_eq (tgt := 34) hx hb dX0_decode_21 (by decide) (fun c_3 => ?_) (fun c_3 => ?_)
      · rw [if_pos c_3] at hE
        refine lv_iconst (v := 0) hx hb dX0_decode_34 (by decide) ?_
        subst hE
        exact W.zret hx hb hr narrow_b0 (fun t ht hW => ⟨rfl, by rw [ht]; exact hP, hD, hS.F ht⟩) hS.2.2 dX0_decode_35
      · rw [if_neg c_3] at hE
        refine lv_aload_n hx hb dX0_decode_24 rfl (lv_at hl 1 rfl) ?_
        refine lv_iload_n hx hb dX0_decode_25 rfl (lv_at hl 2 rfl) ?_
        refine lv_iconst (v := 3) hx hb dX0_decode_26 (by decide) ?_
        refine lv_isub hx hb dX0_decode_27 ?_
        refine rd_call (va_runV (As := [.int ((nI ln) - 3)]) (rest := []) ⟨hx, hb, hml, hown, hts⟩ (kX0_isEdge l D cI cJ cZ qb b1 b2 bw bd bn ((nI ln) - 3)) (cwV 1 hts gX0_decode_X0_isEdge rfl rfl rfl (by decide +kernel) ⟨Nat.le_of_ble_eq_true rfl, Nat.le_of_ble_eq_true rfl⟩) ⟨rP_blind, va_recv hK hP (ci := 1) (q0 := 0) rfl rfl, rP_pre (hP.sub [0, 1, 2] rfl) hK hN⟩ rfl rfl hl.1 rfl (lv_room (Nat.le_of_ble_eq_true rfl)) dX0_decode_28 ⟨Nat.zero_le _, Nat.zero_le _⟩) ?_
        refine lv_if_ne (tgt := 36) hx hb dX0_decode_31 (by decide) (fun c_4 => ?_) (fun c_4 => ?_)
        · rw [if_neg c_4] at hE
          refine lv_iload_n hx hb dX0_decode_36 rfl (lv_at hl 0 rfl) ?_
          refine lv_iconst (v := 4) hx hb dX0_decode_37 (by decide) ?_
          refine lv_idiv hx hb dX0_decode_38 (by decide) ?_
          refine na_top (show (nI (ln - 6)) / 4 = nI ((ln - 6) / 4) from pk_div (a := (ln - 6)) (d := 4) (by omega) (by decide) (by decide)) ?_
          refine lv_istore (lv' := [(4, .int (nI ((ln - 6) / 4))), (3, .int (nI (ln - 6))), (0, .ref qb), (1, .int (nI ln)), (2, .int rv)]) hx hb dX0_decode_39 hl (by decide) rfl (fun ls hl => ?_)
          refine lv_iconst (v := 0) hx hb dX0_decode_41 (by decide) ?_
          refine lv_istore (lv' := [(5, .int 0), (4, .int (nI ((ln - 6) / 4))), (3, .int (nI (ln - 6))), (0, .ref qb), (1, .int (nI ln)), (2, .int rv)]) hx hb dX0_decode_42 hl (by decide) rfl (fun ls hl => ?_)
          exact loop_44 15 0 bd (by omega) (by omega) hE _ _ hP hD hS ls (lv_sub hl [0, 1, 2, 3, 4, 5] rfl)
        · rw [if_pos c_4] at hE
          refine lv_iconst (v := 0) hx hb dX0_decode_34 (by decide) ?_
          subst hE
          exact W.zret hx hb hr narrow_b0 (fun t ht hW => ⟨rfl, by rw [ht]; exact hP, hD, hS.F ht⟩) hS.2.2 dX0_decode_35
def FX0_scan (bw : Nat → Int32) (bd : Nat → Int32) (bn : Nat) (bf : Int32) : Int32 × (Nat → Int32) × Nat := if ((FX0_decode bw bd bn (FX0_rowLength bw) bf).1) = 0 then (if bf = 0 then (if ((FX0_decode bw ((FX0_decode bw bd bn (FX0_rowLength bw) bf).2.1) ((FX0_decode bw bd bn (FX0_rowLength bw) bf).2.2) (FX0_rowLength bw) 1).1) = 0 then ((-1), (FX0_decode bw ((FX0_decode bw bd bn (FX0_rowLength bw) bf).2.1) ((FX0_decode bw bd bn (FX0_rowLength bw) bf).2.2) (FX0_rowLength bw) 1).2.1, 0) else (nI ((FX0_decode bw ((FX0_decode bw bd bn (FX0_rowLength bw) bf).2.1) ((FX0_decode bw bd bn (FX0_rowLength bw) bf).2.2) (FX0_rowLength bw) 1).2.2), (FX0_decode bw ((FX0_decode bw bd bn (FX0_rowLength bw) bf).2.1) ((FX0_decode bw bd bn (FX0_rowLength bw) bf).2.2) (FX0_rowLength bw) 1).2.1, (FX0_decode bw ((FX0_decode bw bd bn (FX0_rowLength bw) bf).2.1) ((FX0_decode bw bd bn (FX0_rowLength bw) bf).2.2) (FX0_rowLength bw) 1).2.2)) else (if ((FX0_decode bw ((FX0_decode bw bd bn (FX0_rowLength bw) bf).2.1) ((FX0_decode bw bd bn (FX0_rowLength bw) bf).2.2) (FX0_rowLength bw) 0).1) = 0 then ((-1), (FX0_decode bw ((FX0_decode bw bd bn (FX0_rowLength bw) bf).2.1) ((FX0_decode bw bd bn (FX0_rowLength bw) bf).2.2) (FX0_rowLength bw) 0).2.1, 0) else (nI ((FX0_decode bw ((FX0_decode bw bd bn (FX0_rowLength bw) bf).2.1) ((FX0_decode bw bd bn (FX0_rowLength bw) bf).2.2) (FX0_rowLength bw) 0).2.2), (FX0_decode bw ((FX0_decode bw bd bn (FX0_rowLength bw) bf).2.1) ((FX0_decode bw bd bn (FX0_rowLength bw) bf).2.2) (FX0_rowLength bw) 0).2.1, (FX0_decode bw ((FX0_decode bw bd bn (FX0_rowLength bw) bf).2.1) ((FX0_decode bw bd bn (FX0_rowLength bw) bf).2.2) (FX0_rowLength bw) 0).2.2))) else (nI ((FX0_decode bw bd bn (FX0_rowLength bw) bf).2.2), (FX0_decode bw bd bn (FX0_rowLength bw) bf).2.1, (FX0_decode bw bd bn (FX0_rowLength bw) bf).2.2)
set_option maxHeartbeats 4000000 in
set_option maxRecDepth 100000 in
theorem kX0_scan (l : Launch) (D : va_G) (cI cJ cZ : ClassId) (qb : Nat) (b1 : Nat) (b2 : Nat) (bw : Nat → Int32) (bd : Nat → Int32) (bn : Nat) (bf : Int32) (sz : Nat) : Met l yX0_scan wsX0_scan ({ frames := 5, cells := 0, slots := 0, locals := 120 }) (mPz D (tz cI cJ cZ) [.ref qb, .int bf] sz [(qb, .inr (1, [.ref b1, .ref b2, .int (nI bn)])), (b1, .inl (cI, 64, .inl bw)), (b2, .inl (cI, 14, .inl bd))]) (mQ D (some (.int ((FX0_scan bw bd bn bf).1))) [(qb, .inr (1, [.ref b1, .ref b2, .int (nI ((FX0_scan bw bd bn bf).2.2))])), (b1, .inl (cI, 64, .inl bw)), (b2, .inl (cI, 14, .inl ((FX0_scan bw bd bn bf).2.1)))] (va_A [(qb, .inr (1, [.ref b1, .ref b2, .int (nI bn)])), (b1, .inl (cI, 64, .inl bw)), (b2, .inl (cI, 14, .inl bd))] sz)) 0 0 (va_A [(qb, .inr (1, [.ref b1, .ref b2, .int (nI bn)])), (b1, .inl (cI, 64, .inl bw)), (b2, .inl (cI, 14, .inl bd))] sz) := by
  refine Met.ofW (cc := cX0_scan) (maxL := 3) (ret := (some .int)) (by decide) rfl ?_
  intro p e s m args below meth c s₁ B hml hv
  obtain ⟨⟨rfl, hsz, hP, hK, hD0, hN⟩, hZA⟩ := hv
  have hx := B.exec
  have hb := B.bytes
  have hr := B.returns
  have hts := atoms_spec (ws := wsX0_scan) B.pre
  have hown : s.vm.findClass RX0 = some m.cls := findClass_of_methodNamed B.named
  have hlocks := B.notSynchronized
  have iw_1 : ∀ w ∈ u_ws RX0 TX0 3, w ∈ wsX0_scan := by decide +kernel
  rw [← hsz] at hZA
  subst hsz
  have hD := hD0.self (sz := s.heap.size)
  generalize hE : FX0_scan bw bd bn bf = R0
  generalize hAe : va_A [(qb, .inr (1, [.ref b1, .ref b2, .int (nI bn)])), (b1, .inl (cI, 64, .inl bw)), (b2, .inl (cI, 14, .inl bd))] s.heap.size = A at hD hZA ⊢
  have hA : ∀ q : Nat, s.heap.size ≤ q → A q := fun q h => by rw [← hAe]; exact Or.inr h
  have hS : va_S A s.heap s.heap [] := va_S.rf
  rw [FX0_scan] at hE
  have hl := lv_entry ([.ref qb, .int bf]) (n := 3) (Nat.le_of_ble_eq_true rfl)
  rw [lg_entry_eq]
  generalize (lg_sl ([.ref qb, .int bf]) ++ List.replicate (3 - (lg_sl ([.ref qb, .int bf])).length) Slot.unset).toArray = ls at hl ⊢
  have hl : lv_has ls 3 [(0, .ref qb), (1, .int bf)] := hl
  refine lv_aload_n hx hb dX0_scan_0 rfl (lv_at hl 0 rfl) ?_
  refine rd_call (va_runV (As := []) (rest := []) ⟨hx, hb, hml, hown, hts⟩ (kX0_rowLength l D cI cJ cZ qb b1 b2 bw bd bn) (cwV 0 hts gX0_scan_X0_rowLength rfl rfl rfl (by decide +kernel) ⟨Nat.le_of_ble_eq_true rfl, Nat.le_of_ble_eq_true rfl⟩) ⟨rP_blind, va_recv hK hP (ci := 1) (q0 := 0) rfl rfl, rP_pre (hP.sub [0, 1, 2] rfl) hK hN⟩ rfl rfl hl.1 rfl (lv_room (Nat.le_of_ble_eq_true rfl)) dX0_scan_1 ⟨Nat.zero_le _, Nat.zero_le _⟩) ?_
  refine lv_istore_n (lv' := [(2, .int (nI (FX0_rowLength bw))), (0, .ref qb), (1, .int bf)]) hx hb dX0_scan_4 rfl hl (by decide) rfl (fun ls hl => ?_)
  refine lv_aload_n hx hb dX0_scan_5 rfl (lv_at hl 1 rfl) ?_
  refine lv_iload_n hx hb dX0_scan_6 rfl (lv_at hl 0 rfl) ?_
  refine lv_iload_n hx hb dX0_scan_7 rfl (lv_at hl 2 rfl) ?_
  refine mt_call0 (wr := []) (ws' := [(qb, .inr (1, [.ref b1, .ref b2, .int (nI ((FX0_decode bw bd bn (FX0_rowLength bw) bf).2.2))])), (b1, .inl (cI, 64, .inl bw)), (b2, .inl (cI, 14, .inl ((FX0_decode bw bd bn (FX0_rowLength bw) bf).2.1)))]) (st1 := [.int ((FX0_decode bw bd bn (FX0_rowLength bw) bf).1)]) (va_runV (As := [.int (nI (FX0_rowLength bw)), .int bf]) (rest := []) ⟨hx, hb, hml, hown, hts⟩ (kX0_decode l D cI cJ cZ qb b1 b2 bw bd bn (FX0_rowLength bw) bf _ (FX0_rowLength_le bw)) (cwV 2 hts gX0_scan_X0_decode rfl rfl rfl (by decide +kernel) ⟨Nat.le_of_ble_eq_true rfl, Nat.le_of_ble_eq_true rfl⟩) ⟨mPz_blind, va_recv hK hP (ci := 1) (q0 := 0) rfl rfl, mPz_pre (hP.sub [0, 1, 2] rfl) (hD.sub [0, 1, 2] (by decide) rfl) hK hN (hZA.sub hS (va_free hD hS hA [0, 1, 2] rfl))⟩ rfl rfl hl.1 rfl (lv_room (Nat.le_of_ble_eq_true rfl)) dX0_scan_8 ⟨Nat.zero_le _, Nat.zero_le _⟩) hP hD hS hA [0, 1, 2] [] [0, 1, 2] rfl rfl (by decide) (by decide) (by decide) rfl rfl (fun H locs hP hD hS => ?_)
  refine lv_if_ne (tgt := 31) hx hb dX0_scan_11 (by decide) (fun c_1 => ?_) (fun c_1 => ?_)
  · rw [if_neg c_1] at hE
    refine lv_aload_n hx hb dX0_scan_31 rfl (lv_at hl 1 rfl) ?_
    refine va_get (D := D) (ci := 1) (v := .int (nI ((FX0_decode bw bd bn (FX0_rowLength bw) bf).2.2))) (C := RX0) (T := TX0) (N := 3) hx hb hts iw_1 hown hK hP 0 rfl rfl 2 (by decide) (hts (.fieldLink RX0 18 "DepositCodes$Bars" "digitCount" "I") (by decide +kernel)) (fun _ h9 => h9) rfl dX0_scan_32 ?_
    subst hE
    exact W.iret hx hb hr (fun t ht hW => ⟨rfl, by rw [ht]; exact hP, hD, hS.F ht⟩) hS.2.2 dX0_scan_35
  · rw [if_pos c_1] at hE
    refine lv_aload_n hx hb dX0_scan_14 rfl (lv_at hl 1 rfl) ?_
    refine lv_iload_n hx hb dX0_scan_15 rfl (lv_at hl 0 rfl) ?_
    refine lv_iload_n hx hb dX0_scan_16 rfl (lv_at hl 2 rfl) ?_
    refine lv_if_ne (tgt := 24) hx hb dX0_scan_17 (by decide) (fun c_2 => ?_) (fun c_2 => ?_)
    · rw [if_neg c_2] at hE
      refine lv_iconst (v := 0) hx hb dX0_scan_24 (by decide) ?_
      refine mt_call0 (wr := []) (ws' := [(qb, .inr (1, [.ref b1, .ref b2, .int (nI ((FX0_decode bw ((FX0_decode bw bd bn (FX0_rowLength bw) bf).2.1) ((FX0_decode bw bd bn (FX0_rowLength bw) bf).2.2) (FX0_rowLength bw) 0).2.2))])), (b1, .inl (cI, 64, .inl bw)), (b2, .inl (cI, 14, .inl ((FX0_decode bw ((FX0_decode bw bd bn (FX0_rowLength bw) bf).2.1) ((FX0_decode bw bd bn (FX0_rowLength bw) bf).2.2) (FX0_rowLength bw) 0).2.1)))]) (st1 := [.int ((FX0_decode bw ((FX0_decode bw bd bn (FX0_rowLength bw) bf).2.1) ((FX0_decode bw bd bn (FX0_rowLength bw) bf).2.2) (FX0_rowLength bw) 0).1)]) (va_runV (As := [.int (nI (FX0_rowLength bw)), .int 0]) (rest := []) ⟨hx, hb, hml, hown, hts⟩ (kX0_decode l D cI cJ cZ qb b1 b2 bw ((FX0_decode bw bd bn (FX0_rowLength bw) bf).2.1) ((FX0_decode bw bd bn (FX0_rowLength bw) bf).2.2) (FX0_rowLength bw) 0 _ (FX0_rowLength_le bw)) (cwV 2 hts gX0_scan_X0_decode rfl rfl rfl (by decide +kernel) ⟨Nat.le_of_ble_eq_true rfl, Nat.le_of_ble_eq_true rfl⟩) ⟨mPz_blind, va_recv hK hP (ci := 1) (q0 := 0) rfl rfl, mPz_pre (hP.sub [0, 1, 2] rfl) (hD.sub [0, 1, 2] (by decide) rfl) hK hN (hZA.sub hS (va_free hD hS hA [0, 1, 2] rfl))⟩ rfl rfl hl.1 rfl (lv_room (Nat.le_of_ble_eq_true rfl)) dX0_scan_25 ⟨Nat.zero_le _, Nat.zero_le _⟩) hP hD hS hA [0, 1, 2] [] [0, 1, 2] rfl rfl (by decide) (by decide) (by decide) rfl rfl (fun H locs hP hD hS => ?_)
      refine lv_if_eq (tgt := 36) hx hb dX0_scan_28 (by decide) (fun c_3 => ?_) (fun c_3 => ?_)
      · rw [if_pos c_3] at hE
        refine lv_aload_n hx hb dX0_scan_36 rfl (lv_at hl 1 rfl) ?_
        refine lv_iconst (v := 0) hx hb dX0_scan_37 (by decide) ?_
        refine va_put (D := D) (ci := 1) (v := .int 0) (ty := .int) (C := RX0) (T := TX0) (N := 3) hx hb hts iw_1 tyX0 tyX0_ok nmX0 hown hK hP hD hS 0 rfl rfl 2 (by decide) (hts (.fieldLink RX0 18 "DepositCodes$Bars" "digitCount" "I") (by decide +kernel)) (fun _ h9 => h9) rfl (by decide +kernel) rfl rfl (Nat.le_of_ble_eq_true rfl) dX0_scan_38 (fun H locs hP hD hS => ?_)
        have hP : va_P D vwCl [(qb, .inr (1, [.ref b1, .ref b2, .int 0])), (b1, .inl (cI, 64, .inl bw)), (b2, .inl (cI, 14, .inl ((FX0_decode bw ((FX0_decode bw bd bn (FX0_rowLength bw) bf).2.1) ((FX0_decode bw bd bn (FX0_rowLength bw) bf).2.2) (FX0_rowLength bw) 0).2.1)))] H := hP
        have hD : va_D A [(qb, .inr (1, [.ref b1, .ref b2, .int 0])), (b1, .inl (cI, 64, .inl bw)), (b2, .inl (cI, 14, .inl ((FX0_decode bw ((FX0_decode bw bd bn (FX0_rowLength bw) bf).2.1) ((FX0_decode bw bd bn (FX0_rowLength bw) bf).2.2) (FX0_rowLength bw) 0).2.1)))] := hD
        refine lv_iconst (v := (-1)) hx hb dX0_scan_41 (by decide) ?_
        subst hE
        exact W.iret hx hb hr (fun t ht hW => ⟨rfl, by rw [ht]; exact hP, hD, hS.F ht⟩) hS.2.2 dX0_scan_42
      · rw [if_neg c_3] at hE
        refine lv_aload_n hx hb dX0_scan_31 rfl (lv_at hl 1 rfl) ?_
        refine va_get (D := D) (ci := 1) (v := .int (nI ((FX0_decode bw ((FX0_decode bw bd bn (FX0_rowLength bw) bf).2.1) ((FX0_decode bw bd bn (FX0_rowLength bw) bf).2.2) (FX0_rowLength bw) 0).2.2))) (C := RX0) (T := TX0) (N := 3) hx hb hts iw_1 hown hK hP 0 rfl rfl 2 (by decide) (hts (.fieldLink RX0 18 "DepositCodes$Bars" "digitCount" "I") (by decide +kernel)) (fun _ h9 => h9) rfl dX0_scan_32 ?_
        subst hE
        exact W.iret hx hb hr (fun t ht hW => ⟨rfl, by rw [ht]; exact hP, hD, hS.F ht⟩) hS.2.2 dX0_scan_35
    · rw [if_pos c_2] at hE
      refine lv_iconst (v := 1) hx hb dX0_scan_20 (by decide) ?_
      refine lv_goto (tgt := 25) hx hb dX0_scan_21 (by decide) ?_
      refine mt_call0 (wr := []) (ws' := [(qb, .inr (1, [.ref b1, .ref b2, .int (nI ((FX0_decode bw ((FX0_decode bw bd bn (FX0_rowLength bw) bf).2.1) ((FX0_decode bw bd bn (FX0_rowLength bw) bf).2.2) (FX0_rowLength bw) 1).2.2))])), (b1, .inl (cI, 64, .inl bw)), (b2, .inl (cI, 14, .inl ((FX0_decode bw ((FX0_decode bw bd bn (FX0_rowLength bw) bf).2.1) ((FX0_decode bw bd bn (FX0_rowLength bw) bf).2.2) (FX0_rowLength bw) 1).2.1)))]) (st1 := [.int ((FX0_decode bw ((FX0_decode bw bd bn (FX0_rowLength bw) bf).2.1) ((FX0_decode bw bd bn (FX0_rowLength bw) bf).2.2) (FX0_rowLength bw) 1).1)]) (va_runV (As := [.int (nI (FX0_rowLength bw)), .int 1]) (rest := []) ⟨hx, hb, hml, hown, hts⟩ (kX0_decode l D cI cJ cZ qb b1 b2 bw ((FX0_decode bw bd bn (FX0_rowLength bw) bf).2.1) ((FX0_decode bw bd bn (FX0_rowLength bw) bf).2.2) (FX0_rowLength bw) 1 _ (FX0_rowLength_le bw)) (cwV 2 hts gX0_scan_X0_decode rfl rfl rfl (by decide +kernel) ⟨Nat.le_of_ble_eq_true rfl, Nat.le_of_ble_eq_true rfl⟩) ⟨mPz_blind, va_recv hK hP (ci := 1) (q0 := 0) rfl rfl, mPz_pre (hP.sub [0, 1, 2] rfl) (hD.sub [0, 1, 2] (by decide) rfl) hK hN (hZA.sub hS (va_free hD hS hA [0, 1, 2] rfl))⟩ rfl rfl hl.1 rfl (lv_room (Nat.le_of_ble_eq_true rfl)) dX0_scan_25 ⟨Nat.zero_le _, Nat.zero_le _⟩) hP hD hS hA [0, 1, 2] [] [0, 1, 2] rfl rfl (by decide) (by decide) (by decide) rfl rfl (fun H locs hP hD hS => ?_)
      refine lv_if_eq (tgt := 36) hx hb dX0_scan_28 (by decide) (fun c_4 => ?_) (fun c_4 => ?_)
      · rw [if_pos c_4] at hE
        refine lv_aload_n hx hb dX0_scan_36 rfl (lv_at hl 1 rfl) ?_
        refine lv_iconst (v := 0) hx hb dX0_scan_37 (by decide) ?_
        refine va_put (D := D) (ci := 1) (v := .int 0) (ty := .int) (C := RX0) (T := TX0) (N := 3) hx hb hts iw_1 tyX0 tyX0_ok nmX0 hown hK hP hD hS 0 rfl rfl 2 (by decide) (hts (.fieldLink RX0 18 "DepositCodes$Bars" "digitCount" "I") (by decide +kernel)) (fun _ h9 => h9) rfl (by decide +kernel) rfl rfl (Nat.le_of_ble_eq_true rfl) dX0_scan_38 (fun H locs hP hD hS => ?_)
        have hP : va_P D vwCl [(qb, .inr (1, [.ref b1, .ref b2, .int 0])), (b1, .inl (cI, 64, .inl bw)), (b2, .inl (cI, 14, .inl ((FX0_decode bw ((FX0_decode bw bd bn (FX0_rowLength bw) bf).2.1) ((FX0_decode bw bd bn (FX0_rowLength bw) bf).2.2) (FX0_rowLength bw) 1).2.1)))] H := hP
        have hD : va_D A [(qb, .inr (1, [.ref b1, .ref b2, .int 0])), (b1, .inl (cI, 64, .inl bw)), (b2, .inl (cI, 14, .inl ((FX0_decode bw ((FX0_decode bw bd bn (FX0_rowLength bw) bf).2.1) ((FX0_decode bw bd bn (FX0_rowLength bw) bf).2.2) (FX0_rowLength bw) 1).2.1)))] := hD
        refine lv_iconst (v := (-1)) hx hb dX0_scan_41 (by decide) ?_
        subst hE
        exact W.iret hx hb hr (fun t ht hW => ⟨rfl, by rw [ht]; exact hP, hD, hS.F ht⟩) hS.2.2 dX0_scan_42
      · rw [if_neg c_4] at hE
        refine lv_aload_n hx hb dX0_scan_31 rfl (lv_at hl 1 rfl) ?_
        refine va_get (D := D) (ci := 1) (v := .int (nI ((FX0_decode bw ((FX0_decode bw bd bn (FX0_rowLength bw) bf).2.1) ((FX0_decode bw bd bn (FX0_rowLength bw) bf).2.2) (FX0_rowLength bw) 1).2.2))) (C := RX0) (T := TX0) (N := 3) hx hb hts iw_1 hown hK hP 0 rfl rfl 2 (by decide) (hts (.fieldLink RX0 18 "DepositCodes$Bars" "digitCount" "I") (by decide +kernel)) (fun _ h9 => h9) rfl dX0_scan_32 ?_
        subst hE
        exact W.iret hx hb hr (fun t ht hW => ⟨rfl, by rw [ht]; exact hP, hD, hS.F ht⟩) hS.2.2 dX0_scan_35
