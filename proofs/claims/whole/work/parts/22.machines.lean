def FX4_exists (mn : Nat) (k : Int32) : Int32 := FX8_isIndex k (nI mn)
theorem FX4_exists_b (mn : Nat) (k : Int32) : isB (FX4_exists mn k) := by
  unfold FX4_exists
  repeat' split
  all_goals first | exact isB_0 | exact isB_1 | exact FX8_isIndex_b _ _
set_option maxHeartbeats 4000000 in
set_option maxRecDepth 100000 in
theorem kX4_exists (l : Launch) (D : va_G) (cI cJ cZ : ClassId) (qm : Nat) (m1 : Nat) (m2 : Nat) (m3 : Nat) (m4 : Nat) (mf : Nat → Int32) (mp : Nat → Int32) (ms : Nat → Int32) (mu : Nat → Int32) (mn : Nat) (k : Int32) : Met l yX4_exists wsX4_exists ({ frames := 1, cells := 0, slots := 0, locals := 21 }) (rP D (tz cI cJ cZ) [.ref qm, .int k] [(qm, .inr (5, [.ref m1, .ref m2, .ref m3, .ref m4, .int (nI mn)])), (m1, .inl (cZ, 6, .inl mf)), (m2, .inl (cZ, 6, .inl mp)), (m3, .inl (cI, 6, .inl ms)), (m4, .inl (cI, 6, .inl mu))]) (k2_QcV (.int (FX4_exists mn k))) 0 0 (fun _ => False) := by
  refine Met.ofW (cc := cX4_exists) (maxL := 2) (ret := (some .boolean)) (by decide) rfl ?_
  intro p e s m args below meth c s₁ B hml hv
  obtain ⟨rfl, hP, hK, hN⟩ := hv
  have hx := B.exec
  have hb := B.bytes
  have hr := B.returns
  have hts := atoms_spec (ws := wsX4_exists) B.pre
  have hown : s.vm.findClass RX4 = some m.cls := findClass_of_methodNamed B.named
  have hlocks := B.notSynchronized
  have iw_5 : ∀ w ∈ u_ws RX4 TX4 5, w ∈ wsX4_exists := by decide +kernel
  generalize hE : FX4_exists mn k = R0
  rw [FX4_exists] at hE
  have hl := lv_entry ([.ref qm, .int k]) (n := 2) (Nat.le_of_ble_eq_true rfl)
  rw [lg_entry_eq]
  generalize (lg_sl ([.ref qm, .int k]) ++ List.replicate (2 - (lg_sl ([.ref qm, .int k])).length) Slot.unset).toArray = ls at hl ⊢
  have hl : lv_has ls 2 [(0, .ref qm), (1, .int k)] := hl
  refine lv_iload_n hx hb dX4_exists_0 rfl (lv_at hl 1 rfl) ?_
  refine lv_aload_n hx hb dX4_exists_1 rfl (lv_at hl 0 rfl) ?_
  refine va_get (D := D) (ci := 5) (v := .int (nI mn)) (C := RX4) (T := TX4) (N := 5) hx hb hts iw_5 hown hK hP 0 rfl rfl 4 (by decide) (hts (.fieldLink RX4 25 "DepositCodes$Machines" "size" "I") (by decide +kernel)) (fun _ h9 => h9) rfl dX4_exists_2 ?_
  refine rd_call (va_runSN (As := [.int k, .int (nI mn)]) (rest := []) ⟨hx, hb, hml, hown, hts⟩ (kX8_isIndex l D cI cJ cZ k (nI mn)) ⟨va_cnB 2 hts gX4_exists_X8_isIndex_n29 rfl rfl rfl hN.2.2.2.2.1 (hts (.initialized RX8) (by decide +kernel)) (by decide +kernel) ⟨Nat.le_of_ble_eq_true rfl, Nat.le_of_ble_eq_true rfl⟩, hts (.static yX8_isIndex) (by decide +kernel), trivial⟩ ⟨rP_blind, rP_pre (va_P_nil) hK hN⟩ rfl rfl hl.1 rfl (lv_room (Nat.le_of_ble_eq_true rfl)) dX4_exists_5 ⟨Nat.zero_le _, Nat.zero_le _⟩) ?_
  exact W.zret hx hb hr (isB_nar (FX8_isIndex_b _ _)) (fun t ht hW => ⟨by rw [← hE], ht⟩) (fun q h => absurd h List.not_mem_nil) dX4_exists_8
def FX4_isFull (mf : Nat → Int32) (mn : Nat) (k : Int32) : Int32 := if (FX4_exists mn k) = 0 then 0 else (if (mf k.toNatClampNeg) = 0 then 0 else 1)
theorem FX4_isFull_b (mf : Nat → Int32) (mn : Nat) (k : Int32) : isB (FX4_isFull mf mn k) := by
  unfold FX4_isFull
  repeat' split
  all_goals first | exact isB_0 | exact isB_1
set_option maxHeartbeats 4000000 in
set_option maxRecDepth 100000 in
theorem kX4_isFull (l : Launch) (D : va_G) (cI cJ cZ : ClassId) (qm : Nat) (m1 : Nat) (m2 : Nat) (m3 : Nat) (m4 : Nat) (mf : Nat → Int32) (mp : Nat → Int32) (ms : Nat → Int32) (mu : Nat → Int32) (mn : Nat) (k : Int32) (hmn : mn ≤ 6) : Met l yX4_isFull wsX4_isFull ({ frames := 2, cells := 0, slots := 0, locals := 42 }) (rP D (tz cI cJ cZ) [.ref qm, .int k] [(qm, .inr (5, [.ref m1, .ref m2, .ref m3, .ref m4, .int (nI mn)])), (m1, .inl (cZ, 6, .inl mf)), (m2, .inl (cZ, 6, .inl mp)), (m3, .inl (cI, 6, .inl ms)), (m4, .inl (cI, 6, .inl mu))]) (k2_QcV (.int (FX4_isFull mf mn k))) 0 0 (fun _ => False) := by
  refine Met.ofW (cc := cX4_isFull) (maxL := 2) (ret := (some .boolean)) (by decide) rfl ?_
  intro p e s m args below meth c s₁ B hml hv
  obtain ⟨rfl, hP, hK, hN⟩ := hv
  have hx := B.exec
  have hb := B.bytes
  have hr := B.returns
  have hts := atoms_spec (ws := wsX4_isFull) B.pre
  have hown : s.vm.findClass RX4 = some m.cls := findClass_of_methodNamed B.named
  have hlocks := B.notSynchronized
  have iw_5 : ∀ w ∈ u_ws RX4 TX4 5, w ∈ wsX4_isFull := by decide +kernel
  generalize hE : FX4_isFull mf mn k = R0
  rw [FX4_isFull] at hE
  have hl := lv_entry ([.ref qm, .int k]) (n := 2) (Nat.le_of_ble_eq_true rfl)
  rw [lg_entry_eq]
  generalize (lg_sl ([.ref qm, .int k]) ++ List.replicate (2 - (lg_sl ([.ref qm, .int k])).length) Slot.unset).toArray = ls at hl ⊢
  have hl : lv_has ls 2 [(0, .ref qm), (1, .int k)] := hl
  refine lv_aload_n hx hb dX4_isFull_0 rfl (lv_at hl 0 rfl) ?_
  refine lv_iload_n hx hb dX4_isFull_1 rfl (lv_at hl 1 rfl) ?_
  refine rd_call (va_runV (As := [.int k]) (rest := []) ⟨hx, hb, hml, hown, hts⟩ (kX4_exists l D cI cJ cZ qm m1 m2 m3 m4 mf mp ms mu mn k) (cwV 1 hts gX4_isFull_X4_exists rfl rfl rfl (by decide +kernel) ⟨Nat.le_of_ble_eq_true rfl, Nat.le_of_ble_eq_true rfl⟩) ⟨rP_blind, va_recv hK hP (ci := 5) (q0 := 0) rfl rfl, rP_pre (hP.sub [0, 1, 2, 3, 4] rfl) hK hN⟩ rfl rfl hl.1 rfl (lv_room (Nat.le_of_ble_eq_true rfl)) dX4_isFull_2 ⟨Nat.zero_le _, Nat.zero_le _⟩) ?_
  refine lv_if_eq (tgt := 21) hx hb dX4_isFull_5 (by decide) (fun c_1 => ?_) (fun c_1 => ?_)
  · rw [if_pos c_1] at hE
    refine lv_iconst (v := 0) hx hb dX4_isFull_21 (by decide) ?_
    exact W.zret hx hb hr narrow_b0 (fun t ht hW => ⟨by rw [← hE], ht⟩) (fun q h => absurd h List.not_mem_nil) dX4_isFull_22
  · rw [if_neg c_1] at hE
    have hin : vp_in k 6 := isIx_in (k := k) (n := mn) (by assumption) hmn (by decide)
    refine lv_aload_n hx hb dX4_isFull_8 rfl (lv_at hl 0 rfl) ?_
    refine va_get (D := D) (ci := 5) (v := .ref m1) (C := RX4) (T := TX4) (N := 5) hx hb hts iw_5 hown hK hP 0 rfl rfl 0 (by decide) (hts (.fieldLink RX4 11 "DepositCodes$Machines" "fullOnes" "[Z") (by decide +kernel)) (fun _ h9 => h9) rfl dX4_isFull_9 ?_
    refine lv_iload_n hx hb dX4_isFull_12 rfl (lv_at hl 1 rfl) ?_
    refine va_zald hx hb hK hP 1 2 rfl rfl (by assumption) dX4_isFull_13 ?_
    refine lv_if_eq (tgt := 21) hx hb dX4_isFull_14 (by decide) (fun c_2 => ?_) (fun c_2 => ?_)
    · rw [if_pos c_2] at hE
      refine lv_iconst (v := 0) hx hb dX4_isFull_21 (by decide) ?_
      exact W.zret hx hb hr narrow_b0 (fun t ht hW => ⟨by rw [← hE], ht⟩) (fun q h => absurd h List.not_mem_nil) dX4_isFull_22
    · rw [if_neg c_2] at hE
      refine lv_iconst (v := 1) hx hb dX4_isFull_17 (by decide) ?_
      refine lv_goto (tgt := 22) hx hb dX4_isFull_18 (by decide) ?_
      exact W.zret hx hb hr narrow_b1 (fun t ht hW => ⟨by rw [← hE], ht⟩) (fun q h => absurd h List.not_mem_nil) dX4_isFull_22
def FX4_hasPower (mp : Nat → Int32) (mn : Nat) (k : Int32) : Int32 := if (FX4_exists mn k) = 0 then 0 else (if (mp k.toNatClampNeg) = 0 then 0 else 1)
theorem FX4_hasPower_b (mp : Nat → Int32) (mn : Nat) (k : Int32) : isB (FX4_hasPower mp mn k) := by
  unfold FX4_hasPower
  repeat' split
  all_goals first | exact isB_0 | exact isB_1
set_option maxHeartbeats 4000000 in
set_option maxRecDepth 100000 in
theorem kX4_hasPower (l : Launch) (D : va_G) (cI cJ cZ : ClassId) (qm : Nat) (m1 : Nat) (m2 : Nat) (m3 : Nat) (m4 : Nat) (mf : Nat → Int32) (mp : Nat → Int32) (ms : Nat → Int32) (mu : Nat → Int32) (mn : Nat) (k : Int32) (hmn : mn ≤ 6) : Met l yX4_hasPower wsX4_hasPower ({ frames := 2, cells := 0, slots := 0, locals := 42 }) (rP D (tz cI cJ cZ) [.ref qm, .int k] [(qm, .inr (5, [.ref m1, .ref m2, .ref m3, .ref m4, .int (nI mn)])), (m1, .inl (cZ, 6, .inl mf)), (m2, .inl (cZ, 6, .inl mp)), (m3, .inl (cI, 6, .inl ms)), (m4, .inl (cI, 6, .inl mu))]) (k2_QcV (.int (FX4_hasPower mp mn k))) 0 0 (fun _ => False) := by
  refine Met.ofW (cc := cX4_hasPower) (maxL := 2) (ret := (some .boolean)) (by decide) rfl ?_
  intro p e s m args below meth c s₁ B hml hv
  obtain ⟨rfl, hP, hK, hN⟩ := hv
  have hx := B.exec
  have hb := B.bytes
  have hr := B.returns
  have hts := atoms_spec (ws := wsX4_hasPower) B.pre
  have hown : s.vm.findClass RX4 = some m.cls := findClass_of_methodNamed B.named
  have hlocks := B.notSynchronized
  have iw_5 : ∀ w ∈ u_ws RX4 TX4 5, w ∈ wsX4_hasPower := by decide +kernel
  generalize hE : FX4_hasPower mp mn k = R0
  rw [FX4_hasPower] at hE
  have hl := lv_entry ([.ref qm, .int k]) (n := 2) (Nat.le_of_ble_eq_true rfl)
  rw [lg_entry_eq]
  generalize (lg_sl ([.ref qm, .int k]) ++ List.replicate (2 - (lg_sl ([.ref qm, .int k])).length) Slot.unset).toArray = ls at hl ⊢
  have hl : lv_has ls 2 [(0, .ref qm), (1, .int k)] := hl
  refine lv_aload_n hx hb dX4_hasPower_0 rfl (lv_at hl 0 rfl) ?_
  refine lv_iload_n hx hb dX4_hasPower_1 rfl (lv_at hl 1 rfl) ?_
  refine rd_call (va_runV (As := [.int k]) (rest := []) ⟨hx, hb, hml, hown, hts⟩ (kX4_exists l D cI cJ cZ qm m1 m2 m3 m4 mf mp ms mu mn k) (cwV 1 hts gX4_hasPower_X4_exists rfl rfl rfl (by decide +kernel) ⟨Nat.le_of_ble_eq_true rfl, Nat.le_of_ble_eq_true rfl⟩) ⟨rP_blind, va_recv hK hP (ci := 5) (q0 := 0) rfl rfl, rP_pre (hP.sub [0, 1, 2, 3, 4] rfl) hK hN⟩ rfl rfl hl.1 rfl (lv_room (Nat.le_of_ble_eq_true rfl)) dX4_hasPower_2 ⟨Nat.zero_le _, Nat.zero_le _⟩) ?_
  refine lv_if_eq (tgt := 21) hx hb dX4_hasPower_5 (by decide) (fun c_1 => ?_) (fun c_1 => ?_)
  · rw [if_pos c_1] at hE
    refine lv_iconst (v := 0) hx hb dX4_hasPower_21 (by decide) ?_
    exact W.zret hx hb hr narrow_b0 (fun t ht hW => ⟨by rw [← hE], ht⟩) (fun q h => absurd h List.not_mem_nil) dX4_hasPower_22
  · rw [if_neg c_1] at hE
    have hin : vp_in k 6 := isIx_in (k := k) (n := mn) (by assumption) hmn (by decide)
    refine lv_aload_n hx hb dX4_hasPower_8 rfl (lv_at hl 0 rfl) ?_
    refine va_get (D := D) (ci := 5) (v := .ref m2) (C := RX4) (T := TX4) (N := 5) hx hb hts iw_5 hown hK hP 0 rfl rfl 1 (by decide) (hts (.fieldLink RX4 15 "DepositCodes$Machines" "poweredOnes" "[Z") (by decide +kernel)) (fun _ h9 => h9) rfl dX4_hasPower_9 ?_
    refine lv_iload_n hx hb dX4_hasPower_12 rfl (lv_at hl 1 rfl) ?_
    refine va_zald hx hb hK hP 2 2 rfl rfl (by assumption) dX4_hasPower_13 ?_
    refine lv_if_eq (tgt := 21) hx hb dX4_hasPower_14 (by decide) (fun c_2 => ?_) (fun c_2 => ?_)
    · rw [if_pos c_2] at hE
      refine lv_iconst (v := 0) hx hb dX4_hasPower_21 (by decide) ?_
      exact W.zret hx hb hr narrow_b0 (fun t ht hW => ⟨by rw [← hE], ht⟩) (fun q h => absurd h List.not_mem_nil) dX4_hasPower_22
    · rw [if_neg c_2] at hE
      refine lv_iconst (v := 1) hx hb dX4_hasPower_17 (by decide) ?_
      refine lv_goto (tgt := 22) hx hb dX4_hasPower_18 (by decide) ?_
      exact W.zret hx hb hr narrow_b1 (fun t ht hW => ⟨by rw [← hE], ht⟩) (fun q h => absurd h List.not_mem_nil) dX4_hasPower_22
def FX4_setOf (ms : Nat → Int32) (mn : Nat) (k : Int32) : Int32 := if (FX4_exists mn k) = 0 then (-1) else ms k.toNatClampNeg
set_option maxHeartbeats 4000000 in
set_option maxRecDepth 100000 in
theorem kX4_setOf (l : Launch) (D : va_G) (cI cJ cZ : ClassId) (qm : Nat) (m1 : Nat) (m2 : Nat) (m3 : Nat) (m4 : Nat) (mf : Nat → Int32) (mp : Nat → Int32) (ms : Nat → Int32) (mu : Nat → Int32) (mn : Nat) (k : Int32) (hmn : mn ≤ 6) : Met l yX4_setOf wsX4_setOf ({ frames := 2, cells := 0, slots := 0, locals := 42 }) (rP D (tz cI cJ cZ) [.ref qm, .int k] [(qm, .inr (5, [.ref m1, .ref m2, .ref m3, .ref m4, .int (nI mn)])), (m1, .inl (cZ, 6, .inl mf)), (m2, .inl (cZ, 6, .inl mp)), (m3, .inl (cI, 6, .inl ms)), (m4, .inl (cI, 6, .inl mu))]) (k2_QcV (.int (FX4_setOf ms mn k))) 0 0 (fun _ => False) := by
  refine Met.ofW (cc := cX4_setOf) (maxL := 2) (ret := (some .int)) (by decide) rfl ?_
  intro p e s m args below meth c s₁ B hml hv
  obtain ⟨rfl, hP, hK, hN⟩ := hv
  have hx := B.exec
  have hb := B.bytes
  have hr := B.returns
  have hts := atoms_spec (ws := wsX4_setOf) B.pre
  have hown : s.vm.findClass RX4 = some m.cls := findClass_of_methodNamed B.named
  have hlocks := B.notSynchronized
  have iw_5 : ∀ w ∈ u_ws RX4 TX4 5, w ∈ wsX4_setOf := by decide +kernel
  generalize hE : FX4_setOf ms mn k = R0
  rw [FX4_setOf] at hE
  have hl := lv_entry ([.ref qm, .int k]) (n := 2) (Nat.le_of_ble_eq_true rfl)
  rw [lg_entry_eq]
  generalize (lg_sl ([.ref qm, .int k]) ++ List.replicate (2 - (lg_sl ([.ref qm, .int k])).length) Slot.unset).toArray = ls at hl ⊢
  have hl : lv_has ls 2 [(0, .ref qm), (1, .int k)] := hl
  refine lv_aload_n hx hb dX4_setOf_0 rfl (lv_at hl 0 rfl) ?_
  refine lv_iload_n hx hb dX4_setOf_1 rfl (lv_at hl 1 rfl) ?_
  refine rd_call (va_runV (As := [.int k]) (rest := []) ⟨hx, hb, hml, hown, hts⟩ (kX4_exists l D cI cJ cZ qm m1 m2 m3 m4 mf mp ms mu mn k) (cwV 1 hts gX4_setOf_X4_exists rfl rfl rfl (by decide +kernel) ⟨Nat.le_of_ble_eq_true rfl, Nat.le_of_ble_eq_true rfl⟩) ⟨rP_blind, va_recv hK hP (ci := 5) (q0 := 0) rfl rfl, rP_pre (hP.sub [0, 1, 2, 3, 4] rfl) hK hN⟩ rfl rfl hl.1 rfl (lv_room (Nat.le_of_ble_eq_true rfl)) dX4_setOf_2 ⟨Nat.zero_le _, Nat.zero_le _⟩) ?_
  refine lv_if_eq (tgt := 17) hx hb dX4_setOf_5 (by decide) (fun c_1 => ?_) (fun c_1 => ?_)
  · rw [if_pos c_1] at hE
    refine lv_iconst (v := (-1)) hx hb dX4_setOf_17 (by decide) ?_
    exact W.iret hx hb hr (fun t ht hW => ⟨by rw [← hE], ht⟩) (fun q h => absurd h List.not_mem_nil) dX4_setOf_18
  · rw [if_neg c_1] at hE
    have hin : vp_in k 6 := isIx_in (k := k) (n := mn) (by assumption) hmn (by decide)
    refine lv_aload_n hx hb dX4_setOf_8 rfl (lv_at hl 0 rfl) ?_
    refine va_get (D := D) (ci := 5) (v := .ref m3) (C := RX4) (T := TX4) (N := 5) hx hb hts iw_5 hown hK hP 0 rfl rfl 2 (by decide) (hts (.fieldLink RX4 18 "DepositCodes$Machines" "sets" "[I") (by decide +kernel)) (fun _ h9 => h9) rfl dX4_setOf_9 ?_
    refine lv_iload_n hx hb dX4_setOf_12 rfl (lv_at hl 1 rfl) ?_
    refine va_iald hx hb hK hP 3 0 rfl rfl (by assumption) dX4_setOf_13 ?_
    refine lv_goto (tgt := 18) hx hb dX4_setOf_14 (by decide) ?_
    exact W.iret hx hb hr (fun t ht hW => ⟨by rw [← hE], ht⟩) (fun q h => absurd h List.not_mem_nil) dX4_setOf_18
def FX4_setFull (mf : Nat → Int32) (mn : Nat) (k : Int32) (on : Int32) : Int32 × (Nat → Int32) := if (FX4_exists mn k) = 0 then (0, mf) else (1, upd mf k.toNatClampNeg (vp_nar .boolean on))
theorem FX4_setFull_b (mf : Nat → Int32) (mn : Nat) (k : Int32) (on : Int32) : isB ((FX4_setFull mf mn k on).1) := by
  unfold FX4_setFull
  repeat' split
  all_goals first | exact isB_0 | exact isB_1
set_option maxHeartbeats 4000000 in
set_option maxRecDepth 100000 in
theorem kX4_setFull (l : Launch) (D : va_G) (cI cJ cZ : ClassId) (qm : Nat) (m1 : Nat) (m2 : Nat) (m3 : Nat) (m4 : Nat) (mf : Nat → Int32) (mp : Nat → Int32) (ms : Nat → Int32) (mu : Nat → Int32) (mn : Nat) (k : Int32) (on : Int32) (sz : Nat) (hmn : mn ≤ 6) : Met l yX4_setFull wsX4_setFull ({ frames := 2, cells := 0, slots := 0, locals := 42 }) (mP D (tz cI cJ cZ) [.ref qm, .int k, .int on] sz [(qm, .inr (5, [.ref m1, .ref m2, .ref m3, .ref m4, .int (nI mn)])), (m1, .inl (cZ, 6, .inl mf)), (m2, .inl (cZ, 6, .inl mp)), (m3, .inl (cI, 6, .inl ms)), (m4, .inl (cI, 6, .inl mu))]) (mQ D (some (.int ((FX4_setFull mf mn k on).1))) [(qm, .inr (5, [.ref m1, .ref m2, .ref m3, .ref m4, .int (nI mn)])), (m1, .inl (cZ, 6, .inl ((FX4_setFull mf mn k on).2))), (m2, .inl (cZ, 6, .inl mp)), (m3, .inl (cI, 6, .inl ms)), (m4, .inl (cI, 6, .inl mu))] (va_A [(qm, .inr (5, [.ref m1, .ref m2, .ref m3, .ref m4, .int (nI mn)])), (m1, .inl (cZ, 6, .inl mf)), (m2, .inl (cZ, 6, .inl mp)), (m3, .inl (cI, 6, .inl ms)), (m4, .inl (cI, 6, .inl mu))] sz)) 0 0 (va_A [(qm, .inr (5, [.ref m1, .ref m2, .ref m3, .ref m4, .int (nI mn)])), (m1, .inl (cZ, 6, .inl mf)), (m2, .inl (cZ, 6, .inl mp)), (m3, .inl (cI, 6, .inl ms)), (m4, .inl (cI, 6, .inl mu))] sz) := by
  refine Met.ofW (cc := cX4_setFull) (maxL := 3) (ret := (some .boolean)) (by decide) rfl ?_
  intro p e s m args below meth c s₁ B hml hv
  obtain ⟨rfl, hsz, hP, hK, hD0, hN⟩ := hv
  have hx := B.exec
  have hb := B.bytes
  have hr := B.returns
  have hts := atoms_spec (ws := wsX4_setFull) B.pre
  have hown : s.vm.findClass RX4 = some m.cls := findClass_of_methodNamed B.named
  have hlocks := B.notSynchronized
  have iw_5 : ∀ w ∈ u_ws RX4 TX4 5, w ∈ wsX4_setFull := by decide +kernel
  subst hsz
  have hD := hD0.self (sz := s.heap.size)
  generalize hE : FX4_setFull mf mn k on = R0
  generalize hAe : va_A [(qm, .inr (5, [.ref m1, .ref m2, .ref m3, .ref m4, .int (nI mn)])), (m1, .inl (cZ, 6, .inl mf)), (m2, .inl (cZ, 6, .inl mp)), (m3, .inl (cI, 6, .inl ms)), (m4, .inl (cI, 6, .inl mu))] s.heap.size = A at hD ⊢
  have hA : ∀ q : Nat, s.heap.size ≤ q → A q := fun q h => by rw [← hAe]; exact Or.inr h
  have hS : va_S A s.heap s.heap [] := va_S.rf
  rw [FX4_setFull] at hE
  have hl := lv_entry ([.ref qm, .int k, .int on]) (n := 3) (Nat.le_of_ble_eq_true rfl)
  rw [lg_entry_eq]
  generalize (lg_sl ([.ref qm, .int k, .int on]) ++ List.replicate (3 - (lg_sl ([.ref qm, .int k, .int on])).length) Slot.unset).toArray = ls at hl ⊢
  have hl : lv_has ls 3 [(0, .ref qm), (1, .int k), (2, .int on)] := hl
  refine lv_aload_n hx hb dX4_setFull_0 rfl (lv_at hl 0 rfl) ?_
  refine lv_iload_n hx hb dX4_setFull_1 rfl (lv_at hl 1 rfl) ?_
  refine rd_call (va_runV (As := [.int k]) (rest := []) ⟨hx, hb, hml, hown, hts⟩ (kX4_exists l D cI cJ cZ qm m1 m2 m3 m4 mf mp ms mu mn k) (cwV 1 hts gX4_setFull_X4_exists rfl rfl rfl (by decide +kernel) ⟨Nat.le_of_ble_eq_true rfl, Nat.le_of_ble_eq_true rfl⟩) ⟨rP_blind, va_recv hK hP (ci := 5) (q0 := 0) rfl rfl, rP_pre (hP.sub [0, 1, 2, 3, 4] rfl) hK hN⟩ rfl rfl hl.1 rfl (lv_room (Nat.le_of_ble_eq_true rfl)) dX4_setFull_2 ⟨Nat.zero_le _, Nat.zero_le _⟩) ?_
  refine lv_if_ne (tgt := 10) hx hb dX4_setFull_5 (by decide) (fun c_1 => ?_) (fun c_1 => ?_)
  · rw [if_neg c_1] at hE
    have hin : vp_in k 6 := isIx_in (k := k) (n := mn) (by assumption) hmn (by decide)
    refine lv_aload_n hx hb dX4_setFull_10 rfl (lv_at hl 0 rfl) ?_
    refine va_get (D := D) (ci := 5) (v := .ref m1) (C := RX4) (T := TX4) (N := 5) hx hb hts iw_5 hown hK hP 0 rfl rfl 0 (by decide) (hts (.fieldLink RX4 11 "DepositCodes$Machines" "fullOnes" "[Z") (by decide +kernel)) (fun _ h9 => h9) rfl dX4_setFull_11 ?_
    refine lv_iload_n hx hb dX4_setFull_14 rfl (lv_at hl 1 rfl) ?_
    refine lv_iload_n hx hb dX4_setFull_15 rfl (lv_at hl 2 rfl) ?_
    refine va_zast hx hb hK hP hD hS 1 2 rfl rfl (by assumption) dX4_setFull_16 (fun H locs hP hD hS => ?_)
    have hP : va_P D vwCl [(qm, .inr (5, [.ref m1, .ref m2, .ref m3, .ref m4, .int (nI mn)])), (m1, .inl (cZ, 6, .inl (upd mf k.toNatClampNeg (vp_nar .boolean on)))), (m2, .inl (cZ, 6, .inl mp)), (m3, .inl (cI, 6, .inl ms)), (m4, .inl (cI, 6, .inl mu))] H := hP
    have hD : va_D A [(qm, .inr (5, [.ref m1, .ref m2, .ref m3, .ref m4, .int (nI mn)])), (m1, .inl (cZ, 6, .inl (upd mf k.toNatClampNeg (vp_nar .boolean on)))), (m2, .inl (cZ, 6, .inl mp)), (m3, .inl (cI, 6, .inl ms)), (m4, .inl (cI, 6, .inl mu))] := hD
    refine lv_iconst (v := 1) hx hb dX4_setFull_17 (by decide) ?_
    subst hE
    exact W.zret hx hb hr narrow_b1 (fun t ht hW => ⟨rfl, by rw [ht]; exact hP, hD, hS.F ht⟩) hS.2.2 dX4_setFull_18
  · rw [if_pos c_1] at hE
    refine lv_iconst (v := 0) hx hb dX4_setFull_8 (by decide) ?_
    subst hE
    exact W.zret hx hb hr narrow_b0 (fun t ht hW => ⟨rfl, by rw [ht]; exact hP, hD, hS.F ht⟩) hS.2.2 dX4_setFull_9
def FX4_setPower (mp : Nat → Int32) (mn : Nat) (k : Int32) (on : Int32) : Int32 × (Nat → Int32) := if (FX4_exists mn k) = 0 then (0, mp) else (1, upd mp k.toNatClampNeg (vp_nar .boolean on))
theorem FX4_setPower_b (mp : Nat → Int32) (mn : Nat) (k : Int32) (on : Int32) : isB ((FX4_setPower mp mn k on).1) := by
  unfold FX4_setPower
  repeat' split
  all_goals first | exact isB_0 | exact isB_1
set_option maxHeartbeats 4000000 in
set_option maxRecDepth 100000 in
theorem kX4_setPower (l : Launch) (D : va_G) (cI cJ cZ : ClassId) (qm : Nat) (m1 : Nat) (m2 : Nat) (m3 : Nat) (m4 : Nat) (mf : Nat → Int32) (mp : Nat → Int32) (ms : Nat → Int32) (mu : Nat → Int32) (mn : Nat) (k : Int32) (on : Int32) (sz : Nat) (hmn : mn ≤ 6) : Met l yX4_setPower wsX4_setPower ({ frames := 2, cells := 0, slots := 0, locals := 42 }) (mP D (tz cI cJ cZ) [.ref qm, .int k, .int on] sz [(qm, .inr (5, [.ref m1, .ref m2, .ref m3, .ref m4, .int (nI mn)])), (m1, .inl (cZ, 6, .inl mf)), (m2, .inl (cZ, 6, .inl mp)), (m3, .inl (cI, 6, .inl ms)), (m4, .inl (cI, 6, .inl mu))]) (mQ D (some (.int ((FX4_setPower mp mn k on).1))) [(qm, .inr (5, [.ref m1, .ref m2, .ref m3, .ref m4, .int (nI mn)])), (m1, .inl (cZ, 6, .inl mf)), (m2, .inl (cZ, 6, .inl ((FX4_setPower mp mn k on).2))), (m3, .inl (cI, 6, .inl ms)), (m4, .inl (cI, 6, .inl mu))] (va_A [(qm, .inr (5, [.ref m1, .ref m2, .ref m3, .ref m4, .int (nI mn)])), (m1, .inl (cZ, 6, .inl mf)), (m2, .inl (cZ, 6, .inl mp)), (m3, .inl (cI, 6, .inl ms)), (m4, .inl (cI, 6, .inl mu))] sz)) 0 0 (va_A [(qm, .inr (5, [.ref m1, .ref m2, .ref m3, .ref m4, .int (nI mn)])), (m1, .inl (cZ, 6, .inl mf)), (m2, .inl (cZ, 6, .inl mp)), (m3, .inl (cI, 6, .inl ms)), (m4, .inl (cI, 6, .inl mu))] sz) := by
  refine Met.ofW (cc := cX4_setPower) (maxL := 3) (ret := (some .boolean)) (by decide) rfl ?_
  intro p e s m args below meth c s₁ B hml hv
  obtain ⟨rfl, hsz, hP, hK, hD0, hN⟩ := hv
  have hx := B.exec
  have hb := B.bytes
  have hr := B.returns
  have hts := atoms_spec (ws := wsX4_setPower) B.pre
  have hown : s.vm.findClass RX4 = some m.cls := findClass_of_methodNamed B.named
  have hlocks := B.notSynchronized
  have iw_5 : ∀ w ∈ u_ws RX4 TX4 5, w ∈ wsX4_setPower := by decide +kernel
  subst hsz
  have hD := hD0.self (sz := s.heap.size)
  generalize hE : FX4_setPower mp mn k on = R0
  generalize hAe : va_A [(qm, .inr (5, [.ref m1, .ref m2, .ref m3, .ref m4, .int (nI mn)])), (m1, .inl (cZ, 6, .inl mf)), (m2, .inl (cZ, 6, .inl mp)), (m3, .inl (cI, 6, .inl ms)), (m4, .inl (cI, 6, .inl mu))] s.heap.size = A at hD ⊢
  have hA : ∀ q : Nat, s.heap.size ≤ q → A q := fun q h => by rw [← hAe]; exact Or.inr h
  have hS : va_S A s.heap s.heap [] := va_S.rf
  rw [FX4_setPower] at hE
  have hl := lv_entry ([.ref qm, .int k, .int on]) (n := 3) (Nat.le_of_ble_eq_true rfl)
  rw [lg_entry_eq]
  generalize (lg_sl ([.ref qm, .int k, .int on]) ++ List.replicate (3 - (lg_sl ([.ref qm, .int k, .int on])).length) Slot.unset).toArray = ls at hl ⊢
  have hl : lv_has ls 3 [(0, .ref qm), (1, .int k), (2, .int on)] := hl
  refine lv_aload_n hx hb dX4_setPower_0 rfl (lv_at hl 0 rfl) ?_
  refine lv_iload_n hx hb dX4_setPower_1 rfl (lv_at hl 1 rfl) ?_
  refine rd_call (va_runV (As := [.int k]) (rest := []) ⟨hx, hb, hml, hown, hts⟩ (kX4_exists l D cI cJ cZ qm m1 m2 m3 m4 mf mp ms mu mn k) (cwV 1 hts gX4_setPower_X4_exists rfl rfl rfl (by decide +kernel) ⟨Nat.le_of_ble_eq_true rfl, Nat.le_of_ble_eq_true rfl⟩) ⟨rP_blind, va_recv hK hP (ci := 5) (q0 := 0) rfl rfl, rP_pre (hP.sub [0, 1, 2, 3, 4] rfl) hK hN⟩ rfl rfl hl.1 rfl (lv_room (Nat.le_of_ble_eq_true rfl)) dX4_setPower_2 ⟨Nat.zero_le _, Nat.zero_le _⟩) ?_
  refine lv_if_ne (tgt := 10) hx hb dX4_setPower_5 (by decide) (fun c_1 => ?_) (fun c_1 => ?_)
  · rw [if_neg c_1] at hE
    have hin : vp_in k 6 := isIx_in (k := k) (n := mn) (by assumption) hmn (by decide)
    refine lv_aload_n hx hb dX4_setPower_10 rfl (lv_at hl 0 rfl) ?_
    refine va_get (D := D) (ci := 5) (v := .ref m2) (C := RX4) (T := TX4) (N := 5) hx hb hts iw_5 hown hK hP 0 rfl rfl 1 (by decide) (hts (.fieldLink RX4 15 "DepositCodes$Machines" "poweredOnes" "[Z") (by decide +kernel)) (fun _ h9 => h9) rfl dX4_setPower_11 ?_
    refine lv_iload_n hx hb dX4_setPower_14 rfl (lv_at hl 1 rfl) ?_
    refine lv_iload_n hx hb dX4_setPower_15 rfl (lv_at hl 2 rfl) ?_
    refine va_zast hx hb hK hP hD hS 2 2 rfl rfl (by assumption) dX4_setPower_16 (fun H locs hP hD hS => ?_)
    have hP : va_P D vwCl [(qm, .inr (5, [.ref m1, .ref m2, .ref m3, .ref m4, .int (nI mn)])), (m1, .inl (cZ, 6, .inl mf)), (m2, .inl (cZ, 6, .inl (upd mp k.toNatClampNeg (vp_nar .boolean on)))), (m3, .inl (cI, 6, .inl ms)), (m4, .inl (cI, 6, .inl mu))] H := hP
    have hD : va_D A [(qm, .inr (5, [.ref m1, .ref m2, .ref m3, .ref m4, .int (nI mn)])), (m1, .inl (cZ, 6, .inl mf)), (m2, .inl (cZ, 6, .inl (upd mp k.toNatClampNeg (vp_nar .boolean on)))), (m3, .inl (cI, 6, .inl ms)), (m4, .inl (cI, 6, .inl mu))] := hD
    refine lv_iconst (v := 1) hx hb dX4_setPower_17 (by decide) ?_
    subst hE
    exact W.zret hx hb hr narrow_b1 (fun t ht hW => ⟨rfl, by rw [ht]; exact hP, hD, hS.F ht⟩) hS.2.2 dX4_setPower_18
  · rw [if_pos c_1] at hE
    refine lv_iconst (v := 0) hx hb dX4_setPower_8 (by decide) ?_
    subst hE
    exact W.zret hx hb hr narrow_b0 (fun t ht hW => ⟨rfl, by rw [ht]; exact hP, hD, hS.F ht⟩) hS.2.2 dX4_setPower_9
def FX4_addUnprinted (mu : Nat → Int32) (mn : Nat) (k : Int32) : (Nat → Int32) := if (FX4_exists mn k) = 0 then mu else upd mu k.toNatClampNeg ((mu k.toNatClampNeg) + 1)
set_option maxHeartbeats 4000000 in
set_option maxRecDepth 100000 in
theorem kX4_addUnprinted (l : Launch) (D : va_G) (cI cJ cZ : ClassId) (qm : Nat) (m1 : Nat) (m2 : Nat) (m3 : Nat) (m4 : Nat) (mf : Nat → Int32) (mp : Nat → Int32) (ms : Nat → Int32) (mu : Nat → Int32) (mn : Nat) (k : Int32) (sz : Nat) (hmn : mn ≤ 6) : Met l yX4_addUnprinted wsX4_addUnprinted ({ frames := 2, cells := 0, slots := 0, locals := 42 }) (mP D (tz cI cJ cZ) [.ref qm, .int k] sz [(qm, .inr (5, [.ref m1, .ref m2, .ref m3, .ref m4, .int (nI mn)])), (m1, .inl (cZ, 6, .inl mf)), (m2, .inl (cZ, 6, .inl mp)), (m3, .inl (cI, 6, .inl ms)), (m4, .inl (cI, 6, .inl mu))]) (mQ D none [(qm, .inr (5, [.ref m1, .ref m2, .ref m3, .ref m4, .int (nI mn)])), (m1, .inl (cZ, 6, .inl mf)), (m2, .inl (cZ, 6, .inl mp)), (m3, .inl (cI, 6, .inl ms)), (m4, .inl (cI, 6, .inl (FX4_addUnprinted mu mn k)))] (va_A [(qm, .inr (5, [.ref m1, .ref m2, .ref m3, .ref m4, .int (nI mn)])), (m1, .inl (cZ, 6, .inl mf)), (m2, .inl (cZ, 6, .inl mp)), (m3, .inl (cI, 6, .inl ms)), (m4, .inl (cI, 6, .inl mu))] sz)) 0 0 (va_A [(qm, .inr (5, [.ref m1, .ref m2, .ref m3, .ref m4, .int (nI mn)])), (m1, .inl (cZ, 6, .inl mf)), (m2, .inl (cZ, 6, .inl mp)), (m3, .inl (cI, 6, .inl ms)), (m4, .inl (cI, 6, .inl mu))] sz) := by
  refine Met.ofW (cc := cX4_addUnprinted) (maxL := 2) (ret := none) (by decide) rfl ?_
  intro p e s m args below meth c s₁ B hml hv
  obtain ⟨rfl, hsz, hP, hK, hD0, hN⟩ := hv
  have hx := B.exec
  have hb := B.bytes
  have hr := B.returns
  have hts := atoms_spec (ws := wsX4_addUnprinted) B.pre
  have hown : s.vm.findClass RX4 = some m.cls := findClass_of_methodNamed B.named
  have hlocks := B.notSynchronized
  have iw_5 : ∀ w ∈ u_ws RX4 TX4 5, w ∈ wsX4_addUnprinted := by decide +kernel
  subst hsz
  have hD := hD0.self (sz := s.heap.size)
  generalize hE : FX4_addUnprinted mu mn k = R0
  generalize hAe : va_A [(qm, .inr (5, [.ref m1, .ref m2, .ref m3, .ref m4, .int (nI mn)])), (m1, .inl (cZ, 6, .inl mf)), (m2, .inl (cZ, 6, .inl mp)), (m3, .inl (cI, 6, .inl ms)), (m4, .inl (cI, 6, .inl mu))] s.heap.size = A at hD ⊢
  have hA : ∀ q : Nat, s.heap.size ≤ q → A q := fun q h => by rw [← hAe]; exact Or.inr h
  have hS : va_S A s.heap s.heap [] := va_S.rf
  rw [FX4_addUnprinted] at hE
  have hl := lv_entry ([.ref qm, .int k]) (n := 2) (Nat.le_of_ble_eq_true rfl)
  rw [lg_entry_eq]
  generalize (lg_sl ([.ref qm, .int k]) ++ List.replicate (2 - (lg_sl ([.ref qm, .int k])).length) Slot.unset).toArray = ls at hl ⊢
  have hl : lv_has ls 2 [(0, .ref qm), (1, .int k)] := hl
  refine lv_aload_n hx hb dX4_addUnprinted_0 rfl (lv_at hl 0 rfl) ?_
  refine lv_iload_n hx hb dX4_addUnprinted_1 rfl (lv_at hl 1 rfl) ?_
  refine rd_call (va_runV (As := [.int k]) (rest := []) ⟨hx, hb, hml, hown, hts⟩ (kX4_exists l D cI cJ cZ qm m1 m2 m3 m4 mf mp ms mu mn k) (cwV 1 hts gX4_addUnprinted_X4_exists rfl rfl rfl (by decide +kernel) ⟨Nat.le_of_ble_eq_true rfl, Nat.le_of_ble_eq_true rfl⟩) ⟨rP_blind, va_recv hK hP (ci := 5) (q0 := 0) rfl rfl, rP_pre (hP.sub [0, 1, 2, 3, 4] rfl) hK hN⟩ rfl rfl hl.1 rfl (lv_room (Nat.le_of_ble_eq_true rfl)) dX4_addUnprinted_2 ⟨Nat.zero_le _, Nat.zero_le _⟩) ?_
  refine lv_if_eq (tgt := 18) hx hb dX4_addUnprinted_5 (by decide) (fun c_1 => ?_) (fun c_1 => ?_)
  · rw [if_pos c_1] at hE
    subst hE
    exact W.vret hx hb hr (fun t ht hW => ⟨rfl, by rw [ht]; exact hP, hD, hS.F ht⟩) hS.2.2 dX4_addUnprinted_18
  · rw [if_neg c_1] at hE
    have hin : vp_in k 6 := isIx_in (k := k) (n := mn) (by assumption) hmn (by decide)
    refine lv_aload_n hx hb dX4_addUnprinted_8 rfl (lv_at hl 0 rfl) ?_
    refine va_get (D := D) (ci := 5) (v := .ref m4) (C := RX4) (T := TX4) (N := 5) hx hb hts iw_5 hown hK hP 0 rfl rfl 3 (by decide) (hts (.fieldLink RX4 22 "DepositCodes$Machines" "unprinted" "[I") (by decide +kernel)) (fun _ h9 => h9) rfl dX4_addUnprinted_9 ?_
    refine lv_iload_n hx hb dX4_addUnprinted_12 rfl (lv_at hl 1 rfl) ?_
    refine lv_dup2_11 hx hb dX4_addUnprinted_13 rfl rfl ?_
    refine va_iald hx hb hK hP 4 0 rfl rfl (by assumption) dX4_addUnprinted_14 ?_
    refine lv_iconst (v := 1) hx hb dX4_addUnprinted_15 (by decide) ?_
    refine lv_iadd hx hb dX4_addUnprinted_16 ?_
    refine va_iast hx hb hK hP hD hS 4 0 rfl rfl (by assumption) dX4_addUnprinted_17 (fun H locs hP hD hS => ?_)
    have hP : va_P D vwCl [(qm, .inr (5, [.ref m1, .ref m2, .ref m3, .ref m4, .int (nI mn)])), (m1, .inl (cZ, 6, .inl mf)), (m2, .inl (cZ, 6, .inl mp)), (m3, .inl (cI, 6, .inl ms)), (m4, .inl (cI, 6, .inl (upd mu k.toNatClampNeg ((mu k.toNatClampNeg) + 1))))] H := hP
    have hD : va_D A [(qm, .inr (5, [.ref m1, .ref m2, .ref m3, .ref m4, .int (nI mn)])), (m1, .inl (cZ, 6, .inl mf)), (m2, .inl (cZ, 6, .inl mp)), (m3, .inl (cI, 6, .inl ms)), (m4, .inl (cI, 6, .inl (upd mu k.toNatClampNeg ((mu k.toNatClampNeg) + 1))))] := hD
    subst hE
    exact W.vret hx hb hr (fun t ht hW => ⟨rfl, by rw [ht]; exact hP, hD, hS.F ht⟩) hS.2.2 dX4_addUnprinted_18
def FX4_takeUnprinted (mu : Nat → Int32) (mn : Nat) (k : Int32) : Int32 × (Nat → Int32) := if (FX4_exists mn k) = 0 then (0, mu) else (mu k.toNatClampNeg, upd mu k.toNatClampNeg 0)
set_option maxHeartbeats 4000000 in
set_option maxRecDepth 100000 in
theorem kX4_takeUnprinted (l : Launch) (D : va_G) (cI cJ cZ : ClassId) (qm : Nat) (m1 : Nat) (m2 : Nat) (m3 : Nat) (m4 : Nat) (mf : Nat → Int32) (mp : Nat → Int32) (ms : Nat → Int32) (mu : Nat → Int32) (mn : Nat) (k : Int32) (sz : Nat) (hmn : mn ≤ 6) : Met l yX4_takeUnprinted wsX4_takeUnprinted ({ frames := 2, cells := 0, slots := 0, locals := 42 }) (mP D (tz cI cJ cZ) [.ref qm, .int k] sz [(qm, .inr (5, [.ref m1, .ref m2, .ref m3, .ref m4, .int (nI mn)])), (m1, .inl (cZ, 6, .inl mf)), (m2, .inl (cZ, 6, .inl mp)), (m3, .inl (cI, 6, .inl ms)), (m4, .inl (cI, 6, .inl mu))]) (mQ D (some (.int ((FX4_takeUnprinted mu mn k).1))) [(qm, .inr (5, [.ref m1, .ref m2, .ref m3, .ref m4, .int (nI mn)])), (m1, .inl (cZ, 6, .inl mf)), (m2, .inl (cZ, 6, .inl mp)), (m3, .inl (cI, 6, .inl ms)), (m4, .inl (cI, 6, .inl ((FX4_takeUnprinted mu mn k).2)))] (va_A [(qm, .inr (5, [.ref m1, .ref m2, .ref m3, .ref m4, .int (nI mn)])), (m1, .inl (cZ, 6, .inl mf)), (m2, .inl (cZ, 6, .inl mp)), (m3, .inl (cI, 6, .inl ms)), (m4, .inl (cI, 6, .inl mu))] sz)) 0 0 (va_A [(qm, .inr (5, [.ref m1, .ref m2, .ref m3, .ref m4, .int (nI mn)])), (m1, .inl (cZ, 6, .inl mf)), (m2, .inl (cZ, 6, .inl mp)), (m3, .inl (cI, 6, .inl ms)), (m4, .inl (cI, 6, .inl mu))] sz) := by
  refine Met.ofW (cc := cX4_takeUnprinted) (maxL := 3) (ret := (some .int)) (by decide) rfl ?_
  intro p e s m args below meth c s₁ B hml hv
  obtain ⟨rfl, hsz, hP, hK, hD0, hN⟩ := hv
  have hx := B.exec
  have hb := B.bytes
  have hr := B.returns
  have hts := atoms_spec (ws := wsX4_takeUnprinted) B.pre
  have hown : s.vm.findClass RX4 = some m.cls := findClass_of_methodNamed B.named
  have hlocks := B.notSynchronized
  have iw_5 : ∀ w ∈ u_ws RX4 TX4 5, w ∈ wsX4_takeUnprinted := by decide +kernel
  subst hsz
  have hD := hD0.self (sz := s.heap.size)
  generalize hE : FX4_takeUnprinted mu mn k = R0
  generalize hAe : va_A [(qm, .inr (5, [.ref m1, .ref m2, .ref m3, .ref m4, .int (nI mn)])), (m1, .inl (cZ, 6, .inl mf)), (m2, .inl (cZ, 6, .inl mp)), (m3, .inl (cI, 6, .inl ms)), (m4, .inl (cI, 6, .inl mu))] s.heap.size = A at hD ⊢
  have hA : ∀ q : Nat, s.heap.size ≤ q → A q := fun q h => by rw [← hAe]; exact Or.inr h
  have hS : va_S A s.heap s.heap [] := va_S.rf
  rw [FX4_takeUnprinted] at hE
  have hl := lv_entry ([.ref qm, .int k]) (n := 3) (Nat.le_of_ble_eq_true rfl)
  rw [lg_entry_eq]
  generalize (lg_sl ([.ref qm, .int k]) ++ List.replicate (3 - (lg_sl ([.ref qm, .int k])).length) Slot.unset).toArray = ls at hl ⊢
  have hl : lv_has ls 3 [(0, .ref qm), (1, .int k)] := hl
  refine lv_aload_n hx hb dX4_takeUnprinted_0 rfl (lv_at hl 0 rfl) ?_
  refine lv_iload_n hx hb dX4_takeUnprinted_1 rfl (lv_at hl 1 rfl) ?_
  refine rd_call (va_runV (As := [.int k]) (rest := []) ⟨hx, hb, hml, hown, hts⟩ (kX4_exists l D cI cJ cZ qm m1 m2 m3 m4 mf mp ms mu mn k) (cwV 1 hts gX4_takeUnprinted_X4_exists rfl rfl rfl (by decide +kernel) ⟨Nat.le_of_ble_eq_true rfl, Nat.le_of_ble_eq_true rfl⟩) ⟨rP_blind, va_recv hK hP (ci := 5) (q0 := 0) rfl rfl, rP_pre (hP.sub [0, 1, 2, 3, 4] rfl) hK hN⟩ rfl rfl hl.1 rfl (lv_room (Nat.le_of_ble_eq_true rfl)) dX4_takeUnprinted_2 ⟨Nat.zero_le _, Nat.zero_le _⟩) ?_
  refine lv_if_ne (tgt := 10) hx hb dX4_takeUnprinted_5 (by decide) (fun c_1 => ?_) (fun c_1 => ?_)
  · rw [if_neg c_1] at hE
    have hin : vp_in k 6 := isIx_in (k := k) (n := mn) (by assumption) hmn (by decide)
    refine lv_aload_n hx hb dX4_takeUnprinted_10 rfl (lv_at hl 0 rfl) ?_
    refine va_get (D := D) (ci := 5) (v := .ref m4) (C := RX4) (T := TX4) (N := 5) hx hb hts iw_5 hown hK hP 0 rfl rfl 3 (by decide) (hts (.fieldLink RX4 22 "DepositCodes$Machines" "unprinted" "[I") (by decide +kernel)) (fun _ h9 => h9) rfl dX4_takeUnprinted_11 ?_
    refine lv_iload_n hx hb dX4_takeUnprinted_14 rfl (lv_at hl 1 rfl) ?_
    refine va_iald hx hb hK hP 4 0 rfl rfl (by assumption) dX4_takeUnprinted_15 ?_
    refine lv_istore_n (lv' := [(2, .int (mu k.toNatClampNeg)), (0, .ref qm), (1, .int k)]) hx hb dX4_takeUnprinted_16 rfl hl (by decide) rfl (fun ls hl => ?_)
    refine lv_aload_n hx hb dX4_takeUnprinted_17 rfl (lv_at hl 1 rfl) ?_
    refine va_get (D := D) (ci := 5) (v := .ref m4) (C := RX4) (T := TX4) (N := 5) hx hb hts iw_5 hown hK hP 0 rfl rfl 3 (by decide) (hts (.fieldLink RX4 22 "DepositCodes$Machines" "unprinted" "[I") (by decide +kernel)) (fun _ h9 => h9) rfl dX4_takeUnprinted_18 ?_
    refine lv_iload_n hx hb dX4_takeUnprinted_21 rfl (lv_at hl 2 rfl) ?_
    refine lv_iconst (v := 0) hx hb dX4_takeUnprinted_22 (by decide) ?_
    refine va_iast hx hb hK hP hD hS 4 0 rfl rfl (by assumption) dX4_takeUnprinted_23 (fun H locs hP hD hS => ?_)
    have hP : va_P D vwCl [(qm, .inr (5, [.ref m1, .ref m2, .ref m3, .ref m4, .int (nI mn)])), (m1, .inl (cZ, 6, .inl mf)), (m2, .inl (cZ, 6, .inl mp)), (m3, .inl (cI, 6, .inl ms)), (m4, .inl (cI, 6, .inl (upd mu k.toNatClampNeg 0)))] H := hP
    have hD : va_D A [(qm, .inr (5, [.ref m1, .ref m2, .ref m3, .ref m4, .int (nI mn)])), (m1, .inl (cZ, 6, .inl mf)), (m2, .inl (cZ, 6, .inl mp)), (m3, .inl (cI, 6, .inl ms)), (m4, .inl (cI, 6, .inl (upd mu k.toNatClampNeg 0)))] := hD
    refine lv_iload_n hx hb dX4_takeUnprinted_24 rfl (lv_at hl 0 rfl) ?_
    subst hE
    exact W.iret hx hb hr (fun t ht hW => ⟨rfl, by rw [ht]; exact hP, hD, hS.F ht⟩) hS.2.2 dX4_takeUnprinted_25
  · rw [if_pos c_1] at hE
    refine lv_iconst (v := 0) hx hb dX4_takeUnprinted_8 (by decide) ?_
    subst hE
    exact W.iret hx hb hr (fun t ht hW => ⟨rfl, by rw [ht]; exact hP, hD, hS.F ht⟩) hS.2.2 dX4_takeUnprinted_9
def FX4_addMachine (mp : Nat → Int32) (ms : Nat → Int32) (mn : Nat) : Int32 × (Nat → Int32) × (Nat → Int32) × Nat := if mn < 6 then (nI mn, upd mp mn (vp_nar .boolean 1), upd ms mn (nI mn), mn + 1) else ((-1), mp, ms, mn)
set_option maxHeartbeats 4000000 in
set_option maxRecDepth 100000 in
theorem kX4_addMachine (l : Launch) (D : va_G) (cI cJ cZ : ClassId) (qm : Nat) (m1 : Nat) (m2 : Nat) (m3 : Nat) (m4 : Nat) (mf : Nat → Int32) (mp : Nat → Int32) (ms : Nat → Int32) (mu : Nat → Int32) (mn : Nat) (sz : Nat) (hmn : mn ≤ 6) : Met l yX4_addMachine wsX4_addMachine ({ frames := 0, cells := 0, slots := 0, locals := 0 }) (mP D (tz cI cJ cZ) [.ref qm] sz [(qm, .inr (5, [.ref m1, .ref m2, .ref m3, .ref m4, .int (nI mn)])), (m1, .inl (cZ, 6, .inl mf)), (m2, .inl (cZ, 6, .inl mp)), (m3, .inl (cI, 6, .inl ms)), (m4, .inl (cI, 6, .inl mu))]) (mQ D (some (.int ((FX4_addMachine mp ms mn).1))) [(qm, .inr (5, [.ref m1, .ref m2, .ref m3, .ref m4, .int (nI ((FX4_addMachine mp ms mn).2.2.2))])), (m1, .inl (cZ, 6, .inl mf)), (m2, .inl (cZ, 6, .inl ((FX4_addMachine mp ms mn).2.1))), (m3, .inl (cI, 6, .inl ((FX4_addMachine mp ms mn).2.2.1))), (m4, .inl (cI, 6, .inl mu))] (va_A [(qm, .inr (5, [.ref m1, .ref m2, .ref m3, .ref m4, .int (nI mn)])), (m1, .inl (cZ, 6, .inl mf)), (m2, .inl (cZ, 6, .inl mp)), (m3, .inl (cI, 6, .inl ms)), (m4, .inl (cI, 6, .inl mu))] sz)) 0 0 (va_A [(qm, .inr (5, [.ref m1, .ref m2, .ref m3, .ref m4, .int (nI mn)])), (m1, .inl (cZ, 6, .inl mf)), (m2, .inl (cZ, 6, .inl mp)), (m3, .inl (cI, 6, .inl ms)), (m4, .inl (cI, 6, .inl mu))] sz) := by
  refine Met.ofW (cc := cX4_addMachine) (maxL := 2) (ret := (some .int)) (by decide) rfl ?_
  intro p e s m args below meth c s₁ B hml hv
  obtain ⟨rfl, hsz, hP, hK, hD0, hN⟩ := hv
  have hx := B.exec
  have hb := B.bytes
  have hr := B.returns
  have hts := atoms_spec (ws := wsX4_addMachine) B.pre
  have hown : s.vm.findClass RX4 = some m.cls := findClass_of_methodNamed B.named
  have hlocks := B.notSynchronized
  have iw_5 : ∀ w ∈ u_ws RX4 TX4 5, w ∈ wsX4_addMachine := by decide +kernel
  subst hsz
  have hD := hD0.self (sz := s.heap.size)
  generalize hE : FX4_addMachine mp ms mn = R0
  generalize hAe : va_A [(qm, .inr (5, [.ref m1, .ref m2, .ref m3, .ref m4, .int (nI mn)])), (m1, .inl (cZ, 6, .inl mf)), (m2, .inl (cZ, 6, .inl mp)), (m3, .inl (cI, 6, .inl ms)), (m4, .inl (cI, 6, .inl mu))] s.heap.size = A at hD ⊢
  have hA : ∀ q : Nat, s.heap.size ≤ q → A q := fun q h => by rw [← hAe]; exact Or.inr h
  have hS : va_S A s.heap s.heap [] := va_S.rf
  rw [FX4_addMachine] at hE
  have hl := lv_entry ([.ref qm]) (n := 2) (Nat.le_of_ble_eq_true rfl)
  rw [lg_entry_eq]
  generalize (lg_sl ([.ref qm]) ++ List.replicate (2 - (lg_sl ([.ref qm])).length) Slot.unset).toArray = ls at hl ⊢
  have hl : lv_has ls 2 [(0, .ref qm)] := hl
  refine lv_aload_n hx hb dX4_addMachine_0 rfl (lv_at hl 0 rfl) ?_
  refine va_get (D := D) (ci := 5) (v := .int (nI mn)) (C := RX4) (T := TX4) (N := 5) hx hb hts iw_5 hown hK hP 0 rfl rfl 4 (by decide) (hts (.fieldLink RX4 25 "DepositCodes$Machines" "size" "I") (by decide +kernel)) (fun _ h9 => h9) rfl dX4_addMachine_1 ?_
  refine lv_bipush (v := 6) hx hb dX4_addMachine_4 (by decide) ?_
  refine lv_icmp_lt (tgt := 11) hx hb dX4_addMachine_6 (by decide) (fun c_1 => ?_) (fun c_1 => ?_)
  · have c_1 : mn < 6 := (nI_ltI (a := mn) (b := 6) (by omega) (by omega)).mp c_1
    rw [if_pos c_1] at hE
    refine lv_aload_n hx hb dX4_addMachine_11 rfl (lv_at hl 0 rfl) ?_
    refine va_get (D := D) (ci := 5) (v := .int (nI mn)) (C := RX4) (T := TX4) (N := 5) hx hb hts iw_5 hown hK hP 0 rfl rfl 4 (by decide) (hts (.fieldLink RX4 25 "DepositCodes$Machines" "size" "I") (by decide +kernel)) (fun _ h9 => h9) rfl dX4_addMachine_12 ?_
    refine lv_istore_n (lv' := [(1, .int (nI mn)), (0, .ref qm)]) hx hb dX4_addMachine_15 rfl hl (by decide) rfl (fun ls hl => ?_)
    refine lv_aload_n hx hb dX4_addMachine_16 rfl (lv_at hl 1 rfl) ?_
    refine va_get (D := D) (ci := 5) (v := .ref m2) (C := RX4) (T := TX4) (N := 5) hx hb hts iw_5 hown hK hP 0 rfl rfl 1 (by decide) (hts (.fieldLink RX4 15 "DepositCodes$Machines" "poweredOnes" "[Z") (by decide +kernel)) (fun _ h9 => h9) rfl dX4_addMachine_17 ?_
    refine lv_iload_n hx hb dX4_addMachine_20 rfl (lv_at hl 0 rfl) ?_
    refine lv_iconst (v := 1) hx hb dX4_addMachine_21 (by decide) ?_
    refine na_zast hx hb hK hP hD hS 2 2 rfl rfl (by omega) (by decide) dX4_addMachine_22 (fun H locs hP hD hS => ?_)
    have hP : va_P D vwCl [(qm, .inr (5, [.ref m1, .ref m2, .ref m3, .ref m4, .int (nI mn)])), (m1, .inl (cZ, 6, .inl mf)), (m2, .inl (cZ, 6, .inl (upd mp mn (vp_nar .boolean 1)))), (m3, .inl (cI, 6, .inl ms)), (m4, .inl (cI, 6, .inl mu))] H := hP
    have hD : va_D A [(qm, .inr (5, [.ref m1, .ref m2, .ref m3, .ref m4, .int (nI mn)])), (m1, .inl (cZ, 6, .inl mf)), (m2, .inl (cZ, 6, .inl (upd mp mn (vp_nar .boolean 1)))), (m3, .inl (cI, 6, .inl ms)), (m4, .inl (cI, 6, .inl mu))] := hD
    refine lv_aload_n hx hb dX4_addMachine_23 rfl (lv_at hl 1 rfl) ?_
    refine va_get (D := D) (ci := 5) (v := .ref m3) (C := RX4) (T := TX4) (N := 5) hx hb hts iw_5 hown hK hP 0 rfl rfl 2 (by decide) (hts (.fieldLink RX4 18 "DepositCodes$Machines" "sets" "[I") (by decide +kernel)) (fun _ h9 => h9) rfl dX4_addMachine_24 ?_
    refine lv_iload_n hx hb dX4_addMachine_27 rfl (lv_at hl 0 rfl) ?_
    refine lv_iload_n hx hb dX4_addMachine_28 rfl (lv_at hl 0 rfl) ?_
    refine na_iast hx hb hK hP hD hS 3 0 rfl rfl (by omega) (by decide) dX4_addMachine_29 (fun H locs hP hD hS => ?_)
    have hP : va_P D vwCl [(qm, .inr (5, [.ref m1, .ref m2, .ref m3, .ref m4, .int (nI mn)])), (m1, .inl (cZ, 6, .inl mf)), (m2, .inl (cZ, 6, .inl (upd mp mn (vp_nar .boolean 1)))), (m3, .inl (cI, 6, .inl (upd ms mn (nI mn)))), (m4, .inl (cI, 6, .inl mu))] H := hP
    have hD : va_D A [(qm, .inr (5, [.ref m1, .ref m2, .ref m3, .ref m4, .int (nI mn)])), (m1, .inl (cZ, 6, .inl mf)), (m2, .inl (cZ, 6, .inl (upd mp mn (vp_nar .boolean 1)))), (m3, .inl (cI, 6, .inl (upd ms mn (nI mn)))), (m4, .inl (cI, 6, .inl mu))] := hD
    refine lv_aload_n hx hb dX4_addMachine_30 rfl (lv_at hl 1 rfl) ?_
    refine lv_dup hx hb dX4_addMachine_31 rfl ?_
    refine va_get (D := D) (ci := 5) (v := .int (nI mn)) (C := RX4) (T := TX4) (N := 5) hx hb hts iw_5 hown hK hP 0 rfl rfl 4 (by decide) (hts (.fieldLink RX4 25 "DepositCodes$Machines" "size" "I") (by decide +kernel)) (fun _ h9 => h9) rfl dX4_addMachine_32 ?_
    refine lv_iconst (v := 1) hx hb dX4_addMachine_35 (by decide) ?_
    refine lv_iadd hx hb dX4_addMachine_36 ?_
    refine na_top (show (nI mn) + 1 = nI (mn + 1) from nI_add mn 1) ?_
    refine va_put (D := D) (ci := 5) (v := .int (nI (mn + 1))) (ty := .int) (C := RX4) (T := TX4) (N := 5) hx hb hts iw_5 tyX4 tyX4_ok nmX4 hown hK hP hD hS 0 rfl rfl 4 (by decide) (hts (.fieldLink RX4 25 "DepositCodes$Machines" "size" "I") (by decide +kernel)) (fun _ h9 => h9) rfl (by decide +kernel) rfl rfl (Nat.le_of_ble_eq_true rfl) dX4_addMachine_37 (fun H locs hP hD hS => ?_)
    have hP : va_P D vwCl [(qm, .inr (5, [.ref m1, .ref m2, .ref m3, .ref m4, .int (nI (mn + 1))])), (m1, .inl (cZ, 6, .inl mf)), (m2, .inl (cZ, 6, .inl (upd mp mn (vp_nar .boolean 1)))), (m3, .inl (cI, 6, .inl (upd ms mn (nI mn)))), (m4, .inl (cI, 6, .inl mu))] H := hP
    have hD : va_D A [(qm, .inr (5, [.ref m1, .ref m2, .ref m3, .ref m4, .int (nI (mn + 1))])), (m1, .inl (cZ, 6, .inl mf)), (m2, .inl (cZ, 6, .inl (upd mp mn (vp_nar .boolean 1)))), (m3, .inl (cI, 6, .inl (upd ms mn (nI mn)))), (m4, .inl (cI, 6, .inl mu))] := hD
    refine lv_iload_n hx hb dX4_addMachine_40 rfl (lv_at hl 0 rfl) ?_
    subst hE
    exact W.iret hx hb hr (fun t ht hW => ⟨rfl, by rw [ht]; exact hP, hD, hS.F ht⟩) hS.2.2 dX4_addMachine_41
  · have c_1 : ¬ mn < 6 := fun h9 => c_1 ((nI_ltI (a := mn) (b := 6) (by omega) (by omega)).mpr h9)
    rw [if_neg c_1] at hE
    refine lv_iconst (v := (-1)) hx hb dX4_addMachine_9 (by decide) ?_
    subst hE
    exact W.iret hx hb hr (fun t ht hW => ⟨rfl, by rw [ht]; exact hP, hD, hS.F ht⟩) hS.2.2 dX4_addMachine_10
def FX4_moveSet_l2 (mn : Nat) (fr : Int32) (to : Int32) : Nat → Nat → (Nat → Int32) → (Nat → Int32)
  | 0, _, _ => fun _ => 0
  | n + 1, k, msx => if mn ≤ k then msx else (if (msx k) = fr then FX4_moveSet_l2 mn fr to n (k + 1) (upd msx k to) else FX4_moveSet_l2 mn fr to n (k + 1) msx)
def FX4_moveSet (ms : Nat → Int32) (mn : Nat) (fr : Int32) (to : Int32) : (Nat → Int32) := FX4_moveSet_l2 mn fr to (mn + 1) 0 ms
set_option maxHeartbeats 4000000 in
set_option maxRecDepth 100000 in
theorem kX4_moveSet (l : Launch) (D : va_G) (cI cJ cZ : ClassId) (qm : Nat) (m1 : Nat) (m2 : Nat) (m3 : Nat) (m4 : Nat) (mf : Nat → Int32) (mp : Nat → Int32) (ms : Nat → Int32) (mu : Nat → Int32) (mn : Nat) (fr : Int32) (to : Int32) (sz : Nat) (hmn : mn ≤ 6) : Met l yX4_moveSet wsX4_moveSet ({ frames := 0, cells := 0, slots := 0, locals := 0 }) (mP D (tz cI cJ cZ) [.ref qm, .int fr, .int to] sz [(qm, .inr (5, [.ref m1, .ref m2, .ref m3, .ref m4, .int (nI mn)])), (m1, .inl (cZ, 6, .inl mf)), (m2, .inl (cZ, 6, .inl mp)), (m3, .inl (cI, 6, .inl ms)), (m4, .inl (cI, 6, .inl mu))]) (mQ D none [(qm, .inr (5, [.ref m1, .ref m2, .ref m3, .ref m4, .int (nI mn)])), (m1, .inl (cZ, 6, .inl mf)), (m2, .inl (cZ, 6, .inl mp)), (m3, .inl (cI, 6, .inl (FX4_moveSet ms mn fr to))), (m4, .inl (cI, 6, .inl mu))] (va_A [(qm, .inr (5, [.ref m1, .ref m2, .ref m3, .ref m4, .int (nI mn)])), (m1, .inl (cZ, 6, .inl mf)), (m2, .inl (cZ, 6, .inl mp)), (m3, .inl (cI, 6, .inl ms)), (m4, .inl (cI, 6, .inl mu))] sz)) 0 0 (va_A [(qm, .inr (5, [.ref m1, .ref m2, .ref m3, .ref m4, .int (nI mn)])), (m1, .inl (cZ, 6, .inl mf)), (m2, .inl (cZ, 6, .inl mp)), (m3, .inl (cI, 6, .inl ms)), (m4, .inl (cI, 6, .inl mu))] sz) := by
  refine Met.ofW (cc := cX4_moveSet) (maxL := 4) (ret := none) (by decide) rfl ?_
  intro p e s m args below meth c s₁ B hml hv
  obtain ⟨rfl, hsz, hP, hK, hD0, hN⟩ := hv
  have hx := B.exec
  have hb := B.bytes
  have hr := B.returns
  have hts := atoms_spec (ws := wsX4_moveSet) B.pre
  have hown : s.vm.findClass RX4 = some m.cls := findClass_of_methodNamed B.named
  have hlocks := B.notSynchronized
  have iw_5 : ∀ w ∈ u_ws RX4 TX4 5, w ∈ wsX4_moveSet := by decide +kernel
  subst hsz
  have hD := hD0.self (sz := s.heap.size)
  generalize hE : FX4_moveSet ms mn fr to = R0
  generalize hAe : va_A [(qm, .inr (5, [.ref m1, .ref m2, .ref m3, .ref m4, .int (nI mn)])), (m1, .inl (cZ, 6, .inl mf)), (m2, .inl (cZ, 6, .inl mp)), (m3, .inl (cI, 6, .inl ms)), (m4, .inl (cI, 6, .inl mu))] s.heap.size = A at hD ⊢
  have hA : ∀ q : Nat, s.heap.size ≤ q → A q := fun q h => by rw [← hAe]; exact Or.inr h
  have hS : va_S A s.heap s.heap [] := va_S.rf
  rw [FX4_moveSet] at hE
  have hl := lv_entry ([.ref qm, .int fr, .int to]) (n := 4) (Nat.le_of_ble_eq_true rfl)
  rw [lg_entry_eq]
  generalize (lg_sl ([.ref qm, .int fr, .int to]) ++ List.replicate (4 - (lg_sl ([.ref qm, .int fr, .int to])).length) Slot.unset).toArray = ls at hl ⊢
  have hl : lv_has ls 4 [(0, .ref qm), (1, .int fr), (2, .int to)] := hl
  have loop_2 : ∀ (n : Nat) (k : Nat) (msx : Nat → Int32), k ≤ mn → k + n = mn + 1 → FX4_moveSet_l2 mn fr to n k msx = R0 → ∀ (H : Heap) (locs : List Loc), va_P D vwCl [(qm, .inr (5, [.ref m1, .ref m2, .ref m3, .ref m4, .int (nI mn)])), (m1, .inl (cZ, 6, .inl mf)), (m2, .inl (cZ, 6, .inl mp)), (m3, .inl (cI, 6, .inl msx)), (m4, .inl (cI, 6, .inl mu))] H → va_D A [(qm, .inr (5, [.ref m1, .ref m2, .ref m3, .ref m4, .int (nI mn)])), (m1, .inl (cZ, 6, .inl mf)), (m2, .inl (cZ, 6, .inl mp)), (m3, .inl (cI, 6, .inl msx)), (m4, .inl (cI, 6, .inl mu))] → va_S A s.heap H locs → ∀ ls : Array Slot, lv_has ls 4 [(3, .int (nI k)), (0, .ref qm), (1, .int fr), (2, .int to)] → W p l e (headSpec wsX4_moveSet ({ frames := 0, cells := 0, slots := 0, locals := 0 })).room s m ([.ref qm, .int fr, .int to] : List Value).toArray below meth c H locs 0 0 (MQ below (mQ D none [(qm, .inr (5, [.ref m1, .ref m2, .ref m3, .ref m4, .int (nI mn)])), (m1, .inl (cZ, 6, .inl mf)), (m2, .inl (cZ, 6, .inl mp)), (m3, .inl (cI, 6, .inl R0)), (m4, .inl (cI, 6, .inl mu))] A) ([.ref qm, .int fr, .int to] : List Value).toArray s 0 0 A) (F0 m 2 ls []) := by
    intro n
    induction n with
    | zero =>
      intro k msx i_1 i_2
      exact absurd i_1 (by omega)
    | succ n ih =>
      intro k msx i_1 i_2 hE H locs hP hD hS ls hl
      rw [FX4_moveSet_l2] at hE
      refine lv_iload_n hx hb dX4_moveSet_2 rfl (lv_at hl 0 rfl) ?_
      refine lv_aload_n hx hb dX4_moveSet_3 rfl (lv_at hl 1 rfl) ?_
      refine va_get (D := D) (ci := 5) (v := .int (nI mn)) (C := RX4) (T := TX4) (N := 5) hx hb hts iw_5 hown hK hP 0 rfl rfl 4 (by decide) (hts (.fieldLink RX4 25 "DepositCodes$Machines" "size" "I") (by decide +kernel)) (fun _ h9 => h9) rfl dX4_moveSet_4 ?_
      refine lv_icmp_ge (tgt := 33) hx hb dX4_moveSet_7 (by decide) (fun c_1 => ?_) (fun c_1 => ?_)
      · have c_1 : mn ≤ k := (nI_leI (a := mn) (b := k) (by omega) (by omega)).mp c_1
        rw [if_pos c_1] at hE
        subst hE
        exact W.vret hx hb hr (fun t ht hW => ⟨rfl, by rw [ht]; exact hP, hD, hS.F ht⟩) hS.2.2 dX4_moveSet_33
      · have c_1 : ¬ mn ≤ k := fun h9 => c_1 ((nI_leI (a := mn) (b := k) (by omega) (by omega)).mpr h9)
        rw [if_neg c_1] at hE
        refine lv_aload_n hx hb dX4_moveSet_10 rfl (lv_at hl 1 rfl) ?_
        refine va_get (D := D) (ci := 5) (v := .ref m3) (C := RX4) (T := TX4) (N := 5) hx hb hts iw_5 hown hK hP 0 rfl rfl 2 (by decide) (hts (.fieldLink RX4 18 "DepositCodes$Machines" "sets" "[I") (by decide +kernel)) (fun _ h9 => h9) rfl dX4_moveSet_11 ?_
        refine lv_iload_n hx hb dX4_moveSet_14 rfl (lv_at hl 0 rfl) ?_
        refine na_iald hx hb hK hP 3 0 rfl rfl (by omega) (by decide) dX4_moveSet_15 ?_
        refine lv_iload_n hx hb dX4_moveSet_16 rfl (lv_at hl 2 rfl) ?_
        refine lv_icmp_ne (tgt := 27) hx hb dX4_moveSet_17 (by decide) (fun c_2 => ?_) (fun c_2 => ?_)
        · rw [if_neg c_2] at hE
          refine lv_iinc (v := nI (k + 1)) (lv' := [(3, .int (nI (k + 1))), (0, .ref qm), (1, .int fr), (2, .int to)]) hx hb dX4_moveSet_27 hl (k := 0) rfl (nI_1 k) (by decide) rfl (fun ls hl => ?_)
          refine lv_goto (tgt := 2) hx hb dX4_moveSet_30 (by decide) ?_
          exact ih (k + 1) msx (by omega) (by omega) hE _ _ hP hD hS ls (lv_sub hl [0, 1, 2, 3] rfl)
        · rw [if_pos c_2] at hE
          refine lv_aload_n hx hb dX4_moveSet_20 rfl (lv_at hl 1 rfl) ?_
          refine va_get (D := D) (ci := 5) (v := .ref m3) (C := RX4) (T := TX4) (N := 5) hx hb hts iw_5 hown hK hP 0 rfl rfl 2 (by decide) (hts (.fieldLink RX4 18 "DepositCodes$Machines" "sets" "[I") (by decide +kernel)) (fun _ h9 => h9) rfl dX4_moveSet_21 ?_
          refine lv_iload_n hx hb dX4_moveSet_24 rfl (lv_at hl 0 rfl) ?_
          refine lv_iload_n hx hb dX4_moveSet_25 rfl (lv_at hl 3 rfl) ?_
          refine na_iast hx hb hK hP hD hS 3 0 rfl rfl (by omega) (by decide) dX4_moveSet_26 (fun H locs hP hD hS => ?_)
          have hP : va_P D vwCl [(qm, .inr (5, [.ref m1, .ref m2, .ref m3, .ref m4, .int (nI mn)])), (m1, .inl (cZ, 6, .inl mf)), (m2, .inl (cZ, 6, .inl mp)), (m3, .inl (cI, 6, .inl (upd msx k to))), (m4, .inl (cI, 6, .inl mu))] H := hP
          have hD : va_D A [(qm, .inr (5, [.ref m1, .ref m2, .ref m3, .ref m4, .int (nI mn)])), (m1, .inl (cZ, 6, .inl mf)), (m2, .inl (cZ, 6, .inl mp)), (m3, .inl (cI, 6, .inl (upd msx k to))), (m4, .inl (cI, 6, .inl mu))] := hD
          refine lv_iinc (v := nI (k + 1)) (lv' := [(3, .int (nI (k + 1))), (0, .ref qm), (1, .int fr), (2, .int to)]) hx hb dX4_moveSet_27 hl (k := 0) rfl (nI_1 k) (by decide) rfl (fun ls hl => ?_)
          refine lv_goto (tgt := 2) hx hb dX4_moveSet_30 (by decide) ?_
          exact ih (k + 1) (upd msx k to) (by omega) (by omega) hE _ _ hP hD hS ls (lv_sub hl [0, 1, 2, 3] rfl)
  refine lv_iconst (v := 0) hx hb dX4_moveSet_0 (by decide) ?_
  refine lv_istore_n (lv' := [(3, .int 0), (0, .ref qm), (1, .int fr), (2, .int to)]) hx hb dX4_moveSet_1 rfl hl (by decide) rfl (fun ls hl => ?_)
  exact loop_2 (mn + 1) 0 ms (by omega) (by omega) hE _ _ hP hD hS ls (lv_sub hl [0, 1, 2, 3] rfl)
