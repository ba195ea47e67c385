def FX8_isIndex (k : Int32) (n : Int32) : Int32 := if k < 0 then 0 else (if n ≤ k then 0 else 1)
theorem FX8_isIndex_b (k : Int32) (n : Int32) : isB (FX8_isIndex k n) := by
  unfold FX8_isIndex
  repeat' split
  all_goals first | exact isB_0 | exact isB_1
set_option maxHeartbeats 4000000 in
set_option maxRecDepth 100000 in
theorem kX8_isIndex (l : Launch) (D : va_G) (cI cJ cZ : ClassId) (k : Int32) (n : Int32) : Met l yX8_isIndex wsX8_isIndex ({ frames := 0, cells := 0, slots := 0, locals := 0 }) (rP D (tz cI cJ cZ) [.int k, .int n] []) (k2_QcV (.int (FX8_isIndex k n))) 0 0 (fun _ => False) := by
  refine Met.ofW (cc := cX8_isIndex) (maxL := 2) (ret := (some .boolean)) (by decide) rfl ?_
  intro p e s m args below meth c s₁ B hml hv
  obtain ⟨rfl, hP, hK, hN⟩ := hv
  have hx := B.exec
  have hb := B.bytes
  have hr := B.returns
  have hts := atoms_spec (ws := wsX8_isIndex) B.pre
  have hown : s.vm.findClass RX8 = some m.cls := findClass_of_methodNamed B.named
  have hlocks := B.notSynchronized
  generalize hE : FX8_isIndex k n = R0
  rw [FX8_isIndex] at hE
  have hl := lv_entry ([.int k, .int n]) (n := 2) (Nat.le_of_ble_eq_true rfl)
  rw [lg_entry_eq]
  generalize (lg_sl ([.int k, .int n]) ++ List.replicate (2 - (lg_sl ([.int k, .int n])).length) Slot.unset).toArray = ls at hl ⊢
  have hl : lv_has ls 2 [(0, .int k), (1, .int n)] := hl
  refine lv_iload_n hx hb dX8_isIndex_0 rfl (lv_at hl 0 rfl) ?_
  refine lv_if_lt (tgt := 13) hx hb dX8_isIndex_1 (by decide) (fun c_1 => ?_) (fun c_1 => ?_)
  · rw [if_pos c_1] at hE
    refine lv_iconst (v := 0) hx hb dX8_isIndex_13 (by decide) ?_
    exact W.zret hx hb hr narrow_b0 (fun t ht hW => ⟨by rw [← hE], ht⟩) (fun q h => absurd h List.not_mem_nil) dX8_isIndex_14
  · rw [if_neg c_1] at hE
    refine lv_iload_n hx hb dX8_isIndex_4 rfl (lv_at hl 0 rfl) ?_
    refine lv_iload_n hx hb dX8_isIndex_5 rfl (lv_at hl 1 rfl) ?_
    refine lv_icmp_ge (tgt := 13) hx hb dX8_isIndex_6 (by decide) (fun c_2 => ?_) (fun c_2 => ?_)
    · rw [if_pos c_2] at hE
      refine lv_iconst (v := 0) hx hb dX8_isIndex_13 (by decide) ?_
      exact W.zret hx hb hr narrow_b0 (fun t ht hW => ⟨by rw [← hE], ht⟩) (fun q h => absurd h List.not_mem_nil) dX8_isIndex_14
    · rw [if_neg c_2] at hE
      refine lv_iconst (v := 1) hx hb dX8_isIndex_9 (by decide) ?_
      refine lv_goto (tgt := 14) hx hb dX8_isIndex_10 (by decide) ?_
      exact W.zret hx hb hr narrow_b1 (fun t ht hW => ⟨by rw [← hE], ht⟩) (fun q h => absurd h List.not_mem_nil) dX8_isIndex_14
def FX5_isNumber (k : Int64) : Int32 := if (lg_cmp k 0) < 0 then 0 else (if 0 < (lg_cmp k 999999999999999999) then 0 else 1)
theorem FX5_isNumber_b (k : Int64) : isB (FX5_isNumber k) := by
  unfold FX5_isNumber
  repeat' split
  all_goals first | exact isB_0 | exact isB_1
set_option maxHeartbeats 4000000 in
set_option maxRecDepth 100000 in
theorem kX5_isNumber (l : Launch) (D : va_G) (cI cJ cZ : ClassId) (k : Int64) : Met l yX5_isNumber wsX5_isNumber ({ frames := 0, cells := 0, slots := 0, locals := 0 }) (rP D (tz cI cJ cZ) [.long k] []) (k2_QcV (.int (FX5_isNumber k))) 0 0 (fun _ => False) := by
  refine Met.ofW (cc := cX5_isNumber) (maxL := 2) (ret := (some .boolean)) (by decide) rfl ?_
  intro p e s m args below meth c s₁ B hml hv
  obtain ⟨rfl, hP, hK, hN⟩ := hv
  have hx := B.exec
  have hb := B.bytes
  have hr := B.returns
  have hts := atoms_spec (ws := wsX5_isNumber) B.pre
  have hown : s.vm.findClass RX5 = some m.cls := findClass_of_methodNamed B.named
  have hlocks := B.notSynchronized
  generalize hE : FX5_isNumber k = R0
  rw [FX5_isNumber] at hE
  have hl := lv_entry ([.long k]) (n := 2) (Nat.le_of_ble_eq_true rfl)
  rw [lg_entry_eq]
  generalize (lg_sl ([.long k]) ++ List.replicate (2 - (lg_sl ([.long k])).length) Slot.unset).toArray = ls at hl ⊢
  have hl : lv_has ls 2 [(0, .long k)] := hl
  refine lv_lload_n hx hb dX5_isNumber_0 rfl (lv_at hl 0 rfl) ?_
  refine lv_lconst (v := 0) hx hb dX5_isNumber_1 (by decide) ?_
  refine W.lcmp hx hb dX5_isNumber_2 ?_
  refine lv_if_lt (tgt := 18) hx hb dX5_isNumber_3 (by decide) (fun c_1 => ?_) (fun c_1 => ?_)
  · rw [if_pos c_1] at hE
    refine lv_iconst (v := 0) hx hb dX5_isNumber_18 (by decide) ?_
    exact W.zret hx hb hr narrow_b0 (fun t ht hW => ⟨by rw [← hE], ht⟩) (fun q h => absurd h List.not_mem_nil) dX5_isNumber_19
  · rw [if_neg c_1] at hE
    refine lv_lload_n hx hb dX5_isNumber_6 rfl (lv_at hl 0 rfl) ?_
    refine lv_ldc2 hx hb hown (hts (.constantLong RX5 11 999999999999999999) (by decide +kernel)) dX5_isNumber_7 ?_
    refine W.lcmp hx hb dX5_isNumber_10 ?_
    refine lv_if_gt (tgt := 18) hx hb dX5_isNumber_11 (by decide) (fun c_2 => ?_) (fun c_2 => ?_)
    · rw [if_pos c_2] at hE
      refine lv_iconst (v := 0) hx hb dX5_isNumber_18 (by decide) ?_
      exact W.zret hx hb hr narrow_b0 (fun t ht hW => ⟨by rw [← hE], ht⟩) (fun q h => absurd h List.not_mem_nil) dX5_isNumber_19
    · rw [if_neg c_2] at hE
      refine lv_iconst (v := 1) hx hb dX5_isNumber_14 (by decide) ?_
      refine lv_goto (tgt := 19) hx hb dX5_isNumber_15 (by decide) ?_
      exact W.zret hx hb hr narrow_b1 (fun t ht hW => ⟨by rw [← hE], ht⟩) (fun q h => absurd h List.not_mem_nil) dX5_isNumber_19
def FX5_isKind (k : Int32) : Int32 := FX8_isIndex k 2
theorem FX5_isKind_b (k : Int32) : isB (FX5_isKind k) := by
  unfold FX5_isKind
  repeat' split
  all_goals first | exact isB_0 | exact isB_1 | exact FX8_isIndex_b _ _
set_option maxHeartbeats 4000000 in
set_option maxRecDepth 100000 in
theorem kX5_isKind (l : Launch) (D : va_G) (cI cJ cZ : ClassId) (k : Int32) : Met l yX5_isKind wsX5_isKind ({ frames := 1, cells := 0, slots := 0, locals := 21 }) (rP D (tz cI cJ cZ) [.int k] []) (k2_QcV (.int (FX5_isKind k))) 0 0 (fun _ => False) := by
  refine Met.ofW (cc := cX5_isKind) (maxL := 1) (ret := (some .boolean)) (by decide) rfl ?_
  intro p e s m args below meth c s₁ B hml hv
  obtain ⟨rfl, hP, hK, hN⟩ := hv
  have hx := B.exec
  have hb := B.bytes
  have hr := B.returns
  have hts := atoms_spec (ws := wsX5_isKind) B.pre
  have hown : s.vm.findClass RX5 = some m.cls := findClass_of_methodNamed B.named
  have hlocks := B.notSynchronized
  generalize hE : FX5_isKind k = R0
  rw [FX5_isKind] at hE
  have hl := lv_entry ([.int k]) (n := 1) (Nat.le_of_ble_eq_true rfl)
  rw [lg_entry_eq]
  generalize (lg_sl ([.int k]) ++ List.replicate (1 - (lg_sl ([.int k])).length) Slot.unset).toArray = ls at hl ⊢
  have hl : lv_has ls 1 [(0, .int k)] := hl
  refine lv_iload_n hx hb dX5_isKind_0 rfl (lv_at hl 0 rfl) ?_
  refine lv_iconst (v := 2) hx hb dX5_isKind_1 (by decide) ?_
  refine rd_call (va_runSN (As := [.int k, .int 2]) (rest := []) ⟨hx, hb, hml, hown, hts⟩ (kX8_isIndex l D cI cJ cZ k 2) ⟨va_cnB 2 hts gX5_isKind_X8_isIndex_n13 rfl rfl rfl hN.2.2.2.2.2.1 (hts (.initialized RX8) (by decide +kernel)) (by decide +kernel) ⟨Nat.le_of_ble_eq_true rfl, Nat.le_of_ble_eq_true rfl⟩, hts (.static yX8_isIndex) (by decide +kernel), trivial⟩ ⟨rP_blind, rP_pre (va_P_nil) hK hN⟩ rfl rfl hl.1 rfl (lv_room (Nat.le_of_ble_eq_true rfl)) dX5_isKind_2 ⟨Nat.zero_le _, Nat.zero_le _⟩) ?_
  exact W.zret hx hb hr (isB_nar (FX8_isIndex_b _ _)) (fun t ht hW => ⟨by rw [← hE], ht⟩) (fun q h => absurd h List.not_mem_nil) dX5_isKind_5
def FX5_weighed (k : Int32) (d : Int32) : Int32 := if k = 0 then 3 * d else (if (2 * d) ≤ 9 then 2 * d else (2 * d) - 9)
set_option maxHeartbeats 4000000 in
set_option maxRecDepth 100000 in
theorem kX5_weighed (l : Launch) (D : va_G) (cI cJ cZ : ClassId) (k : Int32) (d : Int32) : Met l yX5_weighed wsX5_weighed ({ frames := 0, cells := 0, slots := 0, locals := 0 }) (rP D (tz cI cJ cZ) [.int k, .int d] []) (k2_QcV (.int (FX5_weighed k d))) 0 0 (fun _ => False) := by
  refine Met.ofW (cc := cX5_weighed) (maxL := 2) (ret := (some .int)) (by decide) rfl ?_
  intro p e s m args below meth c s₁ B hml hv
  obtain ⟨rfl, hP, hK, hN⟩ := hv
  have hx := B.exec
  have hb := B.bytes
  have hr := B.returns
  have hts := atoms_spec (ws := wsX5_weighed) B.pre
  have hown : s.vm.findClass RX5 = some m.cls := findClass_of_methodNamed B.named
  have hlocks := B.notSynchronized
  generalize hE : FX5_weighed k d = R0
  rw [FX5_weighed] at hE
  have hl := lv_entry ([.int k, .int d]) (n := 2) (Nat.le_of_ble_eq_true rfl)
  rw [lg_entry_eq]
  generalize (lg_sl ([.int k, .int d]) ++ List.replicate (2 - (lg_sl ([.int k, .int d])).length) Slot.unset).toArray = ls at hl ⊢
  have hl : lv_has ls 2 [(0, .int k), (1, .int d)] := hl
  refine lv_iload_n hx hb dX5_weighed_0 rfl (lv_at hl 0 rfl) ?_
  refine lv_if_ne (tgt := 8) hx hb dX5_weighed_1 (by decide) (fun c_1 => ?_) (fun c_1 => ?_)
  · rw [if_neg c_1] at hE
    refine lv_iconst (v := 2) hx hb dX5_weighed_8 (by decide) ?_
    refine lv_iload_n hx hb dX5_weighed_9 rfl (lv_at hl 1 rfl) ?_
    refine lv_imul hx hb dX5_weighed_10 ?_
    refine lv_bipush (v := 9) hx hb dX5_weighed_11 (by decide) ?_
    refine lv_icmp_le (tgt := 25) hx hb dX5_weighed_13 (by decide) (fun c_2 => ?_) (fun c_2 => ?_)
    · rw [if_pos c_2] at hE
      refine lv_iconst (v := 2) hx hb dX5_weighed_25 (by decide) ?_
      refine lv_iload_n hx hb dX5_weighed_26 rfl (lv_at hl 1 rfl) ?_
      refine lv_imul hx hb dX5_weighed_27 ?_
      exact W.iret hx hb hr (fun t ht hW => ⟨by rw [← hE], ht⟩) (fun q h => absurd h List.not_mem_nil) dX5_weighed_28
    · rw [if_neg c_2] at hE
      refine lv_iconst (v := 2) hx hb dX5_weighed_16 (by decide) ?_
      refine lv_iload_n hx hb dX5_weighed_17 rfl (lv_at hl 1 rfl) ?_
      refine lv_imul hx hb dX5_weighed_18 ?_
      refine lv_bipush (v := 9) hx hb dX5_weighed_19 (by decide) ?_
      refine lv_isub hx hb dX5_weighed_21 ?_
      refine lv_goto (tgt := 28) hx hb dX5_weighed_22 (by decide) ?_
      exact W.iret hx hb hr (fun t ht hW => ⟨by rw [← hE], ht⟩) (fun q h => absurd h List.not_mem_nil) dX5_weighed_28
  · rw [if_pos c_1] at hE
    refine lv_iconst (v := 3) hx hb dX5_weighed_4 (by decide) ?_
    refine lv_iload_n hx hb dX5_weighed_5 rfl (lv_at hl 1 rfl) ?_
    refine lv_imul hx hb dX5_weighed_6 ?_
    exact W.iret hx hb hr (fun t ht hW => ⟨by rw [← hE], ht⟩) (fun q h => absurd h List.not_mem_nil) dX5_weighed_7
def FX5_systemOfSerial (k : Int64) : Int32 := (((k / 10) - (k / 10) / 10 * 10) - ((k / 10) - (k / 10) / 10 * 10) / 3 * 3).toInt32
set_option maxHeartbeats 4000000 in
set_option maxRecDepth 100000 in
theorem kX5_systemOfSerial (l : Launch) (D : va_G) (cI cJ cZ : ClassId) (k : Int64) : Met l yX5_systemOfSerial wsX5_systemOfSerial ({ frames := 0, cells := 0, slots := 0, locals := 0 }) (rP D (tz cI cJ cZ) [.long k] []) (k2_QcV (.int (FX5_systemOfSerial k))) 0 0 (fun _ => False) := by
  refine Met.ofW (cc := cX5_systemOfSerial) (maxL := 2) (ret := (some .int)) (by decide) rfl ?_
  intro p e s m args below meth c s₁ B hml hv
  obtain ⟨rfl, hP, hK, hN⟩ := hv
  have hx := B.exec
  have hb := B.bytes
  have hr := B.returns
  have hts := atoms_spec (ws := wsX5_systemOfSerial) B.pre
  have hown : s.vm.findClass RX5 = some m.cls := findClass_of_methodNamed B.named
  have hlocks := B.notSynchronized
  generalize hE : FX5_systemOfSerial k = R0
  rw [FX5_systemOfSerial] at hE
  have hl := lv_entry ([.long k]) (n := 2) (Nat.le_of_ble_eq_true rfl)
  rw [lg_entry_eq]
  generalize (lg_sl ([.long k]) ++ List.replicate (2 - (lg_sl ([.long k])).length) Slot.unset).toArray = ls at hl ⊢
  have hl : lv_has ls 2 [(0, .long k)] := hl
  refine lv_lload_n hx hb dX5_systemOfSerial_0 rfl (lv_at hl 0 rfl) ?_
  refine lv_ldc2 hx hb hown (hts (.constantLong RX5 17 10) (by decide +kernel)) dX5_systemOfSerial_1 ?_
  refine lv_ldiv hx hb dX5_systemOfSerial_4 (by decide) ?_
  refine lv_ldc2 hx hb hown (hts (.constantLong RX5 17 10) (by decide +kernel)) dX5_systemOfSerial_5 ?_
  refine lv_lrem hx hb dX5_systemOfSerial_8 (by decide) ?_
  refine lv_ldc2 hx hb hown (hts (.constantLong RX5 31 3) (by decide +kernel)) dX5_systemOfSerial_9 ?_
  refine lv_lrem hx hb dX5_systemOfSerial_12 (by decide) ?_
  refine lv_l2i hx hb dX5_systemOfSerial_13 rfl ?_
  exact W.iret hx hb hr (fun t ht hW => ⟨by rw [← hE], ht⟩) (fun q h => absurd h List.not_mem_nil) dX5_systemOfSerial_14
theorem isIx_in {k : Int32} {n N : Nat} (h : ¬ FX8_isIndex k (nI n) = 0) (hn : n ≤ N) (hN : N < 2 ^ 31) : vp_in k N := by
  unfold FX8_isIndex at h
  by_cases h1 : k < 0
  · rw [if_pos h1] at h; exact absurd rfl h
  · rw [if_neg h1] at h
    by_cases h2 : nI n ≤ k
    · rw [if_pos h2] at h; exact absurd rfl h
    · rcases pk_ix k (n := n) (by omega) with a | a | ⟨j, hj, rfl⟩
      · exact absurd a h1
      · exact absurd a h2
      · exact vp_in_nI (by omega) hN
theorem isIx_lt {k : Int32} {n : Nat} (h : ¬ FX8_isIndex k (nI n) = 0) (hn : n < 2 ^ 31) : ∃ j : Nat, j < n ∧ k = nI j := by
  obtain ⟨j, hj, rfl⟩ := vp_in_of (isIx_in h (Nat.le_refl n) hn) hn
  exact ⟨j, hj, rfl⟩
