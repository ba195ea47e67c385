def FX6_areAtLimit (yn : Nat) : Int32 := if yn < 200 then 0 else 1
theorem FX6_areAtLimit_b (yn : Nat) : isB (FX6_areAtLimit yn) := by
  unfold FX6_areAtLimit
  repeat' split
  all_goals first | exact isB_0 | exact isB_1
set_option maxHeartbeats 4000000 in
set_option maxRecDepth 100000 in
theorem kX6_areAtLimit (l : Launch) (D : va_G) (cI cJ cZ : ClassId) (qy : Nat) (y1 : Nat) (y2 : Nat) (y3 : Nat) (y4 : Nat) (y5 : Nat) (y6 : Nat) (ys : Nat → Int64) (yp : Nat → Int32) (yt : Nat → Int32) (yh : Nat → Int32) (ym : Nat → Int32) (yr : Nat → Int32) (yn : Nat) (hyn : yn ≤ 200) : Met l yX6_areAtLimit wsX6_areAtLimit ({ frames := 0, cells := 0, slots := 0, locals := 0 }) (rP D (tz cI cJ cZ) [.ref qy] [(qy, .inr (6, [.ref y1, .ref y2, .ref y3, .ref y4, .ref y5, .ref y6, .int (nI yn)])), (y1, .inl (cJ, 200, .inr (.inl ys))), (y2, .inl (cI, 200, .inl yp)), (y3, .inl (cI, 200, .inl yt)), (y4, .inl (cI, 200, .inl yh)), (y5, .inl (cI, 200, .inl ym)), (y6, .inl (cI, 200, .inl yr))]) (k2_QcV (.int (FX6_areAtLimit yn))) 0 0 (fun _ => False) := by
  refine Met.ofW (cc := cX6_areAtLimit) (maxL := 1) (ret := (some .boolean)) (by decide) rfl ?_
  intro p e s m args below meth c s₁ B hml hv
  obtain ⟨rfl, hP, hK, hN⟩ := hv
  have hx := B.exec
  have hb := B.bytes
  have hr := B.returns
  have hts := atoms_spec (ws := wsX6_areAtLimit) B.pre
  have hown : s.vm.findClass RX6 = some m.cls := findClass_of_methodNamed B.named
  have hlocks := B.notSynchronized
  have iw_6 : ∀ w ∈ u_ws RX6 TX6 7, w ∈ wsX6_areAtLimit := by decide +kernel
  generalize hE : FX6_areAtLimit yn = R0
  rw [FX6_areAtLimit] at hE
  have hl := lv_entry ([.ref qy]) (n := 1) (Nat.le_of_ble_eq_true rfl)
  rw [lg_entry_eq]
  generalize (lg_sl ([.ref qy]) ++ List.replicate (1 - (lg_sl ([.ref qy])).length) Slot.unset).toArray = ls at hl ⊢
  have hl : lv_has ls 1 [(0, .ref qy)] := hl
  refine lv_aload_n hx hb dX6_areAtLimit_0 rfl (lv_at hl 0 rfl) ?_
  refine va_get (D := D) (ci := 6) (v := .int (nI yn)) (C := RX6) (T := TX6) (N := 7) hx hb hts iw_6 hown hK hP 0 rfl rfl 6 (by decide) (hts (.fieldLink RX6 31 "DepositCodes$Payments" "size" "I") (by decide +kernel)) (fun _ h9 => h9) rfl dX6_areAtLimit_1 ?_
  refine lv_sipush (v := 200) hx hb dX6_areAtLimit_4 (by decide) ?_
  refine lv_icmp_lt (tgt := 14) hx hb dX6_areAtLimit_7 (by decide) (fun c_1 => ?_) (fun c_1 => ?_)
  · have c_1 : yn < 200 := (nI_ltI (a := yn) (b := 200) (by omega) (by omega)).mp c_1
    rw [if_pos c_1] at hE
    refine lv_iconst (v := 0) hx hb dX6_areAtLimit_14 (by decide) ?_
    exact W.zret hx hb hr narrow_b0 (fun t ht hW => ⟨by rw [← hE], ht⟩) (fun q h => absurd h List.not_mem_nil) dX6_areAtLimit_15
  · have c_1 : ¬ yn < 200 := fun h9 => c_1 ((nI_ltI (a := yn) (b := 200) (by omega) (by omega)).mpr h9)
    rw [if_neg c_1] at hE
    refine lv_iconst (v := 1) hx hb dX6_areAtLimit_10 (by decide) ?_
    refine lv_goto (tgt := 15) hx hb dX6_areAtLimit_11 (by decide) ?_
    exact W.zret hx hb hr narrow_b1 (fun t ht hW => ⟨by rw [← hE], ht⟩) (fun q h => absurd h List.not_mem_nil) dX6_areAtLimit_15
def FX6_size (yn : Nat) : Nat := yn
set_option maxHeartbeats 4000000 in
set_option maxRecDepth 100000 in
theorem kX6_size (l : Launch) (D : va_G) (cI cJ cZ : ClassId) (qy : Nat) (y1 : Nat) (y2 : Nat) (y3 : Nat) (y4 : Nat) (y5 : Nat) (y6 : Nat) (ys : Nat → Int64) (yp : Nat → Int32) (yt : Nat → Int32) (yh : Nat → Int32) (ym : Nat → Int32) (yr : Nat → Int32) (yn : Nat) : Met l yX6_size wsX6_size ({ frames := 0, cells := 0, slots := 0, locals := 0 }) (rP D (tz cI cJ cZ) [.ref qy] [(qy, .inr (6, [.ref y1, .ref y2, .ref y3, .ref y4, .ref y5, .ref y6, .int (nI yn)])), (y1, .inl (cJ, 200, .inr (.inl ys))), (y2, .inl (cI, 200, .inl yp)), (y3, .inl (cI, 200, .inl yt)), (y4, .inl (cI, 200, .inl yh)), (y5, .inl (cI, 200, .inl ym)), (y6, .inl (cI, 200, .inl yr))]) (k2_QcV (.int (nI yn))) 0 0 (fun _ => False) := by
  refine Met.ofW (cc := cX6_size) (maxL := 1) (ret := (some .int)) (by decide) rfl ?_
  intro p e s m args below meth c s₁ B hml hv
  obtain ⟨rfl, hP, hK, hN⟩ := hv
  have hx := B.exec
  have hb := B.bytes
  have hr := B.returns
  have hts := atoms_spec (ws := wsX6_size) B.pre
  have hown : s.vm.findClass RX6 = some m.cls := findClass_of_methodNamed B.named
  have hlocks := B.notSynchronized
  have iw_6 : ∀ w ∈ u_ws RX6 TX6 7, w ∈ wsX6_size := by decide +kernel
  generalize hE : yn = R0
  skip
  have hl := lv_entry ([.ref qy]) (n := 1) (Nat.le_of_ble_eq_true rfl)
  rw [lg_entry_eq]
  generalize (lg_sl ([.ref qy]) ++ List.replicate (1 - (lg_sl ([.ref qy])).length) Slot.unset).toArray = ls at hl ⊢
  have hl : lv_has ls 1 [(0, .ref qy)] := hl
  refine lv_aload_n hx hb dX6_size_0 rfl (lv_at hl 0 rfl) ?_
  refine va_get (D := D) (ci := 6) (v := .int (nI yn)) (C := RX6) (T := TX6) (N := 7) hx hb hts iw_6 hown hK hP 0 rfl rfl 6 (by decide) (hts (.fieldLink RX6 31 "DepositCodes$Payments" "size" "I") (by decide +kernel)) (fun _ h9 => h9) rfl dX6_size_1 ?_
  exact W.iret (v := nI yn) hx hb hr (fun t ht hW => ⟨by rw [← hE], ht⟩) (fun q h => absurd h List.not_mem_nil) dX6_size_4
def FX6_serialOf (ys : Nat → Int64) (yn : Nat) (k : Int32) : Int64 := if (FX8_isIndex k (nI yn)) = 0 then (-1) else ys k.toNatClampNeg
set_option maxHeartbeats 4000000 in
set_option maxRecDepth 100000 in
theorem kX6_serialOf (l : Launch) (D : va_G) (cI cJ cZ : ClassId) (qy : Nat) (y1 : Nat) (y2 : Nat) (y3 : Nat) (y4 : Nat) (y5 : Nat) (y6 : Nat) (ys : Nat → Int64) (yp : Nat → Int32) (yt : Nat → Int32) (yh : Nat → Int32) (ym : Nat → Int32) (yr : Nat → Int32) (yn : Nat) (k : Int32) (hyn : yn ≤ 200) : Met l yX6_serialOf wsX6_serialOf ({ frames := 1, cells := 0, slots := 0, locals := 21 }) (rP D (tz cI cJ cZ) [.ref qy, .int k] [(qy, .inr (6, [.ref y1, .ref y2, .ref y3, .ref y4, .ref y5, .ref y6, .int (nI yn)])), (y1, .inl (cJ, 200, .inr (.inl ys))), (y2, .inl (cI, 200, .inl yp)), (y3, .inl (cI, 200, .inl yt)), (y4, .inl (cI, 200, .inl yh)), (y5, .inl (cI, 200, .inl ym)), (y6, .inl (cI, 200, .inl yr))]) (k2_QcV (.long (FX6_serialOf ys yn k))) 0 0 (fun _ => False) := by
  refine Met.ofW (cc := cX6_serialOf) (maxL := 2) (ret := (some .long)) (by decide) rfl ?_
  intro p e s m args below meth c s₁ B hml hv
  obtain ⟨rfl, hP, hK, hN⟩ := hv
  have hx := B.exec
  have hb := B.bytes
  have hr := B.returns
  have hts := atoms_spec (ws := wsX6_serialOf) B.pre
  have hown : s.vm.findClass RX6 = some m.cls := findClass_of_methodNamed B.named
  have hlocks := B.notSynchronized
  have iw_6 : ∀ w ∈ u_ws RX6 TX6 7, w ∈ wsX6_serialOf := by decide +kernel
  generalize hE : FX6_serialOf ys yn k = R0
  rw [FX6_serialOf] at hE
  have hl := lv_entry ([.ref qy, .int k]) (n := 2) (Nat.le_of_ble_eq_true rfl)
  rw [lg_entry_eq]
  generalize (lg_sl ([.ref qy, .int k]) ++ List.replicate (2 - (lg_sl ([.ref qy, .int k])).length) Slot.unset).toArray = ls at hl ⊢
  have hl : lv_has ls 2 [(0, .ref qy), (1, .int k)] := hl
  refine lv_iload_n hx hb dX6_serialOf_0 rfl (lv_at hl 1 rfl) ?_
  refine lv_aload_n hx hb dX6_serialOf_1 rfl (lv_at hl 0 rfl) ?_
  refine va_get (D := D) (ci := 6) (v := .int (nI yn)) (C := RX6) (T := TX6) (N := 7) hx hb hts iw_6 hown hK hP 0 rfl rfl 6 (by decide) (hts (.fieldLink RX6 31 "DepositCodes$Payments" "size" "I") (by decide +kernel)) (fun _ h9 => h9) rfl dX6_serialOf_2 ?_
  refine rd_call (va_runSN (As := [.int k, .int (nI yn)]) (rest := []) ⟨hx, hb, hml, hown, hts⟩ (kX8_isIndex l D cI cJ cZ k (nI yn)) ⟨va_cnB 2 hts gX6_serialOf_X8_isIndex_n35 rfl rfl rfl hN.2.2.2.2.2.2.1 (hts (.initialized RX8) (by decide +kernel)) (by decide +kernel) ⟨Nat.le_of_ble_eq_true rfl, Nat.le_of_ble_eq_true rfl⟩, hts (.static yX8_isIndex) (by decide +kernel), trivial⟩ ⟨rP_blind, rP_pre (va_P_nil) hK hN⟩ rfl rfl hl.1 rfl (lv_room (Nat.le_of_ble_eq_true rfl)) dX6_serialOf_5 ⟨Nat.zero_le _, Nat.zero_le _⟩) ?_
  refine lv_if_eq (tgt := 20) hx hb dX6_serialOf_8 (by decide) (fun c_1 => ?_) (fun c_1 => ?_)
  · rw [if_pos c_1] at hE
    refine lv_ldc2 hx hb hown (hts (.constantLong RX6 39 (-1)) (by decide +kernel)) dX6_serialOf_20 ?_
    exact W.lret hx hb hr (fun t ht hW => ⟨by rw [← hE], ht⟩) (fun q h => absurd h List.not_mem_nil) dX6_serialOf_23
  · rw [if_neg c_1] at hE
    have hin : vp_in k 200 := isIx_in (k := k) (n := yn) (by assumption) hyn (by decide)
    refine lv_aload_n hx hb dX6_serialOf_11 rfl (lv_at hl 0 rfl) ?_
    refine va_get (D := D) (ci := 6) (v := .ref y1) (C := RX6) (T := TX6) (N := 7) hx hb hts iw_6 hown hK hP 0 rfl rfl 0 (by decide) (hts (.fieldLink RX6 11 "DepositCodes$Payments" "serials" "[J") (by decide +kernel)) (fun _ h9 => h9) rfl dX6_serialOf_12 ?_
    refine lv_iload_n hx hb dX6_serialOf_15 rfl (lv_at hl 1 rfl) ?_
    refine va_lald hx hb hK hP 1 1 rfl rfl (by assumption) dX6_serialOf_16 ?_
    refine lv_goto (tgt := 23) hx hb dX6_serialOf_17 (by decide) ?_
    exact W.lret hx hb hr (fun t ht hW => ⟨by rw [← hE], ht⟩) (fun q h => absurd h List.not_mem_nil) dX6_serialOf_23
def FX6_payerOf (yp : Nat → Int32) (yn : Nat) (k : Int32) : Int32 := if (FX8_isIndex k (nI yn)) = 0 then (-1) else yp k.toNatClampNeg
set_option maxHeartbeats 4000000 in
set_option maxRecDepth 100000 in
theorem kX6_payerOf (l : Launch) (D : va_G) (cI cJ cZ : ClassId) (qy : Nat) (y1 : Nat) (y2 : Nat) (y3 : Nat) (y4 : Nat) (y5 : Nat) (y6 : Nat) (ys : Nat → Int64) (yp : Nat → Int32) (yt : Nat → Int32) (yh : Nat → Int32) (ym : Nat → Int32) (yr : Nat → Int32) (yn : Nat) (k : Int32) (hyn : yn ≤ 200) : Met l yX6_payerOf wsX6_payerOf ({ frames := 1, cells := 0, slots := 0, locals := 21 }) (rP D (tz cI cJ cZ) [.ref qy, .int k] [(qy, .inr (6, [.ref y1, .ref y2, .ref y3, .ref y4, .ref y5, .ref y6, .int (nI yn)])), (y1, .inl (cJ, 200, .inr (.inl ys))), (y2, .inl (cI, 200, .inl yp)), (y3, .inl (cI, 200, .inl yt)), (y4, .inl (cI, 200, .inl yh)), (y5, .inl (cI, 200, .inl ym)), (y6, .inl (cI, 200, .inl yr))]) (k2_QcV (.int (FX6_payerOf yp yn k))) 0 0 (fun _ => False) := by
  refine Met.ofW (cc := cX6_payerOf) (maxL := 2) (ret := (some .int)) (by decide) rfl ?_
  intro p e s m args below meth c s₁ B hml hv
  obtain ⟨rfl, hP, hK, hN⟩ := hv
  have hx := B.exec
  have hb := B.bytes
  have hr := B.returns
  have hts := atoms_spec (ws := wsX6_payerOf) B.pre
  have hown : s.vm.findClass RX6 = some m.cls := findClass_of_methodNamed B.named
  have hlocks := B.notSynchronized
  have iw_6 : ∀ w ∈ u_ws RX6 TX6 7, w ∈ wsX6_payerOf := by decide +kernel
  generalize hE : FX6_payerOf yp yn k = R0
  rw [FX6_payerOf] at hE
  have hl := lv_entry ([.ref qy, .int k]) (n := 2) (Nat.le_of_ble_eq_true rfl)
  rw [lg_entry_eq]
  generalize (lg_sl ([.ref qy, .int k]) ++ List.replicate (2 - (lg_sl ([.ref qy, .int k])).length) Slot.unset).toArray = ls at hl ⊢
  have hl : lv_has ls 2 [(0, .ref qy), (1, .int k)] := hl
  refine lv_iload_n hx hb dX6_payerOf_0 rfl (lv_at hl 1 rfl) ?_
  refine lv_aload_n hx hb dX6_payerOf_1 rfl (lv_at hl 0 rfl) ?_
  refine va_get (D := D) (ci := 6) (v := .int (nI yn)) (C := RX6) (T := TX6) (N := 7) hx hb hts iw_6 hown hK hP 0 rfl rfl 6 (by decide) (hts (.fieldLink RX6 31 "DepositCodes$Payments" "size" "I") (by decide +kernel)) (fun _ h9 => h9) rfl dX6_payerOf_2 ?_
  refine rd_call (va_runSN (As := [.int k, .int (nI yn)]) (rest := []) ⟨hx, hb, hml, hown, hts⟩ (kX8_isIndex l D cI cJ cZ k (nI yn)) ⟨va_cnB 2 hts gX6_payerOf_X8_isIndex_n35 rfl rfl rfl hN.2.2.2.2.2.2.1 (hts (.initialized RX8) (by decide +kernel)) (by decide +kernel) ⟨Nat.le_of_ble_eq_true rfl, Nat.le_of_ble_eq_true rfl⟩, hts (.static yX8_isIndex) (by decide +kernel), trivial⟩ ⟨rP_blind, rP_pre (va_P_nil) hK hN⟩ rfl rfl hl.1 rfl (lv_room (Nat.le_of_ble_eq_true rfl)) dX6_payerOf_5 ⟨Nat.zero_le _, Nat.zero_le _⟩) ?_
  refine lv_if_eq (tgt := 20) hx hb dX6_payerOf_8 (by decide) (fun c_1 => ?_) (fun c_1 => ?_)
  · rw [if_pos c_1] at hE
    refine lv_iconst (v := (-1)) hx hb dX6_payerOf_20 (by decide) ?_
    exact W.iret hx hb hr (fun t ht hW => ⟨by rw [← hE], ht⟩) (fun q h => absurd h List.not_mem_nil) dX6_payerOf_21
  · rw [if_neg c_1] at hE
    have hin : vp_in k 200 := isIx_in (k := k) (n := yn) (by assumption) hyn (by decide)
    refine lv_aload_n hx hb dX6_payerOf_11 rfl (lv_at hl 0 rfl) ?_
    refine va_get (D := D) (ci := 6) (v := .ref y2) (C := RX6) (T := TX6) (N := 7) hx hb hts iw_6 hown hK hP 0 rfl rfl 1 (by decide) (hts (.fieldLink RX6 15 "DepositCodes$Payments" "payers" "[I") (by decide +kernel)) (fun _ h9 => h9) rfl dX6_payerOf_12 ?_
    refine lv_iload_n hx hb dX6_payerOf_15 rfl (lv_at hl 1 rfl) ?_
    refine va_iald hx hb hK hP 2 0 rfl rfl (by assumption) dX6_payerOf_16 ?_
    refine lv_goto (tgt := 21) hx hb dX6_payerOf_17 (by decide) ?_
    exact W.iret hx hb hr (fun t ht hW => ⟨by rw [← hE], ht⟩) (fun q h => absurd h List.not_mem_nil) dX6_payerOf_21
def FX6_isOf (yt : Nat → Int32) (yn : Nat) (k : Int32) (st : Int32) : Int32 := if (FX8_isIndex k (nI yn)) = 0 then 0 else (if (yt k.toNatClampNeg) = st then 1 else 0)
theorem FX6_isOf_b (yt : Nat → Int32) (yn : Nat) (k : Int32) (st : Int32) : isB (FX6_isOf yt yn k st) := by
  unfold FX6_isOf
  repeat' split
  all_goals first | exact isB_0 | exact isB_1
set_option maxHeartbeats 4000000 in
set_option maxRecDepth 100000 in
theorem kX6_isOf (l : Launch) (D : va_G) (cI cJ cZ : ClassId) (qy : Nat) (y1 : Nat) (y2 : Nat) (y3 : Nat) (y4 : Nat) (y5 : Nat) (y6 : Nat) (ys : Nat → Int64) (yp : Nat → Int32) (yt : Nat → Int32) (yh : Nat → Int32) (ym : Nat → Int32) (yr : Nat → Int32) (yn : Nat) (k : Int32) (st : Int32) (hyn : yn ≤ 200) : Met l yX6_isOf wsX6_isOf ({ frames := 1, cells := 0, slots := 0, locals := 21 }) (rP D (tz cI cJ cZ) [.ref qy, .int k, .int st] [(qy, .inr (6, [.ref y1, .ref y2, .ref y3, .ref y4, .ref y5, .ref y6, .int (nI yn)])), (y1, .inl (cJ, 200, .inr (.inl ys))), (y2, .inl (cI, 200, .inl yp)), (y3, .inl (cI, 200, .inl yt)), (y4, .inl (cI, 200, .inl yh)), (y5, .inl (cI, 200, .inl ym)), (y6, .inl (cI, 200, .inl yr))]) (k2_QcV (.int (FX6_isOf yt yn k st))) 0 0 (fun _ => False) := by
  refine Met.ofW (cc := cX6_isOf) (maxL := 3) (ret := (some .boolean)) (by decide) rfl ?_
  intro p e s m args below meth c s₁ B hml hv
  obtain ⟨rfl, hP, hK, hN⟩ := hv
  have hx := B.exec
  have hb := B.bytes
  have hr := B.returns
  have hts := atoms_spec (ws := wsX6_isOf) B.pre
  have hown : s.vm.findClass RX6 = some m.cls := findClass_of_methodNamed B.named
  have hlocks := B.notSynchronized
  have iw_6 : ∀ w ∈ u_ws RX6 TX6 7, w ∈ wsX6_isOf := by decide +kernel
  generalize hE : FX6_isOf yt yn k st = R0
  rw [FX6_isOf] at hE
  have hl := lv_entry ([.ref qy, .int k, .int st]) (n := 3) (Nat.le_of_ble_eq_true rfl)
  rw [lg_entry_eq]
  generalize (lg_sl ([.ref qy, .int k, .int st]) ++ List.replicate (3 - (lg_sl ([.ref qy, .int k, .int st])).length) Slot.unset).toArray = ls at hl ⊢
  have hl : lv_has ls 3 [(0, .ref qy), (1, .int k), (2, .int st)] := hl
  refine lv_iload_n hx hb dX6_isOf_0 rfl (lv_at hl 1 rfl) ?_
  refine lv_aload_n hx hb dX6_isOf_1 rfl (lv_at hl 0 rfl) ?_
  refine va_get (D := D) (ci := 6) (v := .int (nI yn)) (C := RX6) (T := TX6) (N := 7) hx hb hts iw_6 hown hK hP 0 rfl rfl 6 (by decide) (hts (.fieldLink RX6 31 "DepositCodes$Payments" "size" "I") (by decide +kernel)) (fun _ h9 => h9) rfl dX6_isOf_2 ?_
  refine rd_call (va_runSN (As := [.int k, .int (nI yn)]) (rest := []) ⟨hx, hb, hml, hown, hts⟩ (kX8_isIndex l D cI cJ cZ k (nI yn)) ⟨va_cnB 2 hts gX6_isOf_X8_isIndex_n35 rfl rfl rfl hN.2.2.2.2.2.2.1 (hts (.initialized RX8) (by decide +kernel)) (by decide +kernel) ⟨Nat.le_of_ble_eq_true rfl, Nat.le_of_ble_eq_true rfl⟩, hts (.static yX8_isIndex) (by decide +kernel), trivial⟩ ⟨rP_blind, rP_pre (va_P_nil) hK hN⟩ rfl rfl hl.1 rfl (lv_room (Nat.le_of_ble_eq_true rfl)) dX6_isOf_5 ⟨Nat.zero_le _, Nat.zero_le _⟩) ?_
  refine lv_if_eq (tgt := 25) hx hb dX6_isOf_8 (by decide) (fun c_1 => ?_) (fun c_1 => ?_)
  · rw [if_pos c_1] at hE
    refine lv_iconst (v := 0) hx hb dX6_isOf_25 (by decide) ?_
    exact W.zret hx hb hr narrow_b0 (fun t ht hW => ⟨by rw [← hE], ht⟩) (fun q h => absurd h List.not_mem_nil) dX6_isOf_26
  · rw [if_neg c_1] at hE
    have hin : vp_in k 200 := isIx_in (k := k) (n := yn) (by assumption) hyn (by decide)
    refine lv_aload_n hx hb dX6_isOf_11 rfl (lv_at hl 0 rfl) ?_
    refine va_get (D := D) (ci := 6) (v := .ref y3) (C := RX6) (T := TX6) (N := 7) hx hb hts iw_6 hown hK hP 0 rfl rfl 2 (by decide) (hts (.fieldLink RX6 19 "DepositCodes$Payments" "sets" "[I") (by decide +kernel)) (fun _ h9 => h9) rfl dX6_isOf_12 ?_
    refine lv_iload_n hx hb dX6_isOf_15 rfl (lv_at hl 1 rfl) ?_
    refine va_iald hx hb hK hP 3 0 rfl rfl (by assumption) dX6_isOf_16 ?_
    refine lv_iload_n hx hb dX6_isOf_17 rfl (lv_at hl 2 rfl) ?_
    refine lv_icmp_ne (tgt := 25) hx hb dX6_isOf_18 (by decide) (fun c_2 => ?_) (fun c_2 => ?_)
    · rw [if_neg c_2] at hE
      refine lv_iconst (v := 0) hx hb dX6_isOf_25 (by decide) ?_
      exact W.zret hx hb hr narrow_b0 (fun t ht hW => ⟨by rw [← hE], ht⟩) (fun q h => absurd h List.not_mem_nil) dX6_isOf_26
    · rw [if_pos c_2] at hE
      refine lv_iconst (v := 1) hx hb dX6_isOf_21 (by decide) ?_
      refine lv_goto (tgt := 26) hx hb dX6_isOf_22 (by decide) ?_
      exact W.zret hx hb hr narrow_b1 (fun t ht hW => ⟨by rw [← hE], ht⟩) (fun q h => absurd h List.not_mem_nil) dX6_isOf_26
def FX6_find_l3 (ys : Nat → Int64) (yt : Nat → Int32) (yn : Nat) (v : Int64) (st : Int32) : Nat → Nat → Int32
  | 0, _ => 0
  | n + 1, k => if yn ≤ k then (-1) else (if (lg_cmp (ys k) v) = 0 then (if (yt k) = st then nI k else FX6_find_l3 ys yt yn v st n (k + 1)) else FX6_find_l3 ys yt yn v st n (k + 1))
def FX6_find (ys : Nat → Int64) (yt : Nat → Int32) (yn : Nat) (v : Int64) (st : Int32) : Int32 := FX6_find_l3 ys yt yn v st (yn + 1) 0
set_option maxHeartbeats 4000000 in
set_option maxRecDepth 100000 in
theorem kX6_find (l : Launch) (D : va_G) (cI cJ cZ : ClassId) (qy : Nat) (y1 : Nat) (y2 : Nat) (y3 : Nat) (y4 : Nat) (y5 : Nat) (y6 : Nat) (ys : Nat → Int64) (yp : Nat → Int32) (yt : Nat → Int32) (yh : Nat → Int32) (ym : Nat → Int32) (yr : Nat → Int32) (yn : Nat) (v : Int64) (st : Int32) (hyn : yn ≤ 200) : Met l yX6_find wsX6_find ({ frames := 0, cells := 0, slots := 0, locals := 0 }) (rP D (tz cI cJ cZ) [.ref qy, .long v, .int st] [(qy, .inr (6, [.ref y1, .ref y2, .ref y3, .ref y4, .ref y5, .ref y6, .int (nI yn)])), (y1, .inl (cJ, 200, .inr (.inl ys))), (y2, .inl (cI, 200, .inl yp)), (y3, .inl (cI, 200, .inl yt)), (y4, .inl (cI, 200, .inl yh)), (y5, .inl (cI, 200, .inl ym)), (y6, .inl (cI, 200, .inl yr))]) (k2_QcV (.int (FX6_find ys yt yn v st))) 0 0 (fun _ => False) := by
  refine Met.ofW (cc := cX6_find) (maxL := 5) (ret := (some .int)) (by decide) rfl ?_
  intro p e s m args below meth c s₁ B hml hv
  obtain ⟨rfl, hP, hK, hN⟩ := hv
  have hx := B.exec
  have hb := B.bytes
  have hr := B.returns
  have hts := atoms_spec (ws := wsX6_find) B.pre
  have hown : s.vm.findClass RX6 = some m.cls := findClass_of_methodNamed B.named
  have hlocks := B.notSynchronized
  have iw_6 : ∀ w ∈ u_ws RX6 TX6 7, w ∈ wsX6_find := by decide +kernel
  generalize hE : FX6_find ys yt yn v st = R0
  rw [FX6_find] at hE
  have hl := lv_entry ([.ref qy, .long v, .int st]) (n := 5) (Nat.le_of_ble_eq_true rfl)
  rw [lg_entry_eq]
  generalize (lg_sl ([.ref qy, .long v, .int st]) ++ List.replicate (5 - (lg_sl ([.ref qy, .long v, .int st])).length) Slot.unset).toArray = ls at hl ⊢
  have hl : lv_has ls 5 [(0, .ref qy), (1, .long v), (3, .int st)] := hl
  have loop_3 : ∀ (n : Nat) (k : Nat), k ≤ yn → k + n = yn + 1 → FX6_find_l3 ys yt yn v st n k = R0 → ∀ ls : Array Slot, lv_has ls 5 [(4, .int (nI k)), (0, .ref qy), (1, .long v), (3, .int st)] → W p l e (headSpec wsX6_find ({ frames := 0, cells := 0, slots := 0, locals := 0 })).room s m ([.ref qy, .long v, .int st] : List Value).toArray below meth c s.heap [] 0 0 (MQ below (k2_QcV (.int R0)) ([.ref qy, .long v, .int st] : List Value).toArray s 0 0 (fun _ => False)) (F0 m 3 ls []) := by
    intro n
    induction n with
    | zero =>
      intro k i_1 i_2
      exact absurd i_1 (by omega)
    | succ n ih =>
      intro k i_1 i_2 hE ls hl
      rw [FX6_find_l3] at hE
      refine lv_iload hx hb dX6_find_3 (lv_at hl 0 rfl) ?_
      refine lv_aload_n hx hb dX6_find_5 rfl (lv_at hl 1 rfl) ?_
      refine va_get (D := D) (ci := 6) (v := .int (nI yn)) (C := RX6) (T := TX6) (N := 7) hx hb hts iw_6 hown hK hP 0 rfl rfl 6 (by decide) (hts (.fieldLink RX6 31 "DepositCodes$Payments" "size" "I") (by decide +kernel)) (fun _ h9 => h9) rfl dX6_find_6 ?_
      refine lv_icmp_ge (tgt := 44) hx hb dX6_find_9 (by decide) (fun c_1 => ?_) (fun c_1 => ?_)
      · have c_1 : yn ≤ k := (nI_leI (a := yn) (b := k) (by omega) (by omega)).mp c_1
        rw [if_pos c_1] at hE
        refine lv_iconst (v := (-1)) hx hb dX6_find_44 (by decide) ?_
        exact W.iret hx hb hr (fun t ht hW => ⟨by rw [← hE], ht⟩) (fun q h => absurd h List.not_mem_nil) dX6_find_45
      · have c_1 : ¬ yn ≤ k := fun h9 => c_1 ((nI_leI (a := yn) (b := k) (by omega) (by omega)).mpr h9)
        rw [if_neg c_1] at hE
        refine lv_aload_n hx hb dX6_find_12 rfl (lv_at hl 1 rfl) ?_
        refine va_get (D := D) (ci := 6) (v := .ref y1) (C := RX6) (T := TX6) (N := 7) hx hb hts iw_6 hown hK hP 0 rfl rfl 0 (by decide) (hts (.fieldLink RX6 11 "DepositCodes$Payments" "serials" "[J") (by decide +kernel)) (fun _ h9 => h9) rfl dX6_find_13 ?_
        refine lv_iload hx hb dX6_find_16 (lv_at hl 0 rfl) ?_
        refine na_lald hx hb hK hP 1 1 rfl rfl (by omega) (by decide) dX6_find_18 ?_
        refine lv_lload_n hx hb dX6_find_19 rfl (lv_at hl 2 rfl) ?_
        refine W.lcmp hx hb dX6_find_20 ?_
        refine lv_if_ne (tgt := 38) hx hb dX6_find_21 (by decide) (fun c_2 => ?_) (fun c_2 => ?_)
        · rw [if_neg c_2] at hE
          refine lv_iinc (v := nI (k + 1)) (lv' := [(4, .int (nI (k + 1))), (0, .ref qy), (1, .long v), (3, .int st)]) hx hb dX6_find_38 hl (k := 0) rfl (nI_1 k) (by decide) rfl (fun ls hl => ?_)
          refine lv_goto (tgt := 3) hx hb dX6_find_41 (by decide) ?_
          exact ih (k + 1) (by omega) (by omega) hE ls (lv_sub hl [0, 1, 2, 3] rfl)
        · rw [if_pos c_2] at hE
          refine lv_aload_n hx hb dX6_find_24 rfl (lv_at hl 1 rfl) ?_
          refine va_get (D := D) (ci := 6) (v := .ref y3) (C := RX6) (T := TX6) (N := 7) hx hb hts iw_6 hown hK hP 0 rfl rfl 2 (by decide) (hts (.fieldLink RX6 19 "DepositCodes$Payments" "sets" "[I") (by decide +kernel)) (fun _ h9 => h9) rfl dX6_find_25 ?_
          refine lv_iload hx hb dX6_find_28 (lv_at hl 0 rfl) ?_
          refine na_iald hx hb hK hP 3 0 rfl rfl (by omega) (by decide) dX6_find_30 ?_
          refine lv_iload_n hx hb dX6_find_31 rfl (lv_at hl 3 rfl) ?_
          refine lv_icmp_ne (tgt := 38) hx hb dX6_find_32 (by decide) (fun c_3 => ?_) (fun c_3 => ?_)
          · rw [if_neg c_3] at hE
            refine lv_iinc (v := nI (k + 1)) (lv' := [(4, .int (nI (k + 1))), (0, .ref qy), (1, .long v), (3, .int st)]) hx hb dX6_find_38 hl (k := 0) rfl (nI_1 k) (by decide) rfl (fun ls hl => ?_)
            refine lv_goto (tgt := 3) hx hb dX6_find_41 (by decide) ?_
            exact ih (k + 1) (by omega) (by omega) hE ls (lv_sub hl [0, 1, 2, 3] rfl)
          · rw [if_pos c_3] at hE
            refine lv_iload hx hb dX6_find_35 (lv_at hl 0 rfl) ?_
            exact W.iret hx hb hr (fun t ht hW => ⟨by rw [← hE], ht⟩) (fun q h => absurd h List.not_mem_nil) dX6_find_37
  refine lv_iconst (v := 0) hx hb dX6_find_0 (by decide) ?_
  refine lv_istore (lv' := [(4, .int 0), (0, .ref qy), (1, .long v), (3, .int st)]) hx hb dX6_find_1 hl (by decide) rfl (fun ls hl => ?_)
  exact loop_3 (yn + 1) 0 (by omega) (by omega) hE ls (lv_sub hl [0, 1, 2, 3] rfl)
def FX6_leaveSet (yt : Nat → Int32) (yn : Nat) (k : Int32) : (Nat → Int32) := if (FX8_isIndex k (nI yn)) = 0 then yt else upd yt k.toNatClampNeg (-1)
set_option maxHeartbeats 4000000 in
set_option maxRecDepth 100000 in
theorem kX6_leaveSet (l : Launch) (D : va_G) (cI cJ cZ : ClassId) (qy : Nat) (y1 : Nat) (y2 : Nat) (y3 : Nat) (y4 : Nat) (y5 : Nat) (y6 : Nat) (ys : Nat → Int64) (yp : Nat → Int32) (yt : Nat → Int32) (yh : Nat → Int32) (ym : Nat → Int32) (yr : Nat → Int32) (yn : Nat) (k : Int32) (sz : Nat) (hyn : yn ≤ 200) : Met l yX6_leaveSet wsX6_leaveSet ({ frames := 1, cells := 0, slots := 0, locals := 21 }) (mP D (tz cI cJ cZ) [.ref qy, .int k] sz [(qy, .inr (6, [.ref y1, .ref y2, .ref y3, .ref y4, .ref y5, .ref y6, .int (nI yn)])), (y1, .inl (cJ, 200, .inr (.inl ys))), (y2, .inl (cI, 200, .inl yp)), (y3, .inl (cI, 200, .inl yt)), (y4, .inl (cI, 200, .inl yh)), (y5, .inl (cI, 200, .inl ym)), (y6, .inl (cI, 200, .inl yr))]) (mQ D none [(qy, .inr (6, [.ref y1, .ref y2, .ref y3, .ref y4, .ref y5, .ref y6, .int (nI yn)])), (y1, .inl (cJ, 200, .inr (.inl ys))), (y2, .inl (cI, 200, .inl yp)), (y3, .inl (cI, 200, .inl (FX6_leaveSet yt yn k))), (y4, .inl (cI, 200, .inl yh)), (y5, .inl (cI, 200, .inl ym)), (y6, .inl (cI, 200, .inl yr))] (va_A [(qy, .inr (6, [.ref y1, .ref y2, .ref y3, .ref y4, .ref y5, .ref y6, .int (nI yn)])), (y1, .inl (cJ, 200, .inr (.inl ys))), (y2, .inl (cI, 200, .inl yp)), (y3, .inl (cI, 200, .inl yt)), (y4, .inl (cI, 200, .inl yh)), (y5, .inl (cI, 200, .inl ym)), (y6, .inl (cI, 200, .inl yr))] sz)) 0 0 (va_A [(qy, .inr (6, [.ref y1, .ref y2, .ref y3, .ref y4, .ref y5, .ref y6, .int (nI yn)])), (y1, .inl (cJ, 200, .inr (.inl ys))), (y2, .inl (cI, 200, .inl yp)), (y3, .inl (cI, 200, .inl yt)), (y4, .inl (cI, 200, .inl yh)), (y5, .inl (cI, 200, .inl ym)), (y6, .inl (cI, 200, .inl yr))] sz) := by
  refine Met.ofW (cc := cX6_leaveSet) (maxL := 2) (ret := none) (by decide) rfl ?_
  intro p e s m args below meth c s₁ B hml hv
  obtain ⟨rfl, hsz, hP, hK, hD0, hN⟩ := hv
  have hx := B.exec
  have hb := B.bytes
  have hr := B.returns
  have hts := atoms_spec (ws := wsX6_leaveSet) B.pre
  have hown : s.vm.findClass RX6 = some m.cls := findClass_of_methodNamed B.named
  have hlocks := B.notSynchronized
  have iw_6 : ∀ w ∈ u_ws RX6 TX6 7, w ∈ wsX6_leaveSet := by decide +kernel
  subst hsz
  have hD := hD0.self (sz := s.heap.size)
  generalize hE : FX6_leaveSet yt yn k = R0
  generalize hAe : va_A [(qy, .inr (6, [.ref y1, .ref y2, .ref y3, .ref y4, .ref y5, .ref y6, .int (nI yn)])), (y1, .inl (cJ, 200, .inr (.inl ys))), (y2, .inl (cI, 200, .inl yp)), (y3, .inl (cI, 200, .inl yt)), (y4, .inl (cI, 200, .inl yh)), (y5, .inl (cI, 200, .inl ym)), (y6, .inl (cI, 200, .inl yr))] s.heap.size = A at hD ⊢
  have hA : ∀ q : Nat, s.heap.size ≤ q → A q := fun q h => by rw [← hAe]; exact Or.inr h
  have hS : va_S A s.heap s.heap [] := va_S.rf
  rw [FX6_leaveSet] at hE
  have hl := lv_entry ([.ref qy, .int k]) (n := 2) (Nat.le_of_ble_eq_true rfl)
  rw [lg_entry_eq]
  generalize (lg_sl ([.ref qy, .int k]) ++ List.replicate (2 - (lg_sl ([.ref qy, .int k])).length) Slot.unset).toArray = ls at hl ⊢
  have hl : lv_has ls 2 [(0, .ref qy), (1, .int k)] := hl
  refine lv_iload_n hx hb dX6_leaveSet_0 rfl (lv_at hl 1 rfl) ?_
  refine lv_aload_n hx hb dX6_leaveSet_1 rfl (lv_at hl 0 rfl) ?_
  refine va_get (D := D) (ci := 6) (v := .int (nI yn)) (C := RX6) (T := TX6) (N := 7) hx hb hts iw_6 hown hK hP 0 rfl rfl 6 (by decide) (hts (.fieldLink RX6 31 "DepositCodes$Payments" "size" "I") (by decide +kernel)) (fun _ h9 => h9) rfl dX6_leaveSet_2 ?_
  refine rd_call (va_runSN (As := [.int k, .int (nI yn)]) (rest := []) ⟨hx, hb, hml, hown, hts⟩ (kX8_isIndex l D cI cJ cZ k (nI yn)) ⟨va_cnB 2 hts gX6_leaveSet_X8_isIndex_n35 rfl rfl rfl hN.2.2.2.2.2.2.1 (hts (.initialized RX8) (by decide +kernel)) (by decide +kernel) ⟨Nat.le_of_ble_eq_true rfl, Nat.le_of_ble_eq_true rfl⟩, hts (.static yX8_isIndex) (by decide +kernel), trivial⟩ ⟨rP_blind, rP_pre (va_P_nil) hK hN⟩ rfl rfl hl.1 rfl (lv_room (Nat.le_of_ble_eq_true rfl)) dX6_leaveSet_5 ⟨Nat.zero_le _, Nat.zero_le _⟩) ?_
  refine lv_if_eq (tgt := 18) hx hb dX6_leaveSet_8 (by decide) (fun c_1 => ?_) (fun c_1 => ?_)
  · rw [if_pos c_1] at hE
    subst hE
    exact W.vret hx hb hr (fun t ht hW => ⟨rfl, by rw [ht]; exact hP, hD, hS.F ht⟩) hS.2.2 dX6_leaveSet_18
  · rw [if_neg c_1] at hE
    have hin : vp_in k 200 := isIx_in (k := k) (n := yn) (by assumption) hyn (by decide)
    refine lv_aload_n hx hb dX6_leaveSet_11 rfl (lv_at hl 0 rfl) ?_
    refine va_get (D := D) (ci := 6) (v := .ref y3) (C := RX6) (T := TX6) (N := 7) hx hb hts iw_6 hown hK hP 0 rfl rfl 2 (by decide) (hts (.fieldLink RX6 19 "DepositCodes$Payments" "sets" "[I") (by decide +kernel)) (fun _ h9 => h9) rfl dX6_leaveSet_12 ?_
    refine lv_iload_n hx hb dX6_leaveSet_15 rfl (lv_at hl 1 rfl) ?_
    refine lv_iconst (v := (-1)) hx hb dX6_leaveSet_16 (by decide) ?_
    refine va_iast hx hb hK hP hD hS 3 0 rfl rfl (by assumption) dX6_leaveSet_17 (fun H locs hP hD hS => ?_)
    have hP : va_P D vwCl [(qy, .inr (6, [.ref y1, .ref y2, .ref y3, .ref y4, .ref y5, .ref y6, .int (nI yn)])), (y1, .inl (cJ, 200, .inr (.inl ys))), (y2, .inl (cI, 200, .inl yp)), (y3, .inl (cI, 200, .inl (upd yt k.toNatClampNeg (-1)))), (y4, .inl (cI, 200, .inl yh)), (y5, .inl (cI, 200, .inl ym)), (y6, .inl (cI, 200, .inl yr))] H := hP
    have hD : va_D A [(qy, .inr (6, [.ref y1, .ref y2, .ref y3, .ref y4, .ref y5, .ref y6, .int (nI yn)])), (y1, .inl (cJ, 200, .inr (.inl ys))), (y2, .inl (cI, 200, .inl yp)), (y3, .inl (cI, 200, .inl (upd yt k.toNatClampNeg (-1)))), (y4, .inl (cI, 200, .inl yh)), (y5, .inl (cI, 200, .inl ym)), (y6, .inl (cI, 200, .inl yr))] := hD
    subst hE
    exact W.vret hx hb hr (fun t ht hW => ⟨rfl, by rw [ht]; exact hP, hD, hS.F ht⟩) hS.2.2 dX6_leaveSet_18
def FX6_moveSet_l2 (yn : Nat) (fr : Int32) (to : Int32) : Nat → Nat → (Nat → Int32) → (Nat → Int32)
  | 0, _, _ => fun _ => 0
  | n + 1, k, ytx => if yn ≤ k then ytx else (if (ytx k) = fr then FX6_moveSet_l2 yn fr to n (k + 1) (upd ytx k to) else FX6_moveSet_l2 yn fr to n (k + 1) ytx)
def FX6_moveSet (yt : Nat → Int32) (yn : Nat) (fr : Int32) (to : Int32) : (Nat → Int32) := FX6_moveSet_l2 yn fr to (yn + 1) 0 yt
set_option maxHeartbeats 4000000 in
set_option maxRecDepth 100000 in
theorem kX6_moveSet (l : Launch) (D : va_G) (cI cJ cZ : ClassId) (qy : Nat) (y1 : Nat) (y2 : Nat) (y3 : Nat) (y4 : Nat) (y5 : Nat) (y6 : Nat) (ys : Nat → Int64) (yp : Nat → Int32) (yt : Nat → Int32) (yh : Nat → Int32) (ym : Nat → Int32) (yr : Nat → Int32) (yn : Nat) (fr : Int32) (to : Int32) (sz : Nat) (hyn : yn ≤ 200) : Met l yX6_moveSet wsX6_moveSet ({ frames := 0, cells := 0, slots := 0, locals := 0 }) (mP D (tz cI cJ cZ) [.ref qy, .int fr, .int to] sz [(qy, .inr (6, [.ref y1, .ref y2, .ref y3, .ref y4, .ref y5, .ref y6, .int (nI yn)])), (y1, .inl (cJ, 200, .inr (.inl ys))), (y2, .inl (cI, 200, .inl yp)), (y3, .inl (cI, 200, .inl yt)), (y4, .inl (cI, 200, .inl yh)), (y5, .inl (cI, 200, .inl ym)), (y6, .inl (cI, 200, .inl yr))]) (mQ D none [(qy, .inr (6, [.ref y1, .ref y2, .ref y3, .ref y4, .ref y5, .ref y6, .int (nI yn)])), (y1, .inl (cJ, 200, .inr (.inl ys))), (y2, .inl (cI, 200, .inl yp)), (y3, .inl (cI, 200, .inl (FX6_moveSet yt yn fr to))), (y4, .inl (cI, 200, .inl yh)), (y5, .inl (cI, 200, .inl ym)), (y6, .inl (cI, 200, .inl yr))] (va_A [(qy, .inr (6, [.ref y1, .ref y2, .ref y3, .ref y4, .ref y5, .ref y6, .int (nI yn)])), (y1, .inl (cJ, 200, .inr (.inl ys))), (y2, .inl (cI, 200, .inl yp)), (y3, .inl (cI, 200, .inl yt)), (y4, .inl (cI, 200, .inl yh)), (y5, .inl (cI, 200, .inl ym)), (y6, .inl (cI, 200, .inl yr))] sz)) 0 0 (va_A [(qy, .inr (6, [.ref y1, .ref y2, .ref y3, .ref y4, .ref y5, .ref y6, .int (nI yn)])), (y1, .inl (cJ, 200, .inr (.inl ys))), (y2, .inl (cI, 200, .inl yp)), (y3, .inl (cI, 200, .inl yt)), (y4, .inl (cI, 200, .inl yh)), (y5, .inl (cI, 200, .inl ym)), (y6, .inl (cI, 200, .inl yr))] sz) := by
  refine Met.ofW (cc := cX6_moveSet) (maxL := 4) (ret := none) (by decide) rfl ?_
  intro p e s m args below meth c s₁ B hml hv
  obtain ⟨rfl, hsz, hP, hK, hD0, hN⟩ := hv
  have hx := B.exec
  have hb := B.bytes
  have hr := B.returns
  have hts := atoms_spec (ws := wsX6_moveSet) B.pre
  have hown : s.vm.findClass RX6 = some m.cls := findClass_of_methodNamed B.named
  have hlocks := B.notSynchronized
  have iw_6 : ∀ w ∈ u_ws RX6 TX6 7, w ∈ wsX6_moveSet := by decide +kernel
  subst hsz
  have hD := hD0.self (sz := s.heap.size)
  generalize hE : FX6_moveSet yt yn fr to = R0
  generalize hAe : va_A [(qy, .inr (6, [.ref y1, .ref y2, .ref y3, .ref y4, .ref y5, .ref y6, .int (nI yn)])), (y1, .inl (cJ, 200, .inr (.inl ys))), (y2, .inl (cI, 200, .inl yp)), (y3, .inl (cI, 200, .inl yt)), (y4, .inl (cI, 200, .inl yh)), (y5, .inl (cI, 200, .inl ym)), (y6, .inl (cI, 200, .inl yr))] s.heap.size = A at hD ⊢
  have hA : ∀ q : Nat, s.heap.size ≤ q → A q := fun q h => by rw [← hAe]; exact Or.inr h
  have hS : va_S A s.heap s.heap [] := va_S.rf
  rw [FX6_moveSet] at hE
  have hl := lv_entry ([.ref qy, .int fr, .int to]) (n := 4) (Nat.le_of_ble_eq_true rfl)
  rw [lg_entry_eq]
  generalize (lg_sl ([.ref qy, .int fr, .int to]) ++ List.replicate (4 - (lg_sl ([.ref qy, .int fr, .int to])).length) Slot.unset).toArray = ls at hl ⊢
  have hl : lv_has ls 4 [(0, .ref qy), (1, .int fr), (2, .int to)] := hl
  have loop_2 : ∀ (n : Nat) (k : Nat) (ytx : Nat → Int32), k ≤ yn → k + n = yn + 1 → FX6_moveSet_l2 yn fr to n k ytx = R0 → ∀ (H : Heap) (locs : List Loc), va_P D vwCl [(qy, .inr (6, [.ref y1, .ref y2, .ref y3, .ref y4, .ref y5, .ref y6, .int (nI yn)])), (y1, .inl (cJ, 200, .inr (.inl ys))), (y2, .inl (cI, 200, .inl yp)), (y3, .inl (cI, 200, .inl ytx)), (y4, .inl (cI, 200, .inl yh)), (y5, .inl (cI, 200, .inl ym)), (y6, .inl (cI, 200, .inl yr))] H → va_D A [(qy, .inr (6, [.ref y1, .ref y2, .ref y3, .ref y4, .ref y5, .ref y6, .int (nI yn)])), (y1, .inl (cJ, 200, .inr (.inl ys))), (y2, .inl (cI, 200, .inl yp)), (y3, .inl (cI, 200, .inl ytx)), (y4, .inl (cI, 200, .inl yh)), (y5, .inl (cI, 200, .inl ym)), (y6, .inl (cI, 200, .inl yr))] → va_S A s.heap H locs → ∀ ls : Array Slot, lv_has ls 4 [(3, .int (nI k)), (0, .ref qy), (1, .int fr), (2, .int to)] → W p l e (headSpec wsX6_moveSet ({ frames := 0, cells := 0, slots := 0, locals := 0 })).room s m ([.ref qy, .int fr, .int to] : List Value).toArray below meth c H locs 0 0 (MQ below (mQ D none [(qy, .inr (6, [.ref y1, .ref y2, .ref y3, .ref y4, .ref y5, .ref y6, .int (nI yn)])), (y1, .inl (cJ, 200, .inr (.inl ys))), (y2, .inl (cI, 200, .inl yp)), (y3, .inl (cI, 200, .inl R0)), (y4, .inl (cI, 200, .inl yh)), (y5, .inl (cI, 200, .inl ym)), (y6, .inl (cI, 200, .inl yr))] A) ([.ref qy, .int fr, .int to] : List Value).toArray s 0 0 A) (F0 m 2 ls []) := by
    intro n
    induction n with
    | zero =>
      intro k ytx i_1 i_2
      exact absurd i_1 (by omega)
    | succ n ih =>
      intro k ytx i_1 i_2 hE H locs hP hD hS ls hl
      rw [FX6_moveSet_l2] at hE
      refine lv_iload_n hx hb dX6_moveSet_2 rfl (lv_at hl 0 rfl) ?_
      refine lv_aload_n hx hb dX6_moveSet_3 rfl (lv_at hl 1 rfl) ?_
      refine va_get (D := D) (ci := 6) (v := .int (nI yn)) (C := RX6) (T := TX6) (N := 7) hx hb hts iw_6 hown hK hP 0 rfl rfl 6 (by decide) (hts (.fieldLink RX6 31 "DepositCodes$Payments" "size" "I") (by decide +kernel)) (fun _ h9 => h9) rfl dX6_moveSet_4 ?_
      refine lv_icmp_ge (tgt := 33) hx hb dX6_moveSet_7 (by decide) (fun c_1 => ?_) (fun c_1 => ?_)
      · have c_1 : yn ≤ k := (nI_leI (a := yn) (b := k) (by omega) (by omega)).mp c_1
        rw [if_pos c_1] at hE
        subst hE
        exact W.vret hx hb hr (fun t ht hW => ⟨rfl, by rw [ht]; exact hP, hD, hS.F ht⟩) hS.2.2 dX6_moveSet_33
      · have c_1 : ¬ yn ≤ k := fun h9 => c_1 ((nI_leI (a := yn) (b := k) (by omega) (by omega)).mpr h9)
        rw [if_neg c_1] at hE
        refine lv_aload_n hx hb dX6_moveSet_10 rfl (lv_at hl 1 rfl) ?_
        refine va_get (D := D) (ci := 6) (v := .ref y3) (C := RX6) (T := TX6) (N := 7) hx hb hts iw_6 hown hK hP 0 rfl rfl 2 (by decide) (hts (.fieldLink RX6 19 "DepositCodes$Payments" "sets" "[I") (by decide +kernel)) (fun _ h9 => h9) rfl dX6_moveSet_11 ?_
        refine lv_iload_n hx hb dX6_moveSet_14 rfl (lv_at hl 0 rfl) ?_
        refine na_iald hx hb hK hP 3 0 rfl rfl (by omega) (by decide) dX6_moveSet_15 ?_
        refine lv_iload_n hx hb dX6_moveSet_16 rfl (lv_at hl 2 rfl) ?_
        refine lv_icmp_ne (tgt := 27) hx hb dX6_moveSet_17 (by decide) (fun c_2 => ?_) (fun c_2 => ?_)
        · rw [if_neg c_2] at hE
          refine lv_iinc (v := nI (k + 1)) (lv' := [(3, .int (nI (k + 1))), (0, .ref qy), (1, .int fr), (2, .int to)]) hx hb dX6_moveSet_27 hl (k := 0) rfl (nI_1 k) (by decide) rfl (fun ls hl => ?_)
          refine lv_goto (tgt := 2) hx hb dX6_moveSet_30 (by decide) ?_
          exact ih (k + 1) ytx (by omega) (by omega) hE _ _ hP hD hS ls (lv_sub hl [0, 1, 2, 3] rfl)
        · rw [if_pos c_2] at hE
          refine lv_aload_n hx hb dX6_moveSet_20 rfl (lv_at hl 1 rfl) ?_
          refine va_get (D := D) (ci := 6) (v := .ref y3) (C := RX6) (T := TX6) (N := 7) hx hb hts iw_6 hown hK hP 0 rfl rfl 2 (by decide) (hts (.fieldLink RX6 19 "DepositCodes$Payments" "sets" "[I") (by decide +kernel)) (fun _ h9 => h9) rfl dX6_moveSet_21 ?_
          refine lv_iload_n hx hb dX6_moveSet_24 rfl (lv_at hl 0 rfl) ?_
          refine lv_iload_n hx hb dX6_moveSet_25 rfl (lv_at hl 3 rfl) ?_
          refine na_iast hx hb hK hP hD hS 3 0 rfl rfl (by omega) (by decide) dX6_moveSet_26 (fun H locs hP hD hS => ?_)
          have hP : va_P D vwCl [(qy, .inr (6, [.ref y1, .ref y2, .ref y3, .ref y4, .ref y5, .ref y6, .int (nI yn)])), (y1, .inl (cJ, 200, .inr (.inl ys))), (y2, .inl (cI, 200, .inl yp)), (y3, .inl (cI, 200, .inl (upd ytx k to))), (y4, .inl (cI, 200, .inl yh)), (y5, .inl (cI, 200, .inl ym)), (y6, .inl (cI, 200, .inl yr))] H := hP
          have hD : va_D A [(qy, .inr (6, [.ref y1, .ref y2, .ref y3, .ref y4, .ref y5, .ref y6, .int (nI yn)])), (y1, .inl (cJ, 200, .inr (.inl ys))), (y2, .inl (cI, 200, .inl yp)), (y3, .inl (cI, 200, .inl (upd ytx k to))), (y4, .inl (cI, 200, .inl yh)), (y5, .inl (cI, 200, .inl ym)), (y6, .inl (cI, 200, .inl yr))] := hD
          refine lv_iinc (v := nI (k + 1)) (lv' := [(3, .int (nI (k + 1))), (0, .ref qy), (1, .int fr), (2, .int to)]) hx hb dX6_moveSet_27 hl (k := 0) rfl (nI_1 k) (by decide) rfl (fun ls hl => ?_)
          refine lv_goto (tgt := 2) hx hb dX6_moveSet_30 (by decide) ?_
          exact ih (k + 1) (upd ytx k to) (by omega) (by omega) hE _ _ hP hD hS ls (lv_sub hl [0, 1, 2, 3] rfl)
  refine lv_iconst (v := 0) hx hb dX6_moveSet_0 (by decide) ?_
  refine lv_istore_n (lv' := [(3, .int 0), (0, .ref qy), (1, .int fr), (2, .int to)]) hx hb dX6_moveSet_1 rfl hl (by decide) rfl (fun ls hl => ?_)
  exact loop_2 (yn + 1) 0 yt (by omega) (by omega) hE _ _ hP hD hS ls (lv_sub hl [0, 1, 2, 3] rfl)
def FX6_addRefusal_l2 (ys : Nat → Int64) (yr : Nat → Int32) (yn : Nat) (v : Int64) : Nat → Nat → Int32 × (Nat → Int32)
  | 0, _ => (0, fun _ => 0)
  | n + 1, k => if yn ≤ k then ((-1), yr) else (if (lg_cmp (ys k) v) = 0 then ((upd yr k ((yr k) + 1)) k, upd yr k ((yr k) + 1)) else FX6_addRefusal_l2 ys yr yn v n (k + 1))
def FX6_addRefusal (ys : Nat → Int64) (yr : Nat → Int32) (yn : Nat) (v : Int64) : Int32 × (Nat → Int32) := FX6_addRefusal_l2 ys yr yn v (yn + 1) 0
set_option maxHeartbeats 4000000 in
set_option maxRecDepth 100000 in
theorem kX6_addRefusal (l : Launch) (D : va_G) (cI cJ cZ : ClassId) (qy : Nat) (y1 : Nat) (y2 : Nat) (y3 : Nat) (y4 : Nat) (y5 : Nat) (y6 : Nat) (ys : Nat → Int64) (yp : Nat → Int32) (yt : Nat → Int32) (yh : Nat → Int32) (ym : Nat → Int32) (yr : Nat → Int32) (yn : Nat) (v : Int64) (sz : Nat) (hyn : yn ≤ 200) : Met l yX6_addRefusal wsX6_addRefusal ({ frames := 0, cells := 0, slots := 0, locals := 0 }) (mP D (tz cI cJ cZ) [.ref qy, .long v] sz [(qy, .inr (6, [.ref y1, .ref y2, .ref y3, .ref y4, .ref y5, .ref y6, .int (nI yn)])), (y1, .inl (cJ, 200, .inr (.inl ys))), (y2, .inl (cI, 200, .inl yp)), (y3, .inl (cI, 200, .inl yt)), (y4, .inl (cI, 200, .inl yh)), (y5, .inl (cI, 200, .inl ym)), (y6, .inl (cI, 200, .inl yr))]) (mQ D (some (.int ((FX6_addRefusal ys yr yn v).1))) [(qy, .inr (6, [.ref y1, .ref y2, .ref y3, .ref y4, .ref y5, .ref y6, .int (nI yn)])), (y1, .inl (cJ, 200, .inr (.inl ys))), (y2, .inl (cI, 200, .inl yp)), (y3, .inl (cI, 200, .inl yt)), (y4, .inl (cI, 200, .inl yh)), (y5, .inl (cI, 200, .inl ym)), (y6, .inl (cI, 200, .inl ((FX6_addRefusal ys yr yn v).2)))] (va_A [(qy, .inr (6, [.ref y1, .ref y2, .ref y3, .ref y4, .ref y5, .ref y6, .int (nI yn)])), (y1, .inl (cJ, 200, .inr (.inl ys))), (y2, .inl (cI, 200, .inl yp)), (y3, .inl (cI, 200, .inl yt)), (y4, .inl (cI, 200, .inl yh)), (y5, .inl (cI, 200, .inl ym)), (y6, .inl (cI, 200, .inl yr))] sz)) 0 0 (va_A [(qy, .inr (6, [.ref y1, .ref y2, .ref y3, .ref y4, .ref y5, .ref y6, .int (nI yn)])), (y1, .inl (cJ, 200, .inr (.inl ys))), (y2, .inl (cI, 200, .inl yp)), (y3, .inl (cI, 200, .inl yt)), (y4, .inl (cI, 200, .inl yh)), (y5, .inl (cI, 200, .inl ym)), (y6, .inl (cI, 200, .inl yr))] sz) := by
  refine Met.ofW (cc := cX6_addRefusal) (maxL := 4) (ret := (some .int)) (by decide) rfl ?_
  intro p e s m args below meth c s₁ B hml hv
  obtain ⟨rfl, hsz, hP, hK, hD0, hN⟩ := hv
  have hx := B.exec
  have hb := B.bytes
  have hr := B.returns
  have hts := atoms_spec (ws := wsX6_addRefusal) B.pre
  have hown : s.vm.findClass RX6 = some m.cls := findClass_of_methodNamed B.named
  have hlocks := B.notSynchronized
  have iw_6 : ∀ w ∈ u_ws RX6 TX6 7, w ∈ wsX6_addRefusal := by decide +kernel
  subst hsz
  have hD := hD0.self (sz := s.heap.size)
  generalize hE : FX6_addRefusal ys yr yn v = R0
  generalize hAe : va_A [(qy, .inr (6, [.ref y1, .ref y2, .ref y3, .ref y4, .ref y5, .ref y6, .int (nI yn)])), (y1, .inl (cJ, 200, .inr (.inl ys))), (y2, .inl (cI, 200, .inl yp)), (y3, .inl (cI, 200, .inl yt)), (y4, .inl (cI, 200, .inl yh)), (y5, .inl (cI, 200, .inl ym)), (y6, .inl (cI, 200, .inl yr))] s.heap.size = A at hD ⊢
  have hA : ∀ q : Nat, s.heap.size ≤ q → A q := fun q h => by rw [← hAe]; exact Or.inr h
  have hS : va_S A s.heap s.heap [] := va_S.rf
  rw [FX6_addRefusal] at hE
  have hl := lv_entry ([.ref qy, .long v]) (n := 4) (Nat.le_of_ble_eq_true rfl)
  rw [lg_entry_eq]
  generalize (lg_sl ([.ref qy, .long v]) ++ List.replicate (4 - (lg_sl ([.ref qy, .long v])).length) Slot.unset).toArray = ls at hl ⊢
  have hl : lv_has ls 4 [(0, .ref qy), (1, .long v)] := hl
  have loop_2 : ∀ (n : Nat) (k : Nat), k ≤ yn → k + n = yn + 1 → FX6_addRefusal_l2 ys yr yn v n k = R0 → ∀ (H : Heap) (locs : List Loc), va_P D vwCl [(qy, .inr (6, [.ref y1, .ref y2, .ref y3, .ref y4, .ref y5, .ref y6, .int (nI yn)])), (y1, .inl (cJ, 200, .inr (.inl ys))), (y2, .inl (cI, 200, .inl yp)), (y3, .inl (cI, 200, .inl yt)), (y4, .inl (cI, 200, .inl yh)), (y5, .inl (cI, 200, .inl ym)), (y6, .inl (cI, 200, .inl yr))] H → va_D A [(qy, .inr (6, [.ref y1, .ref y2, .ref y3, .ref y4, .ref y5, .ref y6, .int (nI yn)])), (y1, .inl (cJ, 200, .inr (.inl ys))), (y2, .inl (cI, 200, .inl yp)), (y3, .inl (cI, 200, .inl yt)), (y4, .inl (cI, 200, .inl yh)), (y5, .inl (cI, 200, .inl ym)), (y6, .inl (cI, 200, .inl yr))] → va_S A s.heap H locs → ∀ ls : Array Slot, lv_has ls 4 [(3, .int (nI k)), (0, .ref qy), (1, .long v)] → W p l e (headSpec wsX6_addRefusal ({ frames := 0, cells := 0, slots := 0, locals := 0 })).room s m ([.ref qy, .long v] : List Value).toArray below meth c H locs 0 0 (MQ below (mQ D (some (.int R0.1)) [(qy, .inr (6, [.ref y1, .ref y2, .ref y3, .ref y4, .ref y5, .ref y6, .int (nI yn)])), (y1, .inl (cJ, 200, .inr (.inl ys))), (y2, .inl (cI, 200, .inl yp)), (y3, .inl (cI, 200, .inl yt)), (y4, .inl (cI, 200, .inl yh)), (y5, .inl (cI, 200, .inl ym)), (y6, .inl (cI, 200, .inl R0.2))] A) ([.ref qy, .long v] : List Value).toArray s 0 0 A) (F0 m 2 ls []) := by
    intro n
    induction n with
    | zero =>
      intro k i_1 i_2
      exact absurd i_1 (by omega)
    | succ n ih =>
      intro k i_1 i_2 hE H locs hP hD hS ls hl
      rw [FX6_addRefusal_l2] at hE
      refine lv_iload_n hx hb dX6_addRefusal_2 rfl (lv_at hl 0 rfl) ?_
      refine lv_aload_n hx hb dX6_addRefusal_3 rfl (lv_at hl 1 rfl) ?_
      refine va_get (D := D) (ci := 6) (v := .int (nI yn)) (C := RX6) (T := TX6) (N := 7) hx hb hts iw_6 hown hK hP 0 rfl rfl 6 (by decide) (hts (.fieldLink RX6 31 "DepositCodes$Payments" "size" "I") (by decide +kernel)) (fun _ h9 => h9) rfl dX6_addRefusal_4 ?_
      refine lv_icmp_ge (tgt := 44) hx hb dX6_addRefusal_7 (by decide) (fun c_1 => ?_) (fun c_1 => ?_)
      · have c_1 : yn ≤ k := (nI_leI (a := yn) (b := k) (by omega) (by omega)).mp c_1
        rw [if_pos c_1] at hE
        refine lv_iconst (v := (-1)) hx hb dX6_addRefusal_44 (by decide) ?_
        subst hE
        exact W.iret hx hb hr (fun t ht hW => ⟨rfl, by rw [ht]; exact hP, hD, hS.F ht⟩) hS.2.2 dX6_addRefusal_45
      · have c_1 : ¬ yn ≤ k := fun h9 => c_1 ((nI_leI (a := yn) (b := k) (by omega) (by omega)).mpr h9)
        rw [if_neg c_1] at hE
        refine lv_aload_n hx hb dX6_addRefusal_10 rfl (lv_at hl 1 rfl) ?_
        refine va_get (D := D) (ci := 6) (v := .ref y1) (C := RX6) (T := TX6) (N := 7) hx hb hts iw_6 hown hK hP 0 rfl rfl 0 (by decide) (hts (.fieldLink RX6 11 "DepositCodes$Payments" "serials" "[J") (by decide +kernel)) (fun _ h9 => h9) rfl dX6_addRefusal_11 ?_
        refine lv_iload_n hx hb dX6_addRefusal_14 rfl (lv_at hl 0 rfl) ?_
        refine na_lald hx hb hK hP 1 1 rfl rfl (by omega) (by decide) dX6_addRefusal_15 ?_
        refine lv_lload_n hx hb dX6_addRefusal_16 rfl (lv_at hl 2 rfl) ?_
        refine W.lcmp hx hb dX6_addRefusal_17 ?_
        refine lv_if_ne (tgt := 38) hx hb dX6_addRefusal_18 (by decide) (fun c_2 => ?_) (fun c_2 => ?_)
        · rw [if_neg c_2] at hE
          refine lv_iinc (v := nI (k + 1)) (lv' := [(3, .int (nI (k + 1))), (0, .ref qy), (1, .long v)]) hx hb dX6_addRefusal_38 hl (k := 0) rfl (nI_1 k) (by decide) rfl (fun ls hl => ?_)
          refine lv_goto (tgt := 2) hx hb dX6_addRefusal_41 (by decide) ?_
          exact ih (k + 1) (by omega) (by omega) hE _ _ hP hD hS ls (lv_sub hl [0, 1, 2] rfl)
        · rw [if_pos c_2] at hE
          refine lv_aload_n hx hb dX6_addRefusal_21 rfl (lv_at hl 1 rfl) ?_
          refine va_get (D := D) (ci := 6) (v := .ref y6) (C := RX6) (T := TX6) (N := 7) hx hb hts iw_6 hown hK hP 0 rfl rfl 5 (by decide) (hts (.fieldLink RX6 28 "DepositCodes$Payments" "refusals" "[I") (by decide +kernel)) (fun _ h9 => h9) rfl dX6_addRefusal_22 ?_
          refine lv_iload_n hx hb dX6_addRefusal_25 rfl (lv_at hl 0 rfl) ?_
          refine lv_dup2_11 hx hb dX6_addRefusal_26 rfl rfl ?_
          refine na_iald hx hb hK hP 6 0 rfl rfl (by omega) (by decide) dX6_addRefusal_27 ?_
          refine lv_iconst (v := 1) hx hb dX6_addRefusal_28 (by decide) ?_
          refine lv_iadd hx hb dX6_addRefusal_29 ?_
          refine na_iast hx hb hK hP hD hS 6 0 rfl rfl (by omega) (by decide) dX6_addRefusal_30 (fun H locs hP hD hS => ?_)
          have hP : va_P D vwCl [(qy, .inr (6, [.ref y1, .ref y2, .ref y3, .ref y4, .ref y5, .ref y6, .int (nI yn)])), (y1, .inl (cJ, 200, .inr (.inl ys))), (y2, .inl (cI, 200, .inl yp)), (y3, .inl (cI, 200, .inl yt)), (y4, .inl (cI, 200, .inl yh)), (y5, .inl (cI, 200, .inl ym)), (y6, .inl (cI, 200, .inl (upd yr k ((yr k) + 1))))] H := hP
          have hD : va_D A [(qy, .inr (6, [.ref y1, .ref y2, .ref y3, .ref y4, .ref y5, .ref y6, .int (nI yn)])), (y1, .inl (cJ, 200, .inr (.inl ys))), (y2, .inl (cI, 200, .inl yp)), (y3, .inl (cI, 200, .inl yt)), (y4, .inl (cI, 200, .inl yh)), (y5, .inl (cI, 200, .inl ym)), (y6, .inl (cI, 200, .inl (upd yr k ((yr k) + 1))))] := hD
          refine lv_aload_n hx hb dX6_addRefusal_31 rfl (lv_at hl 1 rfl) ?_
          refine va_get (D := D) (ci := 6) (v := .ref y6) (C := RX6) (T := TX6) (N := 7) hx hb hts iw_6 hown hK hP 0 rfl rfl 5 (by decide) (hts (.fieldLink RX6 28 "DepositCodes$Payments" "refusals" "[I") (by decide +kernel)) (fun _ h9 => h9) rfl dX6_addRefusal_32 ?_
          refine lv_iload_n hx hb dX6_addRefusal_35 rfl (lv_at hl 0 rfl) ?_
          refine na_iald hx hb hK hP 6 0 rfl rfl (by omega) (by decide) dX6_addRefusal_36 ?_
          subst hE
          exact W.iret hx hb hr (fun t ht hW => ⟨rfl, by rw [ht]; exact hP, hD, hS.F ht⟩) hS.2.2 dX6_addRefusal_37
  refine lv_iconst (v := 0) hx hb dX6_addRefusal_0 (by decide) ?_
  refine lv_istore_n (lv' := [(3, .int 0), (0, .ref qy), (1, .long v)]) hx hb dX6_addRefusal_1 rfl hl (by decide) rfl (fun ls hl => ?_)
  exact loop_2 (yn + 1) 0 (by omega) (by omega) hE _ _ hP hD hS ls (lv_sub hl [0, 1, 2] rfl)
def FX6_paidBy_l5 (yp : Nat → Int32) (yh : Nat → Int32) (yn : Nat) (mc : Int32) (sh : Int32) : Nat → Nat → Nat → Int32
  | 0, _, _ => 0
  | n + 1, k, q => if yn ≤ k then nI q else (if (yp k) = mc then (if (yh k) = sh then FX6_paidBy_l5 yp yh yn mc sh n (k + 1) (q + 1) else FX6_paidBy_l5 yp yh yn mc sh n (k + 1) q) else FX6_paidBy_l5 yp yh yn mc sh n (k + 1) q)
def FX6_paidBy (yp : Nat → Int32) (yh : Nat → Int32) (yn : Nat) (mc : Int32) (sh : Int32) : Int32 := FX6_paidBy_l5 yp yh yn mc sh (yn + 1) 0 0
set_option maxHeartbeats 4000000 in
set_option maxRecDepth 100000 in
theorem kX6_paidBy (l : Launch) (D : va_G) (cI cJ cZ : ClassId) (qy : Nat) (y1 : Nat) (y2 : Nat) (y3 : Nat) (y4 : Nat) (y5 : Nat) (y6 : Nat) (ys : Nat → Int64) (yp : Nat → Int32) (yt : Nat → Int32) (yh : Nat → Int32) (ym : Nat → Int32) (yr : Nat → Int32) (yn : Nat) (mc : Int32) (sh : Int32) (hyn : yn ≤ 200) : Met l yX6_paidBy wsX6_paidBy ({ frames := 0, cells := 0, slots := 0, locals := 0 }) (rP D (tz cI cJ cZ) [.ref qy, .int mc, .int sh] [(qy, .inr (6, [.ref y1, .ref y2, .ref y3, .ref y4, .ref y5, .ref y6, .int (nI yn)])), (y1, .inl (cJ, 200, .inr (.inl ys))), (y2, .inl (cI, 200, .inl yp)), (y3, .inl (cI, 200, .inl yt)), (y4, .inl (cI, 200, .inl yh)), (y5, .inl (cI, 200, .inl ym)), (y6, .inl (cI, 200, .inl yr))]) (k2_QcV (.int (FX6_paidBy yp yh yn mc sh))) 0 0 (fun _ => False) := by
  refine Met.ofW (cc := cX6_paidBy) (maxL := 5) (ret := (some .int)) (by decide) rfl ?_
  intro p e s m args below meth c s₁ B hml hv
  obtain ⟨rfl, hP, hK, hN⟩ := hv
  have hx := B.exec
  have hb := B.bytes
  have hr := B.returns
  have hts := atoms_spec (ws := wsX6_paidBy) B.pre
  have hown : s.vm.findClass RX6 = some m.cls := findClass_of_methodNamed B.named
  have hlocks := B.notSynchronized
  have iw_6 : ∀ w ∈ u_ws RX6 TX6 7, w ∈ wsX6_paidBy := by decide +kernel
  generalize hE : FX6_paidBy yp yh yn mc sh = R0
  rw [FX6_paidBy] at hE
  have hl := lv_entry ([.ref qy, .int mc, .int sh]) (n := 5) (Nat.le_of_ble_eq_true rfl)
  rw [lg_entry_eq]
  generalize (lg_sl ([.ref qy, .int mc, .int sh]) ++ List.replicate (5 - (lg_sl ([.ref qy, .int mc, .int sh])).length) Slot.unset).toArray = ls at hl ⊢
  have hl : lv_has ls 5 [(0, .ref qy), (1, .int mc), (2, .int sh)] := hl
  have loop_5 : ∀ (n : Nat) (k : Nat) (q : Nat), k ≤ yn → k + n = yn + 1 → FX6_paidBy_l5 yp yh yn mc sh n k q = R0 → ∀ ls : Array Slot, lv_has ls 5 [(4, .int (nI k)), (3, .int (nI q)), (0, .ref qy), (1, .int mc), (2, .int sh)] → W p l e (headSpec wsX6_paidBy ({ frames := 0, cells := 0, slots := 0, locals := 0 })).room s m ([.ref qy, .int mc, .int sh] : List Value).toArray below meth c s.heap [] 0 0 (MQ below (k2_QcV (.int R0)) ([.ref qy, .int mc, .int sh] : List Value).toArray s 0 0 (fun _ => False)) (F0 m 5 ls []) := by
    intro n
    induction n with
    | zero =>
      intro k q i_1 i_2
      exact absurd i_1 (by omega)
    | succ n ih =>
      intro k q i_1 i_2 hE ls hl
      rw [FX6_paidBy_l5] at hE
      refine lv_iload hx hb dX6_paidBy_5 (lv_at hl 0 rfl) ?_
      refine lv_aload_n hx hb dX6_paidBy_7 rfl (lv_at hl 2 rfl) ?_
      refine va_get (D := D) (ci := 6) (v := .int (nI yn)) (C := RX6) (T := TX6) (N := 7) hx hb hts iw_6 hown hK hP 0 rfl rfl 6 (by decide) (hts (.fieldLink RX6 31 "DepositCodes$Payments" "size" "I") (by decide +kernel)) (fun _ h9 => h9) rfl dX6_paidBy_8 ?_
      refine lv_icmp_ge (tgt := 45) hx hb dX6_paidBy_11 (by decide) (fun c_1 => ?_) (fun c_1 => ?_)
      · have c_1 : yn ≤ k := (nI_leI (a := yn) (b := k) (by omega) (by omega)).mp c_1
        rw [if_pos c_1] at hE
        refine lv_iload_n hx hb dX6_paidBy_45 rfl (lv_at hl 1 rfl) ?_
        exact W.iret hx hb hr (fun t ht hW => ⟨by rw [← hE], ht⟩) (fun q h => absurd h List.not_mem_nil) dX6_paidBy_46
      · have c_1 : ¬ yn ≤ k := fun h9 => c_1 ((nI_leI (a := yn) (b := k) (by omega) (by omega)).mpr h9)
        rw [if_neg c_1] at hE
        refine lv_aload_n hx hb dX6_paidBy_14 rfl (lv_at hl 2 rfl) ?_
        refine va_get (D := D) (ci := 6) (v := .ref y2) (C := RX6) (T := TX6) (N := 7) hx hb hts iw_6 hown hK hP 0 rfl rfl 1 (by decide) (hts (.fieldLink RX6 15 "DepositCodes$Payments" "payers" "[I") (by decide +kernel)) (fun _ h9 => h9) rfl dX6_paidBy_15 ?_
        refine lv_iload hx hb dX6_paidBy_18 (lv_at hl 0 rfl) ?_
        refine na_iald hx hb hK hP 2 0 rfl rfl (by omega) (by decide) dX6_paidBy_20 ?_
        refine lv_iload_n hx hb dX6_paidBy_21 rfl (lv_at hl 3 rfl) ?_
        refine lv_icmp_ne (tgt := 39) hx hb dX6_paidBy_22 (by decide) (fun c_2 => ?_) (fun c_2 => ?_)
        · rw [if_neg c_2] at hE
          refine lv_iinc (v := nI (k + 1)) (lv' := [(4, .int (nI (k + 1))), (3, .int (nI q)), (0, .ref qy), (1, .int mc), (2, .int sh)]) hx hb dX6_paidBy_39 hl (k := 0) rfl (nI_1 k) (by decide) rfl (fun ls hl => ?_)
          refine lv_goto (tgt := 5) hx hb dX6_paidBy_42 (by decide) ?_
          exact ih (k + 1) q (by omega) (by omega) hE ls (lv_sub hl [0, 1, 2, 3, 4] rfl)
        · rw [if_pos c_2] at hE
          refine lv_aload_n hx hb dX6_paidBy_25 rfl (lv_at hl 2 rfl) ?_
          refine va_get (D := D) (ci := 6) (v := .ref y4) (C := RX6) (T := TX6) (N := 7) hx hb hts iw_6 hown hK hP 0 rfl rfl 3 (by decide) (hts (.fieldLink RX6 22 "DepositCodes$Payments" "shapes" "[I") (by decide +kernel)) (fun _ h9 => h9) rfl dX6_paidBy_26 ?_
          refine lv_iload hx hb dX6_paidBy_29 (lv_at hl 0 rfl) ?_
          refine na_iald hx hb hK hP 4 0 rfl rfl (by omega) (by decide) dX6_paidBy_31 ?_
          refine lv_iload_n hx hb dX6_paidBy_32 rfl (lv_at hl 4 rfl) ?_
          refine lv_icmp_ne (tgt := 39) hx hb dX6_paidBy_33 (by decide) (fun c_3 => ?_) (fun c_3 => ?_)
          · rw [if_neg c_3] at hE
            refine lv_iinc (v := nI (k + 1)) (lv' := [(4, .int (nI (k + 1))), (3, .int (nI q)), (0, .ref qy), (1, .int mc), (2, .int sh)]) hx hb dX6_paidBy_39 hl (k := 0) rfl (nI_1 k) (by decide) rfl (fun ls hl => ?_)
            refine lv_goto (tgt := 5) hx hb dX6_paidBy_42 (by decide) ?_
            exact ih (k + 1) q (by omega) (by omega) hE ls (lv_sub hl [0, 1, 2, 3, 4] rfl)
          · rw [if_pos c_3] at hE
            refine lv_iinc (v := nI (q + 1)) (lv' := [(3, .int (nI (q + 1))), (4, .int (nI k)), (0, .ref qy), (1, .int mc), (2, .int sh)]) hx hb dX6_paidBy_36 hl (k := 1) rfl (nI_1 q) (by decide) rfl (fun ls hl => ?_)
            refine lv_iinc (v := nI (k + 1)) (lv' := [(4, .int (nI (k + 1))), (3, .int (nI (q + 1))), (0, .ref qy), (1, .int mc), (2, .int sh)]) hx hb dX6_paidBy_39 hl (k := 1) rfl (nI_1 k) (by decide) rfl (fun ls hl => ?_)
            refine lv_goto (tgt := 5) hx hb dX6_paidBy_42 (by decide) ?_
            exact ih (k + 1) (q + 1) (by omega) (by omega) hE ls (lv_sub hl [0, 1, 2, 3, 4] rfl)
  refine lv_iconst (v := 0) hx hb dX6_paidBy_0 (by decide) ?_
  refine lv_istore_n (lv' := [(3, .int 0), (0, .ref qy), (1, .int mc), (2, .int sh)]) hx hb dX6_paidBy_1 rfl hl (by decide) rfl (fun ls hl => ?_)
  refine lv_iconst (v := 0) hx hb dX6_paidBy_2 (by decide) ?_
  refine lv_istore (lv' := [(4, .int 0), (3, .int 0), (0, .ref qy), (1, .int mc), (2, .int sh)]) hx hb dX6_paidBy_3 hl (by decide) rfl (fun ls hl => ?_)
  exact loop_5 (yn + 1) 0 0 (by omega) (by omega) hE ls (lv_sub hl [0, 1, 2, 3, 4] rfl)
def FX6_add (ys : Nat → Int64) (yp : Nat → Int32) (yt : Nat → Int32) (yh : Nat → Int32) (ym : Nat → Int32) (yn : Nat) (v : Int64) (pa : Int32) (st : Int32) (sh : Int32) (mo : Int32) : (Nat → Int64) × (Nat → Int32) × (Nat → Int32) × (Nat → Int32) × (Nat → Int32) × Nat := if yn < 200 then (vp_updL ys yn v, upd yp yn pa, upd yt yn st, upd yh yn sh, upd ym yn mo, yn + 1) else (ys, yp, yt, yh, ym, yn)
set_option maxHeartbeats 4000000 in
set_option maxRecDepth 100000 in
theorem kX6_add (l : Launch) (D : va_G) (cI cJ cZ : ClassId) (qy : Nat) (y1 : Nat) (y2 : Nat) (y3 : Nat) (y4 : Nat) (y5 : Nat) (y6 : Nat) (ys : Nat → Int64) (yp : Nat → Int32) (yt : Nat → Int32) (yh : Nat → Int32) (ym : Nat → Int32) (yr : Nat → Int32) (yn : Nat) (v : Int64) (pa : Int32) (st : Int32) (sh : Int32) (mo : Int32) (sz : Nat) (hyn : yn ≤ 200) : Met l yX6_add wsX6_add ({ frames := 0, cells := 0, slots := 0, locals := 0 }) (mP D (tz cI cJ cZ) [.ref qy, .long v, .int pa, .int st, .int sh, .int mo] sz [(qy, .inr (6, [.ref y1, .ref y2, .ref y3, .ref y4, .ref y5, .ref y6, .int (nI yn)])), (y1, .inl (cJ, 200, .inr (.inl ys))), (y2, .inl (cI, 200, .inl yp)), (y3, .inl (cI, 200, .inl yt)), (y4, .inl (cI, 200, .inl yh)), (y5, .inl (cI, 200, .inl ym)), (y6, .inl (cI, 200, .inl yr))]) (mQ D none [(qy, .inr (6, [.ref y1, .ref y2, .ref y3, .ref y4, .ref y5, .ref y6, .int (nI ((FX6_add ys yp yt yh ym yn v pa st sh mo).2.2.2.2.2))])), (y1, .inl (cJ, 200, .inr (.inl ((FX6_add ys yp yt yh ym yn v pa st sh mo).1)))), (y2, .inl (cI, 200, .inl ((FX6_add ys yp yt yh ym yn v pa st sh mo).2.1))), (y3, .inl (cI, 200, .inl ((FX6_add ys yp yt yh ym yn v pa st sh mo).2.2.1))), (y4, .inl (cI, 200, .inl ((FX6_add ys yp yt yh ym yn v pa st sh mo).2.2.2.1))), (y5, .inl (cI, 200, .inl ((FX6_add ys yp yt yh ym yn v pa st sh mo).2.2.2.2.1))), (y6, .inl (cI, 200, .inl yr))] (va_A [(qy, .inr (6, [.ref y1, .ref y2, .ref y3, .ref y4, .ref y5, .ref y6, .int (nI yn)])), (y1, .inl (cJ, 200, .inr (.inl ys))), (y2, .inl (cI, 200, .inl yp)), (y3, .inl (cI, 200, .inl yt)), (y4, .inl (cI, 200, .inl yh)), (y5, .inl (cI, 200, .inl ym)), (y6, .inl (cI, 200, .inl yr))] sz)) 0 0 (va_A [(qy, .inr (6, [.ref y1, .ref y2, .ref y3, .ref y4, .ref y5, .ref y6, .int (nI yn)])), (y1, .inl (cJ, 200, .inr (.inl ys))), (y2, .inl (cI, 200, .inl yp)), (y3, .inl (cI, 200, .inl yt)), (y4, .inl (cI, 200, .inl yh)), (y5, .inl (cI, 200, .inl ym)), (y6, .inl (cI, 200, .inl yr))] sz) := by
  refine Met.ofW (cc := cX6_add) (maxL := 7) (ret := none) (by decide) rfl ?_
  intro p e s m args below meth c s₁ B hml hv
  obtain ⟨rfl, hsz, hP, hK, hD0, hN⟩ := hv
  have hx := B.exec
  have hb := B.bytes
  have hr := B.returns
  have hts := atoms_spec (ws := wsX6_add) B.pre
  have hown : s.vm.findClass RX6 = some m.cls := findClass_of_methodNamed B.named
  have hlocks := B.notSynchronized
  have iw_6 : ∀ w ∈ u_ws RX6 TX6 7, w ∈ wsX6_add := by decide +kernel
  subst hsz
  have hD := hD0.self (sz := s.heap.size)
  generalize hE : FX6_add ys yp yt yh ym yn v pa st sh mo = R0
  generalize hAe : va_A [(qy, .inr (6, [.ref y1, .ref y2, .ref y3, .ref y4, .ref y5, .ref y6, .int (nI yn)])), (y1, .inl (cJ, 200, .inr (.inl ys))), (y2, .inl (cI, 200, .inl yp)), (y3, .inl (cI, 200, .inl yt)), (y4, .inl (cI, 200, .inl yh)), (y5, .inl (cI, 200, .inl ym)), (y6, .inl (cI, 200, .inl yr))] s.heap.size = A at hD ⊢
  have hA : ∀ q : Nat, s.heap.size ≤ q → A q := fun q h => by rw [← hAe]; exact Or.inr h
  have hS : va_S A s.heap s.heap [] := va_S.rf
  rw [FX6_add] at hE
  have hl := lv_entry ([.ref qy, .long v, .int pa, .int st, .int sh, .int mo]) (n := 7) (Nat.le_of_ble_eq_true rfl)
  rw [lg_entry_eq]
  generalize (lg_sl ([.ref qy, .long v, .int pa, .int st, .int sh, .int mo]) ++ List.replicate (7 - (lg_sl ([.ref qy, .long v, .int pa, .int st, .int sh, .int mo])).length) Slot.unset).toArray = ls at hl ⊢
  have hl : lv_has ls 7 [(0, .ref qy), (1, .long v), (3, .int pa), (4, .int st), (5, .int sh), (6, .int mo)] := hl
  refine lv_aload_n hx hb dX6_add_0 rfl (lv_at hl 0 rfl) ?_
  refine va_get (D := D) (ci := 6) (v := .int (nI yn)) (C := RX6) (T := TX6) (N := 7) hx hb hts iw_6 hown hK hP 0 rfl rfl 6 (by decide) (hts (.fieldLink RX6 31 "DepositCodes$Payments" "size" "I") (by decide +kernel)) (fun _ h9 => h9) rfl dX6_add_1 ?_
  refine lv_sipush (v := 200) hx hb dX6_add_4 (by decide) ?_
  refine lv_icmp_lt (tgt := 11) hx hb dX6_add_7 (by decide) (fun c_1 => ?_) (fun c_1 => ?_)
  · have c_1 : yn < 200 := (nI_ltI (a := yn) (b := 200) (by omega) (by omega)).mp c_1
    rw [if_pos c_1] at hE
    refine lv_aload_n hx hb dX6_add_11 rfl (lv_at hl 0 rfl) ?_
    refine va_get (D := D) (ci := 6) (v := .ref y1) (C := RX6) (T := TX6) (N := 7) hx hb hts iw_6 hown hK hP 0 rfl rfl 0 (by decide) (hts (.fieldLink RX6 11 "DepositCodes$Payments" "serials" "[J") (by decide +kernel)) (fun _ h9 => h9) rfl dX6_add_12 ?_
    refine lv_aload_n hx hb dX6_add_15 rfl (lv_at hl 0 rfl) ?_
    refine va_get (D := D) (ci := 6) (v := .int (nI yn)) (C := RX6) (T := TX6) (N := 7) hx hb hts iw_6 hown hK hP 0 rfl rfl 6 (by decide) (hts (.fieldLink RX6 31 "DepositCodes$Payments" "size" "I") (by decide +kernel)) (fun _ h9 => h9) rfl dX6_add_16 ?_
    refine lv_lload_n hx hb dX6_add_19 rfl (lv_at hl 1 rfl) ?_
    refine na_last hx hb hK hP hD hS 1 1 rfl rfl (by omega) (by decide) dX6_add_20 (fun H locs hP hD hS => ?_)
    have hP : va_P D vwCl [(qy, .inr (6, [.ref y1, .ref y2, .ref y3, .ref y4, .ref y5, .ref y6, .int (nI yn)])), (y1, .inl (cJ, 200, .inr (.inl (vp_updL ys yn v)))), (y2, .inl (cI, 200, .inl yp)), (y3, .inl (cI, 200, .inl yt)), (y4, .inl (cI, 200, .inl yh)), (y5, .inl (cI, 200, .inl ym)), (y6, .inl (cI, 200, .inl yr))] H := hP
    have hD : va_D A [(qy, .inr (6, [.ref y1, .ref y2, .ref y3, .ref y4, .ref y5, .ref y6, .int (nI yn)])), (y1, .inl (cJ, 200, .inr (.inl (vp_updL ys yn v)))), (y2, .inl (cI, 200, .inl yp)), (y3, .inl (cI, 200, .inl yt)), (y4, .inl (cI, 200, .inl yh)), (y5, .inl (cI, 200, .inl ym)), (y6, .inl (cI, 200, .inl yr))] := hD
    refine lv_aload_n hx hb dX6_add_21 rfl (lv_at hl 0 rfl) ?_
    refine va_get (D := D) (ci := 6) (v := .ref y2) (C := RX6) (T := TX6) (N := 7) hx hb hts iw_6 hown hK hP 0 rfl rfl 1 (by decide) (hts (.fieldLink RX6 15 "DepositCodes$Payments" "payers" "[I") (by decide +kernel)) (fun _ h9 => h9) rfl dX6_add_22 ?_
    refine lv_aload_n hx hb dX6_add_25 rfl (lv_at hl 0 rfl) ?_
    refine va_get (D := D) (ci := 6) (v := .int (nI yn)) (C := RX6) (T := TX6) (N := 7) hx hb hts iw_6 hown hK hP 0 rfl rfl 6 (by decide) (hts (.fieldLink RX6 31 "DepositCodes$Payments" "size" "I") (by decide +kernel)) (fun _ h9 => h9) rfl dX6_add_26 ?_
    refine lv_iload_n hx hb dX6_add_29 rfl (lv_at hl 2 rfl) ?_
    refine na_iast hx hb hK hP hD hS 2 0 rfl rfl (by omega) (by decide) dX6_add_30 (fun H locs hP hD hS => ?_)
    have hP : va_P D vwCl [(qy, .inr (6, [.ref y1, .ref y2, .ref y3, .ref y4, .ref y5, .ref y6, .int (nI yn)])), (y1, .inl (cJ, 200, .inr (.inl (vp_updL ys yn v)))), (y2, .inl (cI, 200, .inl (upd yp yn pa))), (y3, .inl (cI, 200, .inl yt)), (y4, .inl (cI, 200, .inl yh)), (y5, .inl (cI, 200, .inl ym)), (y6, .inl (cI, 200, .inl yr))] H := hP
    have hD : va_D A [(qy, .inr (6, [.ref y1, .ref y2, .ref y3, .ref y4, .ref y5, .ref y6, .int (nI yn)])), (y1, .inl (cJ, 200, .inr (.inl (vp_updL ys yn v)))), (y2, .inl (cI, 200, .inl (upd yp yn pa))), (y3, .inl (cI, 200, .inl yt)), (y4, .inl (cI, 200, .inl yh)), (y5, .inl (cI, 200, .inl ym)), (y6, .inl (cI, 200, .inl yr))] := hD
    refine lv_aload_n hx hb dX6_add_31 rfl (lv_at hl 0 rfl) ?_
    refine va_get (D := D) (ci := 6) (v := .ref y3) (C := RX6) (T := TX6) (N := 7) hx hb hts iw_6 hown hK hP 0 rfl rfl 2 (by decide) (hts (.fieldLink RX6 19 "DepositCodes$Payments" "sets" "[I") (by decide +kernel)) (fun _ h9 => h9) rfl dX6_add_32 ?_
    refine lv_aload_n hx hb dX6_add_35 rfl (lv_at hl 0 rfl) ?_
    refine va_get (D := D) (ci := 6) (v := .int (nI yn)) (C := RX6) (T := TX6) (N := 7) hx hb hts iw_6 hown hK hP 0 rfl rfl 6 (by decide) (hts (.fieldLink RX6 31 "DepositCodes$Payments" "size" "I") (by decide +kernel)) (fun _ h9 => h9) rfl dX6_add_36 ?_
    refine lv_iload hx hb dX6_add_39 (lv_at hl 3 rfl) ?_
    refine na_iast hx hb hK hP hD hS 3 0 rfl rfl (by omega) (by decide) dX6_add_41 (fun H locs hP hD hS => ?_)
    have hP : va_P D vwCl [(qy, .inr (6, [.ref y1, .ref y2, .ref y3, .ref y4, .ref y5, .ref y6, .int (nI yn)])), (y1, .inl (cJ, 200, .inr (.inl (vp_updL ys yn v)))), (y2, .inl (cI, 200, .inl (upd yp yn pa))), (y3, .inl (cI, 200, .inl (upd yt yn st))), (y4, .inl (cI, 200, .inl yh)), (y5, .inl (cI, 200, .inl ym)), (y6, .inl (cI, 200, .inl yr))] H := hP
    have hD : va_D A [(qy, .inr (6, [.ref y1, .ref y2, .ref y3, .ref y4, .ref y5, .ref y6, .int (nI yn)])), (y1, .inl (cJ, 200, .inr (.inl (vp_updL ys yn v)))), (y2, .inl (cI, 200, .inl (upd yp yn pa))), (y3, .inl (cI, 200, .inl (upd yt yn st))), (y4, .inl (cI, 200, .inl yh)), (y5, .inl (cI, 200, .inl ym)), (y6, .inl (cI, 200, .inl yr))] := hD
    refine lv_aload_n hx hb dX6_add_42 rfl (lv_at hl 0 rfl) ?_
    refine va_get (D := D) (ci := 6) (v := .ref y4) (C := RX6) (T := TX6) (N := 7) hx hb hts iw_6 hown hK hP 0 rfl rfl 3 (by decide) (hts (.fieldLink RX6 22 "DepositCodes$Payments" "shapes" "[I") (by decide +kernel)) (fun _ h9 => h9) rfl dX6_add_43 ?_
    refine lv_aload_n hx hb dX6_add_46 rfl (lv_at hl 0 rfl) ?_
    refine va_get (D := D) (ci := 6) (v := .int (nI yn)) (C := RX6) (T := TX6) (N := 7) hx hb hts iw_6 hown hK hP 0 rfl rfl 6 (by decide) (hts (.fieldLink RX6 31 "DepositCodes$Payments" "size" "I") (by decide +kernel)) (fun _ h9 => h9) rfl dX6_add_47 ?_
    refine lv_iload hx hb dX6_add_50 (lv_at hl 4 rfl) ?_
    refine na_iast hx hb hK hP hD hS 4 0 rfl rfl (by omega) (by decide) dX6_add_52 (fun H locs hP hD hS => ?_)
    have hP : va_P D vwCl [(qy, .inr (6, [.ref y1, .ref y2, .ref y3, .ref y4, .ref y5, .ref y6, .int (nI yn)])), (y1, .inl (cJ, 200, .inr (.inl (vp_updL ys yn v)))), (y2, .inl (cI, 200, .inl (upd yp yn pa))), (y3, .inl (cI, 200, .inl (upd yt yn st))), (y4, .inl (cI, 200, .inl (upd yh yn sh))), (y5, .inl (cI, 200, .inl ym)), (y6, .inl (cI, 200, .inl yr))] H := hP
    have hD : va_D A [(qy, .inr (6, [.ref y1, .ref y2, .ref y3, .ref y4, .ref y5, .ref y6, .int (nI yn)])), (y1, .inl (cJ, 200, .inr (.inl (vp_updL ys yn v)))), (y2, .inl (cI, 200, .inl (upd yp yn pa))), (y3, .inl (cI, 200, .inl (upd yt yn st))), (y4, .inl (cI, 200, .inl (upd yh yn sh))), (y5, .inl (cI, 200, .inl ym)), (y6, .inl (cI, 200, .inl yr))] := hD
    refine lv_aload_n hx hb dX6_add_53 rfl (lv_at hl 0 rfl) ?_
    refine va_get (D := D) (ci := 6) (v := .ref y5) (C := RX6) (T := TX6) (N := 7) hx hb hts iw_6 hown hK hP 0 rfl rfl 4 (by decide) (hts (.fieldLink RX6 25 "DepositCodes$Payments" "months" "[I") (by decide +kernel)) (fun _ h9 => h9) rfl dX6_add_54 ?_
    refine lv_aload_n hx hb dX6_add_57 rfl (lv_at hl 0 rfl) ?_
    refine va_get (D := D) (ci := 6) (v := .int (nI yn)) (C := RX6) (T := TX6) (N := 7) hx hb hts iw_6 hown hK hP 0 rfl rfl 6 (by decide) (hts (.fieldLink RX6 31 "DepositCodes$Payments" "size" "I") (by decide +kernel)) (fun _ h9 => h9) rfl dX6_add_58 ?_
    refine lv_iload hx hb dX6_add_61 (lv_at hl 5 rfl) ?_
    refine na_iast hx hb hK hP hD hS 5 0 rfl rfl (by omega) (by decide) dX6_add_63 (fun H locs hP hD hS => ?_)
    have hP : va_P D vwCl [(qy, .inr (6, [.ref y1, .ref y2, .ref y3, .ref y4, .ref y5, .ref y6, .int (nI yn)])), (y1, .inl (cJ, 200, .inr (.inl (vp_updL ys yn v)))), (y2, .inl (cI, 200, .inl (upd yp yn pa))), (y3, .inl (cI, 200, .inl (upd yt yn st))), (y4, .inl (cI, 200, .inl (upd yh yn sh))), (y5, .inl (cI, 200, .inl (upd ym yn mo))), (y6, .inl (cI, 200, .inl yr))] H := hP
    have hD : va_D A [(qy, .inr (6, [.ref y1, .ref y2, .ref y3, .ref y4, .ref y5, .ref y6, .int (nI yn)])), (y1, .inl (cJ, 200, .inr (.inl (vp_updL ys yn v)))), (y2, .inl (cI, 200, .inl (upd yp yn pa))), (y3, .inl (cI, 200, .inl (upd yt yn st))), (y4, .inl (cI, 200, .inl (upd yh yn sh))), (y5, .inl (cI, 200, .inl (upd ym yn mo))), (y6, .inl (cI, 200, .inl yr))] := hD
    refine lv_aload_n hx hb dX6_add_64 rfl (lv_at hl 0 rfl) ?_
    refine lv_dup hx hb dX6_add_65 rfl ?_
    refine va_get (D := D) (ci := 6) (v := .int (nI yn)) (C := RX6) (T := TX6) (N := 7) hx hb hts iw_6 hown hK hP 0 rfl rfl 6 (by decide) (hts (.fieldLink RX6 31 "DepositCodes$Payments" "size" "I") (by decide +kernel)) (fun _ h9 => h9) rfl dX6_add_66 ?_
    refine lv_iconst (v := 1) hx hb dX6_add_69 (by decide) ?_
    refine lv_iadd hx hb dX6_add_70 ?_
    refine na_top (show (nI yn) + 1 = nI (yn + 1) from nI_add yn 1) ?_
    refine va_put (D := D) (ci := 6) (v := .int (nI (yn + 1))) (ty := .int) (C := RX6) (T := TX6) (N := 7) hx hb hts iw_6 tyX6 tyX6_ok nmX6 hown hK hP hD hS 0 rfl rfl 6 (by decide) (hts (.fieldLink RX6 31 "DepositCodes$Payments" "size" "I") (by decide +kernel)) (fun _ h9 => h9) rfl (by decide +kernel) rfl rfl (Nat.le_of_ble_eq_true rfl) dX6_add_71 (fun H locs hP hD hS => ?_)
    have hP : va_P D vwCl [(qy, .inr (6, [.ref y1, .ref y2, .ref y3, .ref y4, .ref y5, .ref y6, .int (nI (yn + 1))])), (y1, .inl (cJ, 200, .inr (.inl (vp_updL ys yn v)))), (y2, .inl (cI, 200, .inl (upd yp yn pa))), (y3, .inl (cI, 200, .inl (upd yt yn st))), (y4, .inl (cI, 200, .inl (upd yh yn sh))), (y5, .inl (cI, 200, .inl (upd ym yn mo))), (y6, .inl (cI, 200, .inl yr))] H := hP
    have hD : va_D A [(qy, .inr (6, [.ref y1, .ref y2, .ref y3, .ref y4, .ref y5, .ref y6, .int (nI (yn + 1))])), (y1, .inl (cJ, 200, .inr (.inl (vp_updL ys yn v)))), (y2, .inl (cI, 200, .inl (upd yp yn pa))), (y3, .inl (cI, 200, .inl (upd yt yn st))), (y4, .inl (cI, 200, .inl (upd yh yn sh))), (y5, .inl (cI, 200, .inl (upd ym yn mo))), (y6, .inl (cI, 200, .inl yr))] := hD
    subst hE
    exact W.vret hx hb hr (fun t ht hW => ⟨rfl, by rw [ht]; exact hP, hD, hS.F ht⟩) hS.2.2 dX6_add_74
  · have c_1 : ¬ yn < 200 := fun h9 => c_1 ((nI_ltI (a := yn) (b := 200) (by omega) (by omega)).mpr h9)
    rw [if_neg c_1] at hE
    subst hE
    exact W.vret hx hb hr (fun t ht hW => ⟨rfl, by rw [ht]; exact hP, hD, hS.F ht⟩) hS.2.2 dX6_add_10
def FX6_addTo (vb : Nat → Int64) (k : Int32) (am : Int32) : (Nat → Int64) := if (FX8_isIndex k 3) = 0 then vb else vp_updL vb k.toNatClampNeg ((vb k.toNatClampNeg) + am.toInt64)
set_option maxHeartbeats 4000000 in
set_option maxRecDepth 100000 in
theorem kX6_addTo (l : Launch) (D : va_G) (cI cJ cZ : ClassId) (qv : Nat) (vb : Nat → Int64) (k : Int32) (am : Int32) (sz : Nat) : Met l yX6_addTo wsX6_addTo ({ frames := 1, cells := 0, slots := 0, locals := 21 }) (mP D (tz cI cJ cZ) [.ref qv, .int k, .int am] sz [(qv, .inl (cJ, 3, .inr (.inl vb)))]) (mQ D none [(qv, .inl (cJ, 3, .inr (.inl (FX6_addTo vb k am))))] (va_A [(qv, .inl (cJ, 3, .inr (.inl vb)))] sz)) 0 0 (va_A [(qv, .inl (cJ, 3, .inr (.inl vb)))] sz) := by
  refine Met.ofW (cc := cX6_addTo) (maxL := 3) (ret := none) (by decide) rfl ?_
  intro p e s m args below meth c s₁ B hml hv
  obtain ⟨rfl, hsz, hP, hK, hD0, hN⟩ := hv
  have hx := B.exec
  have hb := B.bytes
  have hr := B.returns
  have hts := atoms_spec (ws := wsX6_addTo) B.pre
  have hown : s.vm.findClass RX6 = some m.cls := findClass_of_methodNamed B.named
  have hlocks := B.notSynchronized
  subst hsz
  have hD := hD0.self (sz := s.heap.size)
  generalize hE : FX6_addTo vb k am = R0
  generalize hAe : va_A [(qv, .inl (cJ, 3, .inr (.inl vb)))] s.heap.size = A at hD ⊢
  have hA : ∀ q : Nat, s.heap.size ≤ q → A q := fun q h => by rw [← hAe]; exact Or.inr h
  have hS : va_S A s.heap s.heap [] := va_S.rf
  rw [FX6_addTo] at hE
  have hl := lv_entry ([.ref qv, .int k, .int am]) (n := 3) (Nat.le_of_ble_eq_true rfl)
  rw [lg_entry_eq]
  generalize (lg_sl ([.ref qv, .int k, .int am]) ++ List.replicate (3 - (lg_sl ([.ref qv, .int k, .int am])).length) Slot.unset).toArray = ls at hl ⊢
  have hl : lv_has ls 3 [(0, .ref qv), (1, .int k), (2, .int am)] := hl
  refine lv_iload_n hx hb dX6_addTo_0 rfl (lv_at hl 1 rfl) ?_
  refine lv_aload_n hx hb dX6_addTo_1 rfl (lv_at hl 0 rfl) ?_
  refine va_alen (v := 3) hx hb hK hP 0 1 rfl rfl rfl dX6_addTo_2 ?_
  refine rd_call (va_runSN (As := [.int k, .int 3]) (rest := []) ⟨hx, hb, hml, hown, hts⟩ (kX8_isIndex l D cI cJ cZ k 3) ⟨va_cnB 2 hts gX6_addTo_X8_isIndex_n35 rfl rfl rfl hN.2.2.2.2.2.2.1 (hts (.initialized RX8) (by decide +kernel)) (by decide +kernel) ⟨Nat.le_of_ble_eq_true rfl, Nat.le_of_ble_eq_true rfl⟩, hts (.static yX8_isIndex) (by decide +kernel), trivial⟩ ⟨rP_blind, rP_pre (va_P_nil) hK hN⟩ rfl rfl hl.1 rfl (lv_room (Nat.le_of_ble_eq_true rfl)) dX6_addTo_3 ⟨Nat.zero_le _, Nat.zero_le _⟩) ?_
  refine lv_if_eq (tgt := 17) hx hb dX6_addTo_6 (by decide) (fun c_1 => ?_) (fun c_1 => ?_)
  · rw [if_pos c_1] at hE
    subst hE
    exact W.vret hx hb hr (fun t ht hW => ⟨rfl, by rw [ht]; exact hP, hD, hS.F ht⟩) hS.2.2 dX6_addTo_17
  · rw [if_neg c_1] at hE
    have hin : vp_in k 3 := isIx_in (k := k) (n := 3) (by assumption) (by decide) (by decide)
    refine lv_aload_n hx hb dX6_addTo_9 rfl (lv_at hl 0 rfl) ?_
    refine lv_iload_n hx hb dX6_addTo_10 rfl (lv_at hl 1 rfl) ?_
    refine lv_dup2_11 hx hb dX6_addTo_11 rfl rfl ?_
    refine va_lald hx hb hK hP 0 1 rfl rfl (by assumption) dX6_addTo_12 ?_
    refine lv_iload_n hx hb dX6_addTo_13 rfl (lv_at hl 2 rfl) ?_
    refine lv_i2l hx hb dX6_addTo_14 rfl ?_
    refine lv_ladd hx hb dX6_addTo_15 ?_
    refine va_last hx hb hK hP hD hS 0 1 rfl rfl (by assumption) dX6_addTo_16 (fun H locs hP hD hS => ?_)
    have hP : va_P D vwCl [(qv, .inl (cJ, 3, .inr (.inl (vp_updL vb k.toNatClampNeg ((vb k.toNatClampNeg) + am.toInt64)))))] H := hP
    have hD : va_D A [(qv, .inl (cJ, 3, .inr (.inl (vp_updL vb k.toNatClampNeg ((vb k.toNatClampNeg) + am.toInt64)))))] := hD
    subst hE
    exact W.vret hx hb hr (fun t ht hW => ⟨rfl, by rw [ht]; exact hP, hD, hS.F ht⟩) hS.2.2 dX6_addTo_17
def FX6_balance_l20 (ys : Nat → Int64) (yp : Nat → Int32) (ym : Nat → Int32) (yn : Nat) (mo : Int32) : Nat → Nat → (Nat → Int64) → (Nat → Int64)
  | 0, _, _ => fun _ => 0
  | n + 1, k, vbx => if yn ≤ k then vbx else (if (ym k) = mo then FX6_balance_l20 ys yp ym yn mo n (k + 1) (FX6_addTo (FX6_addTo vbx ((yp k) - (yp k) / 3 * 3) (-25)) (FX5_systemOfSerial (ys k)) 25) else FX6_balance_l20 ys yp ym yn mo n (k + 1) vbx)
def FX6_balance_l2 (ys : Nat → Int64) (yp : Nat → Int32) (ym : Nat → Int32) (yn : Nat) (mo : Int32) : Nat → Nat → (Nat → Int64) → (Nat → Int64)
  | 0, _, _ => fun _ => 0
  | n + 1, k, vbx => if 3 ≤ k then FX6_balance_l20 ys yp ym yn mo (yn + 1) 0 vbx else FX6_balance_l2 ys yp ym yn mo n (k + 1) (vp_updL vbx k 0)
def FX6_balance (ys : Nat → Int64) (yp : Nat → Int32) (ym : Nat → Int32) (yn : Nat) (vb : Nat → Int64) (mo : Int32) : (Nat → Int64) := FX6_balance_l2 ys yp ym yn mo 4 0 vb
set_option maxHeartbeats 4000000 in
set_option maxRecDepth 100000 in
theorem kX6_balance (l : Launch) (D : va_G) (cI cJ cZ : ClassId) (qy : Nat) (y1 : Nat) (y2 : Nat) (y3 : Nat) (y4 : Nat) (y5 : Nat) (y6 : Nat) (ys : Nat → Int64) (yp : Nat → Int32) (yt : Nat → Int32) (yh : Nat → Int32) (ym : Nat → Int32) (yr : Nat → Int32) (yn : Nat) (qv : Nat) (vb : Nat → Int64) (mo : Int32) (sz : Nat) (hyn : yn ≤ 200) : Met l yX6_balance wsX6_balance ({ frames := 2, cells := 0, slots := 0, locals := 43 }) (mP D (tz cI cJ cZ) [.ref qy, .int mo, .ref qv] sz [(qy, .inr (6, [.ref y1, .ref y2, .ref y3, .ref y4, .ref y5, .ref y6, .int (nI yn)])), (y1, .inl (cJ, 200, .inr (.inl ys))), (y2, .inl (cI, 200, .inl yp)), (y3, .inl (cI, 200, .inl yt)), (y4, .inl (cI, 200, .inl yh)), (y5, .inl (cI, 200, .inl ym)), (y6, .inl (cI, 200, .inl yr)), (qv, .inl (cJ, 3, .inr (.inl vb)))]) (mQ D none [(qy, .inr (6, [.ref y1, .ref y2, .ref y3, .ref y4, .ref y5, .ref y6, .int (nI yn)])), (y1, .inl (cJ, 200, .inr (.inl ys))), (y2, .inl (cI, 200, .inl yp)), (y3, .inl (cI, 200, .inl yt)), (y4, .inl (cI, 200, .inl yh)), (y5, .inl (cI, 200, .inl ym)), (y6, .inl (cI, 200, .inl yr)), (qv, .inl (cJ, 3, .inr (.inl (FX6_balance ys yp ym yn vb mo))))] (va_A [(qy, .inr (6, [.ref y1, .ref y2, .ref y3, .ref y4, .ref y5, .ref y6, .int (nI yn)])), (y1, .inl (cJ, 200, .inr (.inl ys))), (y2, .inl (cI, 200, .inl yp)), (y3, .inl (cI, 200, .inl yt)), (y4, .inl (cI, 200, .inl yh)), (y5, .inl (cI, 200, .inl ym)), (y6, .inl (cI, 200, .inl yr)), (qv, .inl (cJ, 3, .inr (.inl vb)))] sz)) 0 0 (va_A [(qy, .inr (6, [.ref y1, .ref y2, .ref y3, .ref y4, .ref y5, .ref y6, .int (nI yn)])), (y1, .inl (cJ, 200, .inr (.inl ys))), (y2, .inl (cI, 200, .inl yp)), (y3, .inl (cI, 200, .inl yt)), (y4, .inl (cI, 200, .inl yh)), (y5, .inl (cI, 200, .inl ym)), (y6, .inl (cI, 200, .inl yr)), (qv, .inl (cJ, 3, .inr (.inl vb)))] sz) := by
  refine Met.ofW (cc := cX6_balance) (maxL := 4) (ret := none) (by decide) rfl ?_
  intro p e s m args below meth c s₁ B hml hv
  obtain ⟨rfl, hsz, hP, hK, hD0, hN⟩ := hv
  have hx := B.exec
  have hb := B.bytes
  have hr := B.returns
  have hts := atoms_spec (ws := wsX6_balance) B.pre
  have hown : s.vm.findClass RX6 = some m.cls := findClass_of_methodNamed B.named
  have hlocks := B.notSynchronized
  have iw_6 : ∀ w ∈ u_ws RX6 TX6 7, w ∈ wsX6_balance := by decide +kernel
  subst hsz
  have hD := hD0.self (sz := s.heap.size)
  generalize hE : FX6_balance ys yp ym yn vb mo = R0
  generalize hAe : va_A [(qy, .inr (6, [.ref y1, .ref y2, .ref y3, .ref y4, .ref y5, .ref y6, .int (nI yn)])), (y1, .inl (cJ, 200, .inr (.inl ys))), (y2, .inl (cI, 200, .inl yp)), (y3, .inl (cI, 200, .inl yt)), (y4, .inl (cI, 200, .inl yh)), (y5, .inl (cI, 200, .inl ym)), (y6, .inl (cI, 200, .inl yr)), (qv, .inl (cJ, 3, .inr (.inl vb)))] s.heap.size = A at hD ⊢
  have hA : ∀ q : Nat, s.heap.size ≤ q → A q := fun q h => by rw [← hAe]; exact Or.inr h
  have hS : va_S A s.heap s.heap [] := va_S.rf
  rw [FX6_balance] at hE
  have hl := lv_entry ([.ref qy, .int mo, .ref qv]) (n := 4) (Nat.le_of_ble_eq_true rfl)
  rw [lg_entry_eq]
  generalize (lg_sl ([.ref qy, .int mo, .ref qv]) ++ List.replicate (4 - (lg_sl ([.ref qy, .int mo, .ref qv])).length) Slot.unset).toArray = ls at hl ⊢
  have hl : lv_has ls 4 [(0, .ref qy), (1, .int mo), (2, .ref qv)] := hl
  have loop_20 : ∀ (n : Nat) (k : Nat) (vbx : Nat → Int64), k ≤ yn → k + n = yn + 1 → FX6_balance_l20 ys yp ym yn mo n k vbx = R0 → ∀ (H : Heap) (locs : List Loc), va_P D vwCl [(qy, .inr (6, [.ref y1, .ref y2, .ref y3, .ref y4, .ref y5, .ref y6, .int (nI yn)])), (y1, .inl (cJ, 200, .inr (.inl ys))), (y2, .inl (cI, 200, .inl yp)), (y3, .inl (cI, 200, .inl yt)), (y4, .inl (cI, 200, .inl yh)), (y5, .inl (cI, 200, .inl ym)), (y6, .inl (cI, 200, .inl yr)), (qv, .inl (cJ, 3, .inr (.inl vbx)))] H → va_D A [(qy, .inr (6, [.ref y1, .ref y2, .ref y3, .ref y4, .ref y5, .ref y6, .int (nI yn)])), (y1, .inl (cJ, 200, .inr (.inl ys))), (y2, .inl (cI, 200, .inl yp)), (y3, .inl (cI, 200, .inl yt)), (y4, .inl (cI, 200, .inl yh)), (y5, .inl (cI, 200, .inl ym)), (y6, .inl (cI, 200, .inl yr)), (qv, .inl (cJ, 3, .inr (.inl vbx)))] → va_S A s.heap H locs → ∀ ls : Array Slot, lv_has ls 4 [(3, .int (nI k)), (0, .ref qy), (1, .int mo), (2, .ref qv)] → W p l e (headSpec wsX6_balance ({ frames := 2, cells := 0, slots := 0, locals := 43 })).room s m ([.ref qy, .int mo, .ref qv] : List Value).toArray below meth c H locs 0 0 (MQ below (mQ D none [(qy, .inr (6, [.ref y1, .ref y2, .ref y3, .ref y4, .ref y5, .ref y6, .int (nI yn)])), (y1, .inl (cJ, 200, .inr (.inl ys))), (y2, .inl (cI, 200, .inl yp)), (y3, .inl (cI, 200, .inl yt)), (y4, .inl (cI, 200, .inl yh)), (y5, .inl (cI, 200, .inl ym)), (y6, .inl (cI, 200, .inl yr)), (qv, .inl (cJ, 3, .inr (.inl R0)))] A) ([.ref qy, .int mo, .ref qv] : List Value).toArray s 0 0 A) (F0 m 20 ls []) := by
    intro n
    induction n with
    | zero =>
      intro k vbx i_1 i_2
      exact absurd i_1 (by omega)
    | succ n ih =>
      intro k vbx i_1 i_2 hE H locs hP hD hS ls hl
      rw [FX6_balance_l20] at hE
      refine lv_iload_n hx hb dX6_balance_20 rfl (lv_at hl 0 rfl) ?_
      refine lv_aload_n hx hb dX6_balance_21 rfl (lv_at hl 1 rfl) ?_
      refine va_get (D := D) (ci := 6) (v := .int (nI yn)) (C := RX6) (T := TX6) (N := 7) hx hb hts iw_6 hown hK hP 0 rfl rfl 6 (by decide) (hts (.fieldLink RX6 31 "DepositCodes$Payments" "size" "I") (by decide +kernel)) (fun _ h9 => h9) rfl dX6_balance_22 ?_
      refine lv_icmp_ge (tgt := 73) hx hb dX6_balance_25 (by decide) (fun c_2 => ?_) (fun c_2 => ?_)
      · have c_2 : yn ≤ k := (nI_leI (a := yn) (b := k) (by omega) (by omega)).mp c_2
        rw [if_pos c_2] at hE
        subst hE
        exact W.vret hx hb hr (fun t ht hW => ⟨rfl, by rw [ht]; exact hP, hD, hS.F ht⟩) hS.2.2 dX6_balance_73
      · have c_2 : ¬ yn ≤ k := fun h9 => c_2 ((nI_leI (a := yn) (b := k) (by omega) (by omega)).mpr h9)
        rw [if_neg c_2] at hE
        refine lv_aload_n hx hb dX6_balance_28 rfl (lv_at hl 1 rfl) ?_
        refine va_get (D := D) (ci := 6) (v := .ref y5) (C := RX6) (T := TX6) (N := 7) hx hb hts iw_6 hown hK hP 0 rfl rfl 4 (by decide) (hts (.fieldLink RX6 25 "DepositCodes$Payments" "months" "[I") (by decide +kernel)) (fun _ h9 => h9) rfl dX6_balance_29 ?_
        refine lv_iload_n hx hb dX6_balance_32 rfl (lv_at hl 0 rfl) ?_
        refine na_iald hx hb hK hP 5 0 rfl rfl (by omega) (by decide) dX6_balance_33 ?_
        refine lv_iload_n hx hb dX6_balance_34 rfl (lv_at hl 2 rfl) ?_
        refine lv_icmp_ne (tgt := 67) hx hb dX6_balance_35 (by decide) (fun c_3 => ?_) (fun c_3 => ?_)
        · rw [if_neg c_3] at hE
          refine lv_iinc (v := nI (k + 1)) (lv' := [(3, .int (nI (k + 1))), (0, .ref qy), (1, .int mo), (2, .ref qv)]) hx hb dX6_balance_67 hl (k := 0) rfl (nI_1 k) (by decide) rfl (fun ls hl => ?_)
          refine lv_goto (tgt := 20) hx hb dX6_balance_70 (by decide) ?_
          exact ih (k + 1) vbx (by omega) (by omega) hE _ _ hP hD hS ls (lv_sub hl [0, 1, 2, 3] rfl)
        · rw [if_pos c_3] at hE
          refine lv_aload_n hx hb dX6_balance_38 rfl (lv_at hl 3 rfl) ?_
          refine lv_aload_n hx hb dX6_balance_39 rfl (lv_at hl 1 rfl) ?_
          refine va_get (D := D) (ci := 6) (v := .ref y2) (C := RX6) (T := TX6) (N := 7) hx hb hts iw_6 hown hK hP 0 rfl rfl 1 (by decide) (hts (.fieldLink RX6 15 "DepositCodes$Payments" "payers" "[I") (by decide +kernel)) (fun _ h9 => h9) rfl dX6_balance_40 ?_
          refine lv_iload_n hx hb dX6_balance_43 rfl (lv_at hl 0 rfl) ?_
          refine na_iald hx hb hK hP 2 0 rfl rfl (by omega) (by decide) dX6_balance_44 ?_
          refine lv_iconst (v := 3) hx hb dX6_balance_45 (by decide) ?_
          refine lv_irem hx hb dX6_balance_46 (by decide) ?_
          refine lv_bipush (v := (-25)) hx hb dX6_balance_47 (by decide) ?_
          refine mt_call0 (wr := [(qy, .inr (6, [.ref y1, .ref y2, .ref y3, .ref y4, .ref y5, .ref y6, .int (nI yn)])), (y1, .inl (cJ, 200, .inr (.inl ys))), (y2, .inl (cI, 200, .inl yp)), (y3, .inl (cI, 200, .inl yt)), (y4, .inl (cI, 200, .inl yh)), (y5, .inl (cI, 200, .inl ym)), (y6, .inl (cI, 200, .inl yr))]) (ws' := [(qy, .inr (6, [.ref y1, .ref y2, .ref y3, .ref y4, .ref y5, .ref y6, .int (nI yn)])), (y1, .inl (cJ, 200, .inr (.inl ys))), (y2, .inl (cI, 200, .inl yp)), (y3, .inl (cI, 200, .inl yt)), (y4, .inl (cI, 200, .inl yh)), (y5, .inl (cI, 200, .inl ym)), (y6, .inl (cI, 200, .inl yr)), (qv, .inl (cJ, 3, .inr (.inl (FX6_addTo vbx ((yp k) - (yp k) / 3 * 3) (-25)))))]) (st1 := []) (va_runS (As := [.ref qv, .int ((yp k) - (yp k) / 3 * 3), .int (-25)]) (rest := []) ⟨hx, hb, hml, hown, hts⟩ (kX6_addTo l D cI cJ cZ qv vbx ((yp k) - (yp k) / 3 * 3) (-25) _) (va_cwS 3 hts gX6_balance_X6_addTo rfl rfl rfl (by decide +kernel) ⟨Nat.le_of_ble_eq_true rfl, Nat.le_of_ble_eq_true rfl⟩) ⟨mP_blind, mP_pre (hP.sub [7] rfl) (hD.sub [7] (by decide) rfl) hK hN⟩ rfl rfl hl.1 rfl (lv_room (Nat.le_of_ble_eq_true rfl)) dX6_balance_49 ⟨Nat.zero_le _, Nat.zero_le _⟩) hP hD hS hA [7] [0, 1, 2, 3, 4, 5, 6] [0, 1, 2, 3, 4, 5, 6, 7] rfl rfl (by decide) (by decide) (by decide) rfl rfl (fun H locs hP hD hS => ?_)
          refine lv_aload_n hx hb dX6_balance_52 rfl (lv_at hl 3 rfl) ?_
          refine lv_aload_n hx hb dX6_balance_53 rfl (lv_at hl 1 rfl) ?_
          refine va_get (D := D) (ci := 6) (v := .ref y1) (C := RX6) (T := TX6) (N := 7) hx hb hts iw_6 hown hK hP 0 rfl rfl 0 (by decide) (hts (.fieldLink RX6 11 "DepositCodes$Payments" "serials" "[J") (by decide +kernel)) (fun _ h9 => h9) rfl dX6_balance_54 ?_
          refine lv_iload_n hx hb dX6_balance_57 rfl (lv_at hl 0 rfl) ?_
          refine na_lald hx hb hK hP 1 1 rfl rfl (by omega) (by decide) dX6_balance_58 ?_
          refine rd_call (va_runS (As := [.long (ys k)]) (rest := [.ref qv]) ⟨hx, hb, hml, hown, hts⟩ (kX5_systemOfSerial l D cI cJ cZ (ys k)) (va_cwS 1 hts gX6_balance_X5_systemOfSerial rfl rfl rfl (by decide +kernel) ⟨Nat.le_of_ble_eq_true rfl, Nat.le_of_ble_eq_true rfl⟩) ⟨rP_blind, rP_pre (va_P_nil) hK hN⟩ rfl rfl hl.1 rfl (lv_room (Nat.le_of_ble_eq_true rfl)) dX6_balance_59 ⟨Nat.zero_le _, Nat.zero_le _⟩) ?_
          refine lv_bipush (v := 25) hx hb dX6_balance_62 (by decide) ?_
          refine mt_call0 (wr := [(qy, .inr (6, [.ref y1, .ref y2, .ref y3, .ref y4, .ref y5, .ref y6, .int (nI yn)])), (y1, .inl (cJ, 200, .inr (.inl ys))), (y2, .inl (cI, 200, .inl yp)), (y3, .inl (cI, 200, .inl yt)), (y4, .inl (cI, 200, .inl yh)), (y5, .inl (cI, 200, .inl ym)), (y6, .inl (cI, 200, .inl yr))]) (ws' := [(qy, .inr (6, [.ref y1, .ref y2, .ref y3, .ref y4, .ref y5, .ref y6, .int (nI yn)])), (y1, .inl (cJ, 200, .inr (.inl ys))), (y2, .inl (cI, 200, .inl yp)), (y3, .inl (cI, 200, .inl yt)), (y4, .inl (cI, 200, .inl yh)), (y5, .inl (cI, 200, .inl ym)), (y6, .inl (cI, 200, .inl yr)), (qv, .inl (cJ, 3, .inr (.inl (FX6_addTo (FX6_addTo vbx ((yp k) - (yp k) / 3 * 3) (-25)) (FX5_systemOfSerial (ys k)) 25))))]) (st1 := []) (va_runS (As := [.ref qv, .int (FX5_systemOfSerial (ys k)), .int 25]) (rest := []) ⟨hx, hb, hml, hown, hts⟩ (kX6_addTo l D cI cJ cZ qv (FX6_addTo vbx ((yp k) - (yp k) / 3 * 3) (-25)) (FX5_systemOfSerial (ys k)) 25 _) (va_cwS 3 hts gX6_balance_X6_addTo rfl rfl rfl (by decide +kernel) ⟨Nat.le_of_ble_eq_true rfl, Nat.le_of_ble_eq_true rfl⟩) ⟨mP_blind, mP_pre (hP.sub [7] rfl) (hD.sub [7] (by decide) rfl) hK hN⟩ rfl rfl hl.1 rfl (lv_room (Nat.le_of_ble_eq_true rfl)) dX6_balance_64 ⟨Nat.zero_le _, Nat.zero_le _⟩) hP hD hS hA [7] [0, 1, 2, 3, 4, 5, 6] [0, 1, 2, 3, 4, 5, 6, 7] rfl rfl (by decide) (by decide) (by decide) rfl rfl (fun H locs hP hD hS => ?_)
          refine lv_iinc (v := nI (k + 1)) (lv' := [(3, .int (nI (k + 1))), (0, .ref qy), (1, .int mo), (2, .ref qv)]) hx hb dX6_balance_67 hl (k := 0) rfl (nI_1 k) (by decide) rfl (fun ls hl => ?_)
          refine lv_goto (tgt := 20) hx hb dX6_balance_70 (by decide) ?_
          exact ih (k + 1) (FX6_addTo (FX6_addTo vbx ((yp k) - (yp k) / 3 * 3) (-25)) (FX5_systemOfSerial (ys k)) 25) (by omega) (by omega) hE _ _ hP hD hS ls (lv_sub hl [0, 1, 2, 3] rfl)
  have loop_2 : ∀ (n : Nat) (k : Nat) (vbx : Nat → Int64), k ≤ 3 → k + n = 4 → FX6_balance_l2 ys yp ym yn mo n k vbx = R0 → ∀ (H : Heap) (locs : List Loc), va_P D vwCl [(qy, .inr (6, [.ref y1, .ref y2, .ref y3, .ref y4, .ref y5, .ref y6, .int (nI yn)])), (y1, .inl (cJ, 200, .inr (.inl ys))), (y2, .inl (cI, 200, .inl yp)), (y3, .inl (cI, 200, .inl yt)), (y4, .inl (cI, 200, .inl yh)), (y5, .inl (cI, 200, .inl ym)), (y6, .inl (cI, 200, .inl yr)), (qv, .inl (cJ, 3, .inr (.inl vbx)))] H → va_D A [(qy, .inr (6, [.ref y1, .ref y2, .ref y3, .ref y4, .ref y5, .ref y6, .int (nI yn)])), (y1, .inl (cJ, 200, .inr (.inl ys))), (y2, .inl (cI, 200, .inl yp)), (y3, .inl (cI, 200, .inl yt)), (y4, .inl (cI, 200, .inl yh)), (y5, .inl (cI, 200, .inl ym)), (y6, .inl (cI, 200, .inl yr)), (qv, .inl (cJ, 3, .inr (.inl vbx)))] → va_S A s.heap H locs → ∀ ls : Array Slot, lv_has ls 4 [(3, .int (nI k)), (0, .ref qy), (1, .int mo), (2, .ref qv)] → W p l e (headSpec wsX6_balance ({ frames := 2, cells := 0, slots := 0, locals := 43 })).room s m ([.ref qy, .int mo, .ref qv] : List Value).toArray below meth c H locs 0 0 (MQ below (mQ D none [(qy, .inr (6, [.ref y1, .ref y2, .ref y3, .ref y4, .ref y5, .ref y6, .int (nI yn)])), (y1, .inl (cJ, 200, .inr (.inl ys))), (y2, .inl (cI, 200, .inl yp)), (y3, .inl (cI, 200, .inl yt)), (y4, .inl (cI, 200, .inl yh)), (y5, .inl (cI, 200, .inl ym)), (y6, .inl (cI, 200, .inl yr)), (qv, .inl (cJ, 3, .inr (.inl R0)))] A) ([.ref qy, .int mo, .ref qv] : List Value).toArray s 0 0 A) (F0 m 2 ls []) := by
    intro n
    induction n with
    | zero =>
      intro k vbx i_1 i_2
      exact absurd i_1 (by omega)
    | succ n ih =>
      intro k vbx i_1 i_2 hE H locs hP hD hS ls hl
      rw [FX6_balance_l2] at hE
      refine lv_iload_n hx hb dX6_balance_2 rfl (lv_at hl 0 rfl) ?_
      refine lv_aload_n hx hb dX6_balance_3 rfl (lv_at hl 3 rfl) ?_
      refine va_alen (v := 3) hx hb hK hP 7 1 rfl rfl rfl dX6_balance_4 ?_
      refine lv_icmp_ge (tgt := 18) hx hb dX6_balance_5 (by decide) (fun c_1 => ?_) (fun c_1 => ?_)
      · have c_1 : 3 ≤ k := (nI_leI (a := 3) (b := k) (by omega) (by omega)).mp c_1
        rw [if_pos c_1] at hE
        refine lv_iconst (v := 0) hx hb dX6_balance_18 (by decide) ?_
        refine lv_istore_n (lv' := [(3, .int 0), (0, .ref qy), (1, .int mo), (2, .ref qv)]) hx hb dX6_balance_19 rfl hl (by decide) rfl (fun ls hl => ?_)
        exact loop_20 (yn + 1) 0 vbx (by omega) (by omega) hE _ _ hP hD hS ls (lv_sub hl [0, 1, 2, 3] rfl)
      · have c_1 : ¬ 3 ≤ k := fun h9 => c_1 ((nI_leI (a := 3) (b := k) (by omega) (by omega)).mpr h9)
        rw [if_neg c_1] at hE
        refine lv_aload_n hx hb dX6_balance_8 rfl (lv_at hl 3 rfl) ?_
        refine lv_iload_n hx hb dX6_balance_9 rfl (lv_at hl 0 rfl) ?_
        refine lv_lconst (v := 0) hx hb dX6_balance_10 (by decide) ?_
        refine na_last hx hb hK hP hD hS 7 1 rfl rfl (by omega) (by decide) dX6_balance_11 (fun H locs hP hD hS => ?_)
        have hP : va_P D vwCl [(qy, .inr (6, [.ref y1, .ref y2, .ref y3, .ref y4, .ref y5, .ref y6, .int (nI yn)])), (y1, .inl (cJ, 200, .inr (.inl ys))), (y2, .inl (cI, 200, .inl yp)), (y3, .inl (cI, 200, .inl yt)), (y4, .inl (cI, 200, .inl yh)), (y5, .inl (cI, 200, .inl ym)), (y6, .inl (cI, 200, .inl yr)), (qv, .inl (cJ, 3, .inr (.inl (vp_updL vbx k 0))))] H := hP
        have hD : va_D A [(qy, .inr (6, [.ref y1, .ref y2, .ref y3, .ref y4, .ref y5, .ref y6, .int (nI yn)])), (y1, .inl (cJ, 200, .inr (.inl ys))), (y2, .inl (cI, 200, .inl yp)), (y3, .inl (cI, 200, .inl yt)), (y4, .inl (cI, 200, .inl yh)), (y5, .inl (cI, 200, .inl ym)), (y6, .inl (cI, 200, .inl yr)), (qv, .inl (cJ, 3, .inr (.inl (vp_updL vbx k 0))))] := hD
        refine lv_iinc (v := nI (k + 1)) (lv' := [(3, .int (nI (k + 1))), (0, .ref qy), (1, .int mo), (2, .ref qv)]) hx hb dX6_balance_12 hl (k := 0) rfl (nI_1 k) (by decide) rfl (fun ls hl => ?_)
        refine lv_goto (tgt := 2) hx hb dX6_balance_15 (by decide) ?_
        exact ih (k + 1) (vp_updL vbx k 0) (by omega) (by omega) hE _ _ hP hD hS ls (lv_sub hl [0, 1, 2, 3] rfl)
  refine lv_iconst (v := 0) hx hb dX6_balance_0 (by decide) ?_
  refine lv_istore_n (lv' := [(3, .int 0), (0, .ref qy), (1, .int mo), (2, .ref qv)]) hx hb dX6_balance_1 rfl hl (by decide) rfl (fun ls hl => ?_)
  exact loop_2 4 0 vb (by omega) (by omega) hE _ _ hP hD hS ls (lv_sub hl [0, 1, 2, 3] rfl)
