def FX1_print (ca : Nat → Int32) (cn : Nat) (am : Int32) : Int32 × (Nat → Int32) × Nat := if cn < 200 then (nI cn, upd ca cn am, cn + 1) else ((-1), ca, cn)
set_option maxHeartbeats 4000000 in
set_option maxRecDepth 100000 in
theorem kX1_print (l : Launch) (D : va_G) (cI cJ cZ : ClassId) (qc : Nat) (c1 : Nat) (c2 : Nat) (c3 : Nat) (ca : Nat → Int32) (cr : Nat → Int32) (cs : Nat → Int64) (cn : Nat) (am : Int32) (sz : Nat) (hcn : cn ≤ 200) : Met l yX1_print wsX1_print ({ frames := 0, cells := 0, slots := 0, locals := 0 }) (mP D (tz cI cJ cZ) [.ref qc, .int am] sz [(qc, .inr (2, [.ref c1, .ref c2, .ref c3, .int (nI cn)])), (c1, .inl (cI, 200, .inl ca)), (c2, .inl (cZ, 200, .inl cr)), (c3, .inl (cJ, 100, .inr (.inl cs)))]) (mQ D (some (.int ((FX1_print ca cn am).1))) [(qc, .inr (2, [.ref c1, .ref c2, .ref c3, .int (nI ((FX1_print ca cn am).2.2))])), (c1, .inl (cI, 200, .inl ((FX1_print ca cn am).2.1))), (c2, .inl (cZ, 200, .inl cr)), (c3, .inl (cJ, 100, .inr (.inl cs)))] (va_A [(qc, .inr (2, [.ref c1, .ref c2, .ref c3, .int (nI cn)])), (c1, .inl (cI, 200, .inl ca)), (c2, .inl (cZ, 200, .inl cr)), (c3, .inl (cJ, 100, .inr (.inl cs)))] sz)) 0 0 (va_A [(qc, .inr (2, [.ref c1, .ref c2, .ref c3, .int (nI cn)])), (c1, .inl (cI, 200, .inl ca)), (c2, .inl (cZ, 200, .inl cr)), (c3, .inl (cJ, 100, .inr (.inl cs)))] sz) := by
  refine Met.ofW (cc := cX1_print) (maxL := 3) (ret := (some .int)) (by decide) rfl ?_
  intro p e s m args below meth c s₁ B hml hv
  obtain ⟨rfl, hsz, hP, hK, hD0, hN⟩ := hv
  have hx := B.exec
  have hb := B.bytes
  have hr := B.returns
  have hts := atoms_spec (ws := wsX1_print) B.pre
  have hown : s.vm.findClass RX1 = some m.cls := findClass_of_methodNamed B.named
  have hlocks := B.notSynchronized
  have iw_2 : ∀ w ∈ u_ws RX1 TX1 4, w ∈ wsX1_print := by decide +kernel
  subst hsz
  have hD := hD0.self (sz := s.heap.size)
  generalize hE : FX1_print ca cn am = R0
  generalize hAe : va_A [(qc, .inr (2, [.ref c1, .ref c2, .ref c3, .int (nI cn)])), (c1, .inl (cI, 200, .inl ca)), (c2, .inl (cZ, 200, .inl cr)), (c3, .inl (cJ, 100, .inr (.inl cs)))] s.heap.size = A at hD ⊢
  have hA : ∀ q : Nat, s.heap.size ≤ q → A q := fun q h => by rw [← hAe]; exact Or.inr h
  have hS : va_S A s.heap s.heap [] := va_S.rf
  rw [FX1_print] at hE
  have hl := lv_entry ([.ref qc, .int am]) (n := 3) (Nat.le_of_ble_eq_true rfl)
  rw [lg_entry_eq]
  generalize (lg_sl ([.ref qc, .int am]) ++ List.replicate (3 - (lg_sl ([.ref qc, .int am])).length) Slot.unset).toArray = ls at hl ⊢
  have hl : lv_has ls 3 [(0, .ref qc), (1, .int am)] := hl
  refine lv_aload_n hx hb dX1_print_0 rfl (lv_at hl 0 rfl) ?_
  refine va_get (D := D) (ci := 2) (v := .int (nI cn)) (C := RX1) (T := TX1) (N := 4) hx hb hts iw_2 hown hK hP 0 rfl rfl 3 (by decide) (hts (.fieldLink RX1 25 "DepositCodes$Coupons" "size" "I") (by decide +kernel)) (fun _ h9 => h9) rfl dX1_print_1 ?_
  refine lv_sipush (v := 200) hx hb dX1_print_4 (by decide) ?_
  refine lv_icmp_lt (tgt := 12) hx hb dX1_print_7 (by decide) (fun c_1 => ?_) (fun c_1 => ?_)
  · have c_1 : cn < 200 := (nI_ltI (a := cn) (b := 200) (by omega) (by omega)).mp c_1
    rw [if_pos c_1] at hE
    refine lv_aload_n hx hb dX1_print_12 rfl (lv_at hl 0 rfl) ?_
    refine va_get (D := D) (ci := 2) (v := .int (nI cn)) (C := RX1) (T := TX1) (N := 4) hx hb hts iw_2 hown hK hP 0 rfl rfl 3 (by decide) (hts (.fieldLink RX1 25 "DepositCodes$Coupons" "size" "I") (by decide +kernel)) (fun _ h9 => h9) rfl dX1_print_13 ?_
    refine lv_istore_n (lv' := [(2, .int (nI cn)), (0, .ref qc), (1, .int am)]) hx hb dX1_print_16 rfl hl (by decide) rfl (fun ls hl => ?_)
    refine lv_aload_n hx hb dX1_print_17 rfl (lv_at hl 1 rfl) ?_
    refine va_get (D := D) (ci := 2) (v := .ref c1) (C := RX1) (T := TX1) (N := 4) hx hb hts iw_2 hown hK hP 0 rfl rfl 0 (by decide) (hts (.fieldLink RX1 11 "DepositCodes$Coupons" "amounts" "[I") (by decide +kernel)) (fun _ h9 => h9) rfl dX1_print_18 ?_
    refine lv_iload_n hx hb dX1_print_21 rfl (lv_at hl 0 rfl) ?_
    refine lv_iload_n hx hb dX1_print_22 rfl (lv_at hl 2 rfl) ?_
    refine na_iast hx hb hK hP hD hS 1 0 rfl rfl (by omega) (by decide) dX1_print_23 (fun H locs hP hD hS => ?_)
    have hP : va_P D vwCl [(qc, .inr (2, [.ref c1, .ref c2, .ref c3, .int (nI cn)])), (c1, .inl (cI, 200, .inl (upd ca cn am))), (c2, .inl (cZ, 200, .inl cr)), (c3, .inl (cJ, 100, .inr (.inl cs)))] H := hP
    have hD : va_D A [(qc, .inr (2, [.ref c1, .ref c2, .ref c3, .int (nI cn)])), (c1, .inl (cI, 200, .inl (upd ca cn am))), (c2, .inl (cZ, 200, .inl cr)), (c3, .inl (cJ, 100, .inr (.inl cs)))] := hD
    refine lv_aload_n hx hb dX1_print_24 rfl (lv_at hl 1 rfl) ?_
    refine lv_dup hx hb dX1_print_25 rfl ?_
    refine va_get (D := D) (ci := 2) (v := .int (nI cn)) (C := RX1) (T := TX1) (N := 4) hx hb hts iw_2 hown hK hP 0 rfl rfl 3 (by decide) (hts (.fieldLink RX1 25 "DepositCodes$Coupons" "size" "I") (by decide +kernel)) (fun _ h9 => h9) rfl dX1_print_26 ?_
    refine lv_iconst (v := 1) hx hb dX1_print_29 (by decide) ?_
    refine lv_iadd hx hb dX1_print_30 ?_
    refine na_top (show (nI cn) + 1 = nI (cn + 1) from nI_add cn 1) ?_
    refine va_put (D := D) (ci := 2) (v := .int (nI (cn + 1))) (ty := .int) (C := RX1) (T := TX1) (N := 4) hx hb hts iw_2 tyX1 tyX1_ok nmX1 hown hK hP hD hS 0 rfl rfl 3 (by decide) (hts (.fieldLink RX1 25 "DepositCodes$Coupons" "size" "I") (by decide +kernel)) (fun _ h9 => h9) rfl (by decide +kernel) rfl rfl (Nat.le_of_ble_eq_true rfl) dX1_print_31 (fun H locs hP hD hS => ?_)
    have hP : va_P D vwCl [(qc, .inr (2, [.ref c1, .ref c2, .ref c3, .int (nI (cn + 1))])), (c1, .inl (cI, 200, .inl (upd ca cn am))), (c2, .inl (cZ, 200, .inl cr)), (c3, .inl (cJ, 100, .inr (.inl cs)))] H := hP
    have hD : va_D A [(qc, .inr (2, [.ref c1, .ref c2, .ref c3, .int (nI (cn + 1))])), (c1, .inl (cI, 200, .inl (upd ca cn am))), (c2, .inl (cZ, 200, .inl cr)), (c3, .inl (cJ, 100, .inr (.inl cs)))] := hD
    refine lv_iload_n hx hb dX1_print_34 rfl (lv_at hl 0 rfl) ?_
    subst hE
    exact W.iret hx hb hr (fun t ht hW => ⟨rfl, by rw [ht]; exact hP, hD, hS.F ht⟩) hS.2.2 dX1_print_35
  · have c_1 : ¬ cn < 200 := fun h9 => c_1 ((nI_ltI (a := cn) (b := 200) (by omega) (by omega)).mpr h9)
    rw [if_neg c_1] at hE
    refine lv_iconst (v := (-1)) hx hb dX1_print_10 (by decide) ?_
    subst hE
    exact W.iret hx hb hr (fun t ht hW => ⟨rfl, by rw [ht]; exact hP, hD, hS.F ht⟩) hS.2.2 dX1_print_11
def FX1_redeemedBy (cs : Nat → Int64) (k : Int32) : Int64 := if (FX8_isIndex k 100) = 0 then (-1) else cs k.toNatClampNeg
set_option maxHeartbeats 4000000 in
set_option maxRecDepth 100000 in
theorem kX1_redeemedBy (l : Launch) (D : va_G) (cI cJ cZ : ClassId) (qc : Nat) (c1 : Nat) (c2 : Nat) (c3 : Nat) (ca : Nat → Int32) (cr : Nat → Int32) (cs : Nat → Int64) (cn : Nat) (k : Int32) : Met l yX1_redeemedBy wsX1_redeemedBy ({ frames := 1, cells := 0, slots := 0, locals := 21 }) (rP D (tz cI cJ cZ) [.ref qc, .int k] [(qc, .inr (2, [.ref c1, .ref c2, .ref c3, .int (nI cn)])), (c1, .inl (cI, 200, .inl ca)), (c2, .inl (cZ, 200, .inl cr)), (c3, .inl (cJ, 100, .inr (.inl cs)))]) (k2_QcV (.long (FX1_redeemedBy cs k))) 0 0 (fun _ => False) := by
  refine Met.ofW (cc := cX1_redeemedBy) (maxL := 2) (ret := (some .long)) (by decide) rfl ?_
  intro p e s m args below meth c s₁ B hml hv
  obtain ⟨rfl, hP, hK, hN⟩ := hv
  have hx := B.exec
  have hb := B.bytes
  have hr := B.returns
  have hts := atoms_spec (ws := wsX1_redeemedBy) B.pre
  have hown : s.vm.findClass RX1 = some m.cls := findClass_of_methodNamed B.named
  have hlocks := B.notSynchronized
  have iw_2 : ∀ w ∈ u_ws RX1 TX1 4, w ∈ wsX1_redeemedBy := by decide +kernel
  generalize hE : FX1_redeemedBy cs k = R0
  rw [FX1_redeemedBy] at hE
  have hl := lv_entry ([.ref qc, .int k]) (n := 2) (Nat.le_of_ble_eq_true rfl)
  rw [lg_entry_eq]
  generalize (lg_sl ([.ref qc, .int k]) ++ List.replicate (2 - (lg_sl ([.ref qc, .int k])).length) Slot.unset).toArray = ls at hl ⊢
  have hl : lv_has ls 2 [(0, .ref qc), (1, .int k)] := hl
  refine lv_iload_n hx hb dX1_redeemedBy_0 rfl (lv_at hl 1 rfl) ?_
  refine lv_bipush (v := 100) hx hb dX1_redeemedBy_1 (by decide) ?_
  refine rd_call (va_runSN (As := [.int k, .int 100]) (rest := []) ⟨hx, hb, hml, hown, hts⟩ (kX8_isIndex l D cI cJ cZ k 100) ⟨va_cnB 2 hts gX1_redeemedBy_X8_isIndex_n29 rfl rfl rfl hN.2.1 (hts (.initialized RX8) (by decide +kernel)) (by decide +kernel) ⟨Nat.le_of_ble_eq_true rfl, Nat.le_of_ble_eq_true rfl⟩, hts (.static yX8_isIndex) (by decide +kernel), trivial⟩ ⟨rP_blind, rP_pre (va_P_nil) hK hN⟩ rfl rfl hl.1 rfl (lv_room (Nat.le_of_ble_eq_true rfl)) dX1_redeemedBy_3 ⟨Nat.zero_le _, Nat.zero_le _⟩) ?_
  refine lv_if_eq (tgt := 18) hx hb dX1_redeemedBy_6 (by decide) (fun c_1 => ?_) (fun c_1 => ?_)
  · rw [if_pos c_1] at hE
    refine lv_ldc2 hx hb hown (hts (.constantLong RX1 33 (-1)) (by decide +kernel)) dX1_redeemedBy_18 ?_
    exact W.lret hx hb hr (fun t ht hW => ⟨by rw [← hE], ht⟩) (fun q h => absurd h List.not_mem_nil) dX1_redeemedBy_21
  · rw [if_neg c_1] at hE
    have hin : vp_in k 100 := isIx_in (k := k) (n := 100) (by assumption) (by decide) (by decide)
    refine lv_aload_n hx hb dX1_redeemedBy_9 rfl (lv_at hl 0 rfl) ?_
    refine va_get (D := D) (ci := 2) (v := .ref c3) (C := RX1) (T := TX1) (N := 4) hx hb hts iw_2 hown hK hP 0 rfl rfl 2 (by decide) (hts (.fieldLink RX1 21 "DepositCodes$Coupons" "sums" "[J") (by decide +kernel)) (fun _ h9 => h9) rfl dX1_redeemedBy_10 ?_
    refine lv_iload_n hx hb dX1_redeemedBy_13 rfl (lv_at hl 1 rfl) ?_
    refine va_lald hx hb hK hP 3 1 rfl rfl (by assumption) dX1_redeemedBy_14 ?_
    refine lv_goto (tgt := 21) hx hb dX1_redeemedBy_15 (by decide) ?_
    exact W.lret hx hb hr (fun t ht hW => ⟨by rw [← hE], ht⟩) (fun q h => absurd h List.not_mem_nil) dX1_redeemedBy_21
def FX1_redeemAt (ca : Nat → Int32) (cr : Nat → Int32) (cs : Nat → Int64) (cn : Nat) (k : Int32) (w : Int32) : Int32 × (Nat → Int32) × (Nat → Int64) := if (FX8_isIndex k (nI cn)) = 0 then (0, cr, cs) else (if (FX8_isIndex w 100) = 0 then (0, cr, cs) else (if (cr k.toNatClampNeg) = 0 then (1, upd cr k.toNatClampNeg (vp_nar .boolean 1), vp_updL cs w.toNatClampNeg ((cs w.toNatClampNeg) + ((ca k.toNatClampNeg).toInt64))) else (0, cr, cs)))
theorem FX1_redeemAt_b (ca : Nat → Int32) (cr : Nat → Int32) (cs : Nat → Int64) (cn : Nat) (k : Int32) (w : Int32) : isB ((FX1_redeemAt ca cr cs cn k w).1) := by
  unfold FX1_redeemAt
  repeat' split
  all_goals first | exact isB_0 | exact isB_1
set_option maxHeartbeats 4000000 in
set_option maxRecDepth 100000 in
theorem kX1_redeemAt (l : Launch) (D : va_G) (cI cJ cZ : ClassId) (qc : Nat) (c1 : Nat) (c2 : Nat) (c3 : Nat) (ca : Nat → Int32) (cr : Nat → Int32) (cs : Nat → Int64) (cn : Nat) (k : Int32) (w : Int32) (sz : Nat) (hcn : cn ≤ 200) : Met l yX1_redeemAt wsX1_redeemAt ({ frames := 1, cells := 0, slots := 0, locals := 21 }) (mP D (tz cI cJ cZ) [.ref qc, .int k, .int w] sz [(qc, .inr (2, [.ref c1, .ref c2, .ref c3, .int (nI cn)])), (c1, .inl (cI, 200, .inl ca)), (c2, .inl (cZ, 200, .inl cr)), (c3, .inl (cJ, 100, .inr (.inl cs)))]) (mQ D (some (.int ((FX1_redeemAt ca cr cs cn k w).1))) [(qc, .inr (2, [.ref c1, .ref c2, .ref c3, .int (nI cn)])), (c1, .inl (cI, 200, .inl ca)), (c2, .inl (cZ, 200, .inl ((FX1_redeemAt ca cr cs cn k w).2.1))), (c3, .inl (cJ, 100, .inr (.inl ((FX1_redeemAt ca cr cs cn k w).2.2))))] (va_A [(qc, .inr (2, [.ref c1, .ref c2, .ref c3, .int (nI cn)])), (c1, .inl (cI, 200, .inl ca)), (c2, .inl (cZ, 200, .inl cr)), (c3, .inl (cJ, 100, .inr (.inl cs)))] sz)) 0 0 (va_A [(qc, .inr (2, [.ref c1, .ref c2, .ref c3, .int (nI cn)])), (c1, .inl (cI, 200, .inl ca)), (c2, .inl (cZ, 200, .inl cr)), (c3, .inl (cJ, 100, .inr (.inl cs)))] sz) := by
  refine Met.ofW (cc := cX1_redeemAt) (maxL := 3) (ret := (some .boolean)) (by decide) rfl ?_
  intro p e s m args below meth c s₁ B hml hv
  obtain ⟨rfl, hsz, hP, hK, hD0, hN⟩ := hv
  have hx := B.exec
  have hb := B.bytes
  have hr := B.returns
  have hts := atoms_spec (ws := wsX1_redeemAt) B.pre
  have hown : s.vm.findClass RX1 = some m.cls := findClass_of_methodNamed B.named
  have hlocks := B.notSynchronized
  have iw_2 : ∀ w ∈ u_ws RX1 TX1 4, w ∈ wsX1_redeemAt := by decide +kernel
  subst hsz
  have hD := hD0.self (sz := s.heap.size)
  generalize hE : FX1_redeemAt ca cr cs cn k w = R0
  generalize hAe : va_A [(qc, .inr (2, [.ref c1, .ref c2, .ref c3, .int (nI cn)])), (c1, .inl (cI, 200, .inl ca)), (c2, .inl (cZ, 200, .inl cr)), (c3, .inl (cJ, 100, .inr (.inl cs)))] s.heap.size = A at hD ⊢
  have hA : ∀ q : Nat, s.heap.size ≤ q → A q := fun q h => by rw [← hAe]; exact Or.inr h
  have hS : va_S A s.heap s.heap [] := va_S.rf
  rw [FX1_redeemAt] at hE
  have hl := lv_entry ([.ref qc, .int k, .int w]) (n := 3) (Nat.le_of_ble_eq_true rfl)
  rw [lg_entry_eq]
  generalize (lg_sl ([.ref qc, .int k, .int w]) ++ List.replicate (3 - (lg_sl ([.ref qc, .int k, .int w])).length) Slot.unset).toArray = ls at hl ⊢
  have hl : lv_has ls 3 [(0, .ref qc), (1, .int k), (2, .int w)] := hl
  refine lv_iload_n hx hb dX1_redeemAt_0 rfl (lv_at hl 1 rfl) ?_
  refine lv_aload_n hx hb dX1_redeemAt_1 rfl (lv_at hl 0 rfl) ?_
  refine va_get (D := D) (ci := 2) (v := .int (nI cn)) (C := RX1) (T := TX1) (N := 4) hx hb hts iw_2 hown hK hP 0 rfl rfl 3 (by decide) (hts (.fieldLink RX1 25 "DepositCodes$Coupons" "size" "I") (by decide +kernel)) (fun _ h9 => h9) rfl dX1_redeemAt_2 ?_
  refine rd_call (va_runSN (As := [.int k, .int (nI cn)]) (rest := []) ⟨hx, hb, hml, hown, hts⟩ (kX8_isIndex l D cI cJ cZ k (nI cn)) ⟨va_cnB 2 hts gX1_redeemAt_X8_isIndex_n29 rfl rfl rfl hN.2.1 (hts (.initialized RX8) (by decide +kernel)) (by decide +kernel) ⟨Nat.le_of_ble_eq_true rfl, Nat.le_of_ble_eq_true rfl⟩, hts (.static yX8_isIndex) (by decide +kernel), trivial⟩ ⟨rP_blind, rP_pre (va_P_nil) hK hN⟩ rfl rfl hl.1 rfl (lv_room (Nat.le_of_ble_eq_true rfl)) dX1_redeemAt_5 ⟨Nat.zero_le _, Nat.zero_le _⟩) ?_
  refine lv_if_eq (tgt := 29) hx hb dX1_redeemAt_8 (by decide) (fun c_1 => ?_) (fun c_1 => ?_)
  · rw [if_pos c_1] at hE
    refine lv_iconst (v := 0) hx hb dX1_redeemAt_29 (by decide) ?_
    subst hE
    exact W.zret hx hb hr narrow_b0 (fun t ht hW => ⟨rfl, by rw [ht]; exact hP, hD, hS.F ht⟩) hS.2.2 dX1_redeemAt_30
  · rw [if_neg c_1] at hE
    refine lv_iload_n hx hb dX1_redeemAt_11 rfl (lv_at hl 2 rfl) ?_
    refine lv_bipush (v := 100) hx hb dX1_redeemAt_12 (by decide) ?_
    refine rd_call (va_runSN (As := [.int w, .int 100]) (rest := []) ⟨hx, hb, hml, hown, hts⟩ (kX8_isIndex l D cI cJ cZ w 100) ⟨va_cnB 2 hts gX1_redeemAt_X8_isIndex_n29 rfl rfl rfl hN.2.1 (hts (.initialized RX8) (by decide +kernel)) (by decide +kernel) ⟨Nat.le_of_ble_eq_true rfl, Nat.le_of_ble_eq_true rfl⟩, hts (.static yX8_isIndex) (by decide +kernel), trivial⟩ ⟨rP_blind, rP_pre (va_P_nil) hK hN⟩ rfl rfl hl.1 rfl (lv_room (Nat.le_of_ble_eq_true rfl)) dX1_redeemAt_14 ⟨Nat.zero_le _, Nat.zero_le _⟩) ?_
    refine lv_if_eq (tgt := 29) hx hb dX1_redeemAt_17 (by decide) (fun c_2 => ?_) (fun c_2 => ?_)
    · rw [if_pos c_2] at hE
      refine lv_iconst (v := 0) hx hb dX1_redeemAt_29 (by decide) ?_
      subst hE
      exact W.zret hx hb hr narrow_b0 (fun t ht hW => ⟨rfl, by rw [ht]; exact hP, hD, hS.F ht⟩) hS.2.2 dX1_redeemAt_30
    · rw [if_neg c_2] at hE
      have hin : vp_in k 200 := isIx_in (k := k) (n := cn) (by assumption) hcn (by decide)
      have hin2 : vp_in w 100 := isIx_in (k := w) (n := 100) (by assumption) (by decide) (by decide)
      refine lv_aload_n hx hb dX1_redeemAt_20 rfl (lv_at hl 0 rfl) ?_
      refine va_get (D := D) (ci := 2) (v := .ref c2) (C := RX1) (T := TX1) (N := 4) hx hb hts iw_2 hown hK hP 0 rfl rfl 1 (by decide) (hts (.fieldLink RX1 17 "DepositCodes$Coupons" "redeemed" "[Z") (by decide +kernel)) (fun _ h9 => h9) rfl dX1_redeemAt_21 ?_
      refine lv_iload_n hx hb dX1_redeemAt_24 rfl (lv_at hl 1 rfl) ?_
      refine va_zald hx hb hK hP 2 2 rfl rfl (by assumption) dX1_redeemAt_25 ?_
      refine lv_if_eq (tgt := 31) hx hb dX1_redeemAt_26 (by decide) (fun c_3 => ?_) (fun c_3 => ?_)
      · rw [if_pos c_3] at hE
        refine lv_aload_n hx hb dX1_redeemAt_31 rfl (lv_at hl 0 rfl) ?_
        refine va_get (D := D) (ci := 2) (v := .ref c2) (C := RX1) (T := TX1) (N := 4) hx hb hts iw_2 hown hK hP 0 rfl rfl 1 (by decide) (hts (.fieldLink RX1 17 "DepositCodes$Coupons" "redeemed" "[Z") (by decide +kernel)) (fun _ h9 => h9) rfl dX1_redeemAt_32 ?_
        refine lv_iload_n hx hb dX1_redeemAt_35 rfl (lv_at hl 1 rfl) ?_
        refine lv_iconst (v := 1) hx hb dX1_redeemAt_36 (by decide) ?_
        refine va_zast hx hb hK hP hD hS 2 2 rfl rfl (by assumption) dX1_redeemAt_37 (fun H locs hP hD hS => ?_)
        have hP : va_P D vwCl [(qc, .inr (2, [.ref c1, .ref c2, .ref c3, .int (nI cn)])), (c1, .inl (cI, 200, .inl ca)), (c2, .inl (cZ, 200, .inl (upd cr k.toNatClampNeg (vp_nar .boolean 1)))), (c3, .inl (cJ, 100, .inr (.inl cs)))] H := hP
        have hD : va_D A [(qc, .inr (2, [.ref c1, .ref c2, .ref c3, .int (nI cn)])), (c1, .inl (cI, 200, .inl ca)), (c2, .inl (cZ, 200, .inl (upd cr k.toNatClampNeg (vp_nar .boolean 1)))), (c3, .inl (cJ, 100, .inr (.inl cs)))] := hD
        refine lv_aload_n hx hb dX1_redeemAt_38 rfl (lv_at hl 0 rfl) ?_
        refine va_get (D := D) (ci := 2) (v := .ref c3) (C := RX1) (T := TX1) (N := 4) hx hb hts iw_2 hown hK hP 0 rfl rfl 2 (by decide) (hts (.fieldLink RX1 21 "DepositCodes$Coupons" "sums" "[J") (by decide +kernel)) (fun _ h9 => h9) rfl dX1_redeemAt_39 ?_
        refine lv_iload_n hx hb dX1_redeemAt_42 rfl (lv_at hl 2 rfl) ?_
        refine lv_dup2_11 hx hb dX1_redeemAt_43 rfl rfl ?_
        refine va_lald hx hb hK hP 3 1 rfl rfl (by assumption) dX1_redeemAt_44 ?_
        refine lv_aload_n hx hb dX1_redeemAt_45 rfl (lv_at hl 0 rfl) ?_
        refine va_get (D := D) (ci := 2) (v := .ref c1) (C := RX1) (T := TX1) (N := 4) hx hb hts iw_2 hown hK hP 0 rfl rfl 0 (by decide) (hts (.fieldLink RX1 11 "DepositCodes$Coupons" "amounts" "[I") (by decide +kernel)) (fun _ h9 => h9) rfl dX1_redeemAt_46 ?_
        refine lv_iload_n hx hb dX1_redeemAt_49 rfl (lv_at hl 1 rfl) ?_
        refine va_iald hx hb hK hP 1 0 rfl rfl (by assumption) dX1_redeemAt_50 ?_
        refine lv_i2l hx hb dX1_redeemAt_51 rfl ?_
        refine lv_ladd hx hb dX1_redeemAt_52 ?_
        refine va_last hx hb hK hP hD hS 3 1 rfl rfl (by assumption) dX1_redeemAt_53 (fun H locs hP hD hS => ?_)
        have hP : va_P D vwCl [(qc, .inr (2, [.ref c1, .ref c2, .ref c3, .int (nI cn)])), (c1, .inl (cI, 200, .inl ca)), (c2, .inl (cZ, 200, .inl (upd cr k.toNatClampNeg (vp_nar .boolean 1)))), (c3, .inl (cJ, 100, .inr (.inl (vp_updL cs w.toNatClampNeg ((cs w.toNatClampNeg) + ((ca k.toNatClampNeg).toInt64))))))] H := hP
        have hD : va_D A [(qc, .inr (2, [.ref c1, .ref c2, .ref c3, .int (nI cn)])), (c1, .inl (cI, 200, .inl ca)), (c2, .inl (cZ, 200, .inl (upd cr k.toNatClampNeg (vp_nar .boolean 1)))), (c3, .inl (cJ, 100, .inr (.inl (vp_updL cs w.toNatClampNeg ((cs w.toNatClampNeg) + ((ca k.toNatClampNeg).toInt64))))))] := hD
        refine lv_iconst (v := 1) hx hb dX1_redeemAt_54 (by decide) ?_
        subst hE
        exact W.zret hx hb hr narrow_b1 (fun t ht hW => ⟨rfl, by rw [ht]; exact hP, hD, hS.F ht⟩) hS.2.2 dX1_redeemAt_55
      · rw [if_neg c_3] at hE
        refine lv_iconst (v := 0) hx hb dX1_redeemAt_29 (by decide) ?_
        subst hE
        exact W.zret hx hb hr narrow_b0 (fun t ht hW => ⟨rfl, by rw [ht]; exact hP, hD, hS.F ht⟩) hS.2.2 dX1_redeemAt_30
def FX3_add (fp : Nat → Int32) (fn : Nat) (mc : Int32) : (Nat → Int32) × Nat := if 170 ≤ fn then (fp, fn) else (upd fp fn mc, fn + 1)
set_option maxHeartbeats 4000000 in
set_option maxRecDepth 100000 in
theorem kX3_add (l : Launch) (D : va_G) (cI cJ cZ : ClassId) (qf : Nat) (f1 : Nat) (fp : Nat → Int32) (fn : Nat) (mc : Int32) (sz : Nat) (hfn : fn ≤ 170) : Met l yX3_add wsX3_add ({ frames := 0, cells := 0, slots := 0, locals := 0 }) (mP D (tz cI cJ cZ) [.ref qf, .int mc] sz [(qf, .inr (4, [.ref f1, .int (nI fn)])), (f1, .inl (cI, 170, .inl fp))]) (mQ D none [(qf, .inr (4, [.ref f1, .int (nI ((FX3_add fp fn mc).2))])), (f1, .inl (cI, 170, .inl ((FX3_add fp fn mc).1)))] (va_A [(qf, .inr (4, [.ref f1, .int (nI fn)])), (f1, .inl (cI, 170, .inl fp))] sz)) 0 0 (va_A [(qf, .inr (4, [.ref f1, .int (nI fn)])), (f1, .inl (cI, 170, .inl fp))] sz) := by
  refine Met.ofW (cc := cX3_add) (maxL := 2) (ret := none) (by decide) rfl ?_
  intro p e s m args below meth c s₁ B hml hv
  obtain ⟨rfl, hsz, hP, hK, hD0, hN⟩ := hv
  have hx := B.exec
  have hb := B.bytes
  have hr := B.returns
  have hts := atoms_spec (ws := wsX3_add) B.pre
  have hown : s.vm.findClass RX3 = some m.cls := findClass_of_methodNamed B.named
  have hlocks := B.notSynchronized
  have iw_4 : ∀ w ∈ u_ws RX3 TX3 2, w ∈ wsX3_add := by decide +kernel
  subst hsz
  have hD := hD0.self (sz := s.heap.size)
  generalize hE : FX3_add fp fn mc = R0
  generalize hAe : va_A [(qf, .inr (4, [.ref f1, .int (nI fn)])), (f1, .inl (cI, 170, .inl fp))] s.heap.size = A at hD ⊢
  have hA : ∀ q : Nat, s.heap.size ≤ q → A q := fun q h => by rw [← hAe]; exact Or.inr h
  have hS : va_S A s.heap s.heap [] := va_S.rf
  rw [FX3_add] at hE
  have hl := lv_entry ([.ref qf, .int mc]) (n := 2) (Nat.le_of_ble_eq_true rfl)
  rw [lg_entry_eq]
  generalize (lg_sl ([.ref qf, .int mc]) ++ List.replicate (2 - (lg_sl ([.ref qf, .int mc])).length) Slot.unset).toArray = ls at hl ⊢
  have hl : lv_has ls 2 [(0, .ref qf), (1, .int mc)] := hl
  refine lv_aload_n hx hb dX3_add_0 rfl (lv_at hl 0 rfl) ?_
  refine va_get (D := D) (ci := 4) (v := .int (nI fn)) (C := RX3) (T := TX3) (N := 2) hx hb hts iw_4 hown hK hP 0 rfl rfl 1 (by decide) (hts (.fieldLink RX3 15 "DepositCodes$Frauds" "size" "I") (by decide +kernel)) (fun _ h9 => h9) rfl dX3_add_1 ?_
  refine lv_sipush (v := 170) hx hb dX3_add_4 (by decide) ?_
  refine lv_icmp_ge (tgt := 30) hx hb dX3_add_7 (by decide) (fun c_1 => ?_) (fun c_1 => ?_)
  · have c_1 : 170 ≤ fn := (nI_leI (a := 170) (b := fn) (by omega) (by omega)).mp c_1
    rw [if_pos c_1] at hE
    subst hE
    exact W.vret hx hb hr (fun t ht hW => ⟨rfl, by rw [ht]; exact hP, hD, hS.F ht⟩) hS.2.2 dX3_add_30
  · have c_1 : ¬ 170 ≤ fn := fun h9 => c_1 ((nI_leI (a := 170) (b := fn) (by omega) (by omega)).mpr h9)
    rw [if_neg c_1] at hE
    refine lv_aload_n hx hb dX3_add_10 rfl (lv_at hl 0 rfl) ?_
    refine va_get (D := D) (ci := 4) (v := .ref f1) (C := RX3) (T := TX3) (N := 2) hx hb hts iw_4 hown hK hP 0 rfl rfl 0 (by decide) (hts (.fieldLink RX3 11 "DepositCodes$Frauds" "places" "[I") (by decide +kernel)) (fun _ h9 => h9) rfl dX3_add_11 ?_
    refine lv_aload_n hx hb dX3_add_14 rfl (lv_at hl 0 rfl) ?_
    refine va_get (D := D) (ci := 4) (v := .int (nI fn)) (C := RX3) (T := TX3) (N := 2) hx hb hts iw_4 hown hK hP 0 rfl rfl 1 (by decide) (hts (.fieldLink RX3 15 "DepositCodes$Frauds" "size" "I") (by decide +kernel)) (fun _ h9 => h9) rfl dX3_add_15 ?_
    refine lv_iload_n hx hb dX3_add_18 rfl (lv_at hl 1 rfl) ?_
    refine na_iast hx hb hK hP hD hS 1 0 rfl rfl (by omega) (by decide) dX3_add_19 (fun H locs hP hD hS => ?_)
    have hP : va_P D vwCl [(qf, .inr (4, [.ref f1, .int (nI fn)])), (f1, .inl (cI, 170, .inl (upd fp fn mc)))] H := hP
    have hD : va_D A [(qf, .inr (4, [.ref f1, .int (nI fn)])), (f1, .inl (cI, 170, .inl (upd fp fn mc)))] := hD
    refine lv_aload_n hx hb dX3_add_20 rfl (lv_at hl 0 rfl) ?_
    refine lv_dup hx hb dX3_add_21 rfl ?_
    refine va_get (D := D) (ci := 4) (v := .int (nI fn)) (C := RX3) (T := TX3) (N := 2) hx hb hts iw_4 hown hK hP 0 rfl rfl 1 (by decide) (hts (.fieldLink RX3 15 "DepositCodes$Frauds" "size" "I") (by decide +kernel)) (fun _ h9 => h9) rfl dX3_add_22 ?_
    refine lv_iconst (v := 1) hx hb dX3_add_25 (by decide) ?_
    refine lv_iadd hx hb dX3_add_26 ?_
    refine na_top (show (nI fn) + 1 = nI (fn + 1) from nI_add fn 1) ?_
    refine va_put (D := D) (ci := 4) (v := .int (nI (fn + 1))) (ty := .int) (C := RX3) (T := TX3) (N := 2) hx hb hts iw_4 tyX3 tyX3_ok nmX3 hown hK hP hD hS 0 rfl rfl 1 (by decide) (hts (.fieldLink RX3 15 "DepositCodes$Frauds" "size" "I") (by decide +kernel)) (fun _ h9 => h9) rfl (by decide +kernel) rfl rfl (Nat.le_of_ble_eq_true rfl) dX3_add_27 (fun H locs hP hD hS => ?_)
    have hP : va_P D vwCl [(qf, .inr (4, [.ref f1, .int (nI (fn + 1))])), (f1, .inl (cI, 170, .inl (upd fp fn mc)))] H := hP
    have hD : va_D A [(qf, .inr (4, [.ref f1, .int (nI (fn + 1))])), (f1, .inl (cI, 170, .inl (upd fp fn mc)))] := hD
    subst hE
    exact W.vret hx hb hr (fun t ht hW => ⟨rfl, by rw [ht]; exact hP, hD, hS.F ht⟩) hS.2.2 dX3_add_30
def FX3_machineOf (fp : Nat → Int32) (fn : Nat) (k : Int32) : Int32 := if (FX8_isIndex k (nI fn)) = 0 then (-1) else fp k.toNatClampNeg
set_option maxHeartbeats 4000000 in
set_option maxRecDepth 100000 in
theorem kX3_machineOf (l : Launch) (D : va_G) (cI cJ cZ : ClassId) (qf : Nat) (f1 : Nat) (fp : Nat → Int32) (fn : Nat) (k : Int32) (hfn : fn ≤ 170) : Met l yX3_machineOf wsX3_machineOf ({ frames := 1, cells := 0, slots := 0, locals := 21 }) (rP D (tz cI cJ cZ) [.ref qf, .int k] [(qf, .inr (4, [.ref f1, .int (nI fn)])), (f1, .inl (cI, 170, .inl fp))]) (k2_QcV (.int (FX3_machineOf fp fn k))) 0 0 (fun _ => False) := by
  refine Met.ofW (cc := cX3_machineOf) (maxL := 2) (ret := (some .int)) (by decide) rfl ?_
  intro p e s m args below meth c s₁ B hml hv
  obtain ⟨rfl, hP, hK, hN⟩ := hv
  have hx := B.exec
  have hb := B.bytes
  have hr := B.returns
  have hts := atoms_spec (ws := wsX3_machineOf) B.pre
  have hown : s.vm.findClass RX3 = some m.cls := findClass_of_methodNamed B.named
  have hlocks := B.notSynchronized
  have iw_4 : ∀ w ∈ u_ws RX3 TX3 2, w ∈ wsX3_machineOf := by decide +kernel
  generalize hE : FX3_machineOf fp fn k = R0
  rw [FX3_machineOf] at hE
  have hl := lv_entry ([.ref qf, .int k]) (n := 2) (Nat.le_of_ble_eq_true rfl)
  rw [lg_entry_eq]
  generalize (lg_sl ([.ref qf, .int k]) ++ List.replicate (2 - (lg_sl ([.ref qf, .int k])).length) Slot.unset).toArray = ls at hl ⊢
  have hl : lv_has ls 2 [(0, .ref qf), (1, .int k)] := hl
  refine lv_iload_n hx hb dX3_machineOf_0 rfl (lv_at hl 1 rfl) ?_
  refine lv_aload_n hx hb dX3_machineOf_1 rfl (lv_at hl 0 rfl) ?_
  refine va_get (D := D) (ci := 4) (v := .int (nI fn)) (C := RX3) (T := TX3) (N := 2) hx hb hts iw_4 hown hK hP 0 rfl rfl 1 (by decide) (hts (.fieldLink RX3 15 "DepositCodes$Frauds" "size" "I") (by decide +kernel)) (fun _ h9 => h9) rfl dX3_machineOf_2 ?_
  refine rd_call (va_runSN (As := [.int k, .int (nI fn)]) (rest := []) ⟨hx, hb, hml, hown, hts⟩ (kX8_isIndex l D cI cJ cZ k (nI fn)) ⟨va_cnB 2 hts gX3_machineOf_X8_isIndex_n19 rfl rfl rfl hN.2.2.2.1 (hts (.initialized RX8) (by decide +kernel)) (by decide +kernel) ⟨Nat.le_of_ble_eq_true rfl, Nat.le_of_ble_eq_true rfl⟩, hts (.static yX8_isIndex) (by decide +kernel), trivial⟩ ⟨rP_blind, rP_pre (va_P_nil) hK hN⟩ rfl rfl hl.1 rfl (lv_room (Nat.le_of_ble_eq_true rfl)) dX3_machineOf_5 ⟨Nat.zero_le _, Nat.zero_le _⟩) ?_
  refine lv_if_eq (tgt := 20) hx hb dX3_machineOf_8 (by decide) (fun c_1 => ?_) (fun c_1 => ?_)
  · rw [if_pos c_1] at hE
    refine lv_iconst (v := (-1)) hx hb dX3_machineOf_20 (by decide) ?_
    exact W.iret hx hb hr (fun t ht hW => ⟨by rw [← hE], ht⟩) (fun q h => absurd h List.not_mem_nil) dX3_machineOf_21
  · rw [if_neg c_1] at hE
    have hin : vp_in k 170 := isIx_in (k := k) (n := fn) (by assumption) hfn (by decide)
    refine lv_aload_n hx hb dX3_machineOf_11 rfl (lv_at hl 0 rfl) ?_
    refine va_get (D := D) (ci := 4) (v := .ref f1) (C := RX3) (T := TX3) (N := 2) hx hb hts iw_4 hown hK hP 0 rfl rfl 0 (by decide) (hts (.fieldLink RX3 11 "DepositCodes$Frauds" "places" "[I") (by decide +kernel)) (fun _ h9 => h9) rfl dX3_machineOf_12 ?_
    refine lv_iload_n hx hb dX3_machineOf_15 rfl (lv_at hl 1 rfl) ?_
    refine va_iald hx hb hK hP 1 0 rfl rfl (by assumption) dX3_machineOf_16 ?_
    refine lv_goto (tgt := 21) hx hb dX3_machineOf_17 (by decide) ?_
    exact W.iret hx hb hr (fun t ht hW => ⟨by rw [← hE], ht⟩) (fun q h => absurd h List.not_mem_nil) dX3_machineOf_21
