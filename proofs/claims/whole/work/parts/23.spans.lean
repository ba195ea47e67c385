def FX7_exists (k : Int32) : Int32 := FX8_isIndex k 8
theorem FX7_exists_b (k : Int32) : isB (FX7_exists k) := by
  unfold FX7_exists
  repeat' split
  all_goals first | exact isB_0 | exact isB_1 | exact FX8_isIndex_b _ _
set_option maxHeartbeats 4000000 in
set_option maxRecDepth 100000 in
theorem kX7_exists (l : Launch) (D : va_G) (cI cJ cZ : ClassId) (qp : Nat) (p1 : Nat) (p2 : Nat) (p3 : Nat) (pt : Nat → Int32) (pl : Nat → Int32) (pm : Nat → Int32) (k : Int32) : Met l yX7_exists wsX7_exists ({ frames := 1, cells := 0, slots := 0, locals := 21 }) (rP D (tz cI cJ cZ) [.ref qp, .int k] [(qp, .inr (7, [.ref p1, .ref p2, .ref p3])), (p1, .inl (cZ, 8, .inl pt)), (p2, .inl (cI, 8, .inl pl)), (p3, .inl (cI, 8, .inl pm))]) (k2_QcV (.int (FX7_exists k))) 0 0 (fun _ => False) := by
  refine Met.ofW (cc := cX7_exists) (maxL := 2) (ret := (some .boolean)) (by decide) rfl ?_
  intro p e s m args below meth c s₁ B hml hv
  obtain ⟨rfl, hP, hK, hN⟩ := hv
  have hx := B.exec
  have hb := B.bytes
  have hr := B.returns
  have hts := atoms_spec (ws := wsX7_exists) B.pre
  have hown : s.vm.findClass RX7 = some m.cls := findClass_of_methodNamed B.named
  have hlocks := B.notSynchronized
  generalize hE : FX7_exists k = R0
  rw [FX7_exists] at hE
  have hl := lv_entry ([.ref qp, .int k]) (n := 2) (Nat.le_of_ble_eq_true rfl)
  rw [lg_entry_eq]
  generalize (lg_sl ([.ref qp, .int k]) ++ List.replicate (2 - (lg_sl ([.ref qp, .int k])).length) Slot.unset).toArray = ls at hl ⊢
  have hl : lv_has ls 2 [(0, .ref qp), (1, .int k)] := hl
  refine lv_iload_n hx hb dX7_exists_0 rfl (lv_at hl 1 rfl) ?_
  refine lv_bipush (v := 8) hx hb dX7_exists_1 (by decide) ?_
  refine rd_call (va_runSN (As := [.int k, .int 8]) (rest := []) ⟨hx, hb, hml, hown, hts⟩ (kX8_isIndex l D cI cJ cZ k 8) ⟨va_cnB 2 hts gX7_exists_X8_isIndex_n20 rfl rfl rfl hN.2.2.2.2.2.2.2 (hts (.initialized RX8) (by decide +kernel)) (by decide +kernel) ⟨Nat.le_of_ble_eq_true rfl, Nat.le_of_ble_eq_true rfl⟩, hts (.static yX8_isIndex) (by decide +kernel), trivial⟩ ⟨rP_blind, rP_pre (va_P_nil) hK hN⟩ rfl rfl hl.1 rfl (lv_room (Nat.le_of_ble_eq_true rfl)) dX7_exists_3 ⟨Nat.zero_le _, Nat.zero_le _⟩) ?_
  exact W.zret hx hb hr (isB_nar (FX8_isIndex_b _ _)) (fun t ht hW => ⟨by rw [← hE], ht⟩) (fun q h => absurd h List.not_mem_nil) dX7_exists_6
def FX7_isTold (pt : Nat → Int32) (k : Int32) : Int32 := if (FX7_exists k) = 0 then 0 else (if (pt k.toNatClampNeg) = 0 then 0 else 1)
theorem FX7_isTold_b (pt : Nat → Int32) (k : Int32) : isB (FX7_isTold pt k) := by
  unfold FX7_isTold
  repeat' split
  all_goals first | exact isB_0 | exact isB_1
set_option maxHeartbeats 4000000 in
set_option maxRecDepth 100000 in
theorem kX7_isTold (l : Launch) (D : va_G) (cI cJ cZ : ClassId) (qp : Nat) (p1 : Nat) (p2 : Nat) (p3 : Nat) (pt : Nat → Int32) (pl : Nat → Int32) (pm : Nat → Int32) (k : Int32) : Met l yX7_isTold wsX7_isTold ({ frames := 2, cells := 0, slots := 0, locals := 42 }) (rP D (tz cI cJ cZ) [.ref qp, .int k] [(qp, .inr (7, [.ref p1, .ref p2, .ref p3])), (p1, .inl (cZ, 8, .inl pt)), (p2, .inl (cI, 8, .inl pl)), (p3, .inl (cI, 8, .inl pm))]) (k2_QcV (.int (FX7_isTold pt k))) 0 0 (fun _ => False) := by
  refine Met.ofW (cc := cX7_isTold) (maxL := 2) (ret := (some .boolean)) (by decide) rfl ?_
  intro p e s m args below meth c s₁ B hml hv
  obtain ⟨rfl, hP, hK, hN⟩ := hv
  have hx := B.exec
  have hb := B.bytes
  have hr := B.returns
  have hts := atoms_spec (ws := wsX7_isTold) B.pre
  have hown : s.vm.findClass RX7 = some m.cls := findClass_of_methodNamed B.named
  have hlocks := B.notSynchronized
  have iw_7 : ∀ w ∈ u_ws RX7 TX7 3, w ∈ wsX7_isTold := by decide +kernel
  generalize hE : FX7_isTold pt k = R0
  rw [FX7_isTold] at hE
  have hl := lv_entry ([.ref qp, .int k]) (n := 2) (Nat.le_of_ble_eq_true rfl)
  rw [lg_entry_eq]
  generalize (lg_sl ([.ref qp, .int k]) ++ List.replicate (2 - (lg_sl ([.ref qp, .int k])).length) Slot.unset).toArray = ls at hl ⊢
  have hl : lv_has ls 2 [(0, .ref qp), (1, .int k)] := hl
  refine lv_aload_n hx hb dX7_isTold_0 rfl (lv_at hl 0 rfl) ?_
  refine lv_iload_n hx hb dX7_isTold_1 rfl (lv_at hl 1 rfl) ?_
  refine rd_call (va_runV (As := [.int k]) (rest := []) ⟨hx, hb, hml, hown, hts⟩ (kX7_exists l D cI cJ cZ qp p1 p2 p3 pt pl pm k) (cwV 1 hts gX7_isTold_X7_exists rfl rfl rfl (by decide +kernel) ⟨Nat.le_of_ble_eq_true rfl, Nat.le_of_ble_eq_true rfl⟩) ⟨rP_blind, va_recv hK hP (ci := 7) (q0 := 0) rfl rfl, rP_pre (hP.sub [0, 1, 2, 3] rfl) hK hN⟩ rfl rfl hl.1 rfl (lv_room (Nat.le_of_ble_eq_true rfl)) dX7_isTold_2 ⟨Nat.zero_le _, Nat.zero_le _⟩) ?_
  refine lv_if_eq (tgt := 21) hx hb dX7_isTold_5 (by decide) (fun c_1 => ?_) (fun c_1 => ?_)
  · rw [if_pos c_1] at hE
    refine lv_iconst (v := 0) hx hb dX7_isTold_21 (by decide) ?_
    exact W.zret hx hb hr narrow_b0 (fun t ht hW => ⟨by rw [← hE], ht⟩) (fun q h => absurd h List.not_mem_nil) dX7_isTold_22
  · rw [if_neg c_1] at hE
    have hin : vp_in k 8 := isIx_in (k := k) (n := 8) (by assumption) (by decide) (by decide)
    refine lv_aload_n hx hb dX7_isTold_8 rfl (lv_at hl 0 rfl) ?_
    refine va_get (D := D) (ci := 7) (v := .ref p1) (C := RX7) (T := TX7) (N := 3) hx hb hts iw_7 hown hK hP 0 rfl rfl 0 (by decide) (hts (.fieldLink RX7 9 "DepositCodes$Spans" "told" "[Z") (by decide +kernel)) (fun _ h9 => h9) rfl dX7_isTold_9 ?_
    refine lv_iload_n hx hb dX7_isTold_12 rfl (lv_at hl 1 rfl) ?_
    refine va_zald hx hb hK hP 1 2 rfl rfl (by assumption) dX7_isTold_13 ?_
    refine lv_if_eq (tgt := 21) hx hb dX7_isTold_14 (by decide) (fun c_2 => ?_) (fun c_2 => ?_)
    · rw [if_pos c_2] at hE
      refine lv_iconst (v := 0) hx hb dX7_isTold_21 (by decide) ?_
      exact W.zret hx hb hr narrow_b0 (fun t ht hW => ⟨by rw [← hE], ht⟩) (fun q h => absurd h List.not_mem_nil) dX7_isTold_22
    · rw [if_neg c_2] at hE
      refine lv_iconst (v := 1) hx hb dX7_isTold_17 (by decide) ?_
      refine lv_goto (tgt := 22) hx hb dX7_isTold_18 (by decide) ?_
      exact W.zret hx hb hr narrow_b1 (fun t ht hW => ⟨by rw [← hE], ht⟩) (fun q h => absurd h List.not_mem_nil) dX7_isTold_22
theorem told_in {pt : Nat → Int32} {k : Int32} (h : ¬ FX7_isTold pt k = 0) : vp_in k 8 := by
  unfold FX7_isTold at h
  split at h
  · exact absurd rfl h
  · next h1 => exact isIx_in (k := k) (n := 8) h1 (by decide) (by decide)
def FX7_holds (pt : Nat → Int32) (pl : Nat → Int32) (pm : Nat → Int32) (k : Int32) (w : Int32) : Int32 := if (FX7_isTold pt k) = 0 then 0 else (if w < (pl k.toNatClampNeg) then 0 else (if (pm k.toNatClampNeg) < w then 0 else 1))
theorem FX7_holds_b (pt : Nat → Int32) (pl : Nat → Int32) (pm : Nat → Int32) (k : Int32) (w : Int32) : isB (FX7_holds pt pl pm k w) := by
  unfold FX7_holds
  repeat' split
  all_goals first | exact isB_0 | exact isB_1
set_option maxHeartbeats 4000000 in
set_option maxRecDepth 100000 in
theorem kX7_holds (l : Launch) (D : va_G) (cI cJ cZ : ClassId) (qp : Nat) (p1 : Nat) (p2 : Nat) (p3 : Nat) (pt : Nat → Int32) (pl : Nat → Int32) (pm : Nat → Int32) (k : Int32) (w : Int32) : Met l yX7_holds wsX7_holds ({ frames := 3, cells := 0, slots := 0, locals := 63 }) (rP D (tz cI cJ cZ) [.ref qp, .int k, .int w] [(qp, .inr (7, [.ref p1, .ref p2, .ref p3])), (p1, .inl (cZ, 8, .inl pt)), (p2, .inl (cI, 8, .inl pl)), (p3, .inl (cI, 8, .inl pm))]) (k2_QcV (.int (FX7_holds pt pl pm k w))) 0 0 (fun _ => False) := by
  refine Met.ofW (cc := cX7_holds) (maxL := 3) (ret := (some .boolean)) (by decide) rfl ?_
  intro p e s m args below meth c s₁ B hml hv
  obtain ⟨rfl, hP, hK, hN⟩ := hv
  have hx := B.exec
  have hb := B.bytes
  have hr := B.returns
  have hts := atoms_spec (ws := wsX7_holds) B.pre
  have hown : s.vm.findClass RX7 = some m.cls := findClass_of_methodNamed B.named
  have hlocks := B.notSynchronized
  have iw_7 : ∀ w ∈ u_ws RX7 TX7 3, w ∈ wsX7_holds := by decide +kernel
  generalize hE : FX7_holds pt pl pm k w = R0
  rw [FX7_holds] at hE
  have hl := lv_entry ([.ref qp, .int k, .int w]) (n := 3) (Nat.le_of_ble_eq_true rfl)
  rw [lg_entry_eq]
  generalize (lg_sl ([.ref qp, .int k, .int w]) ++ List.replicate (3 - (lg_sl ([.ref qp, .int k, .int w])).length) Slot.unset).toArray = ls at hl ⊢
  have hl : lv_has ls 3 [(0, .ref qp), (1, .int k), (2, .int w)] := hl
  refine lv_aload_n hx hb dX7_holds_0 rfl (lv_at hl 0 rfl) ?_
  refine lv_iload_n hx hb dX7_holds_1 rfl (lv_at hl 1 rfl) ?_
  refine rd_call (va_runV (As := [.int k]) (rest := []) ⟨hx, hb, hml, hown, hts⟩ (kX7_isTold l D cI cJ cZ qp p1 p2 p3 pt pl pm k) (cwV 1 hts gX7_holds_X7_isTold rfl rfl rfl (by decide +kernel) ⟨Nat.le_of_ble_eq_true rfl, Nat.le_of_ble_eq_true rfl⟩) ⟨rP_blind, va_recv hK hP (ci := 7) (q0 := 0) rfl rfl, rP_pre (hP.sub [0, 1, 2, 3] rfl) hK hN⟩ rfl rfl hl.1 rfl (lv_room (Nat.le_of_ble_eq_true rfl)) dX7_holds_2 ⟨Nat.zero_le _, Nat.zero_le _⟩) ?_
  refine lv_if_eq (tgt := 32) hx hb dX7_holds_5 (by decide) (fun c_1 => ?_) (fun c_1 => ?_)
  · rw [if_pos c_1] at hE
    refine lv_iconst (v := 0) hx hb dX7_holds_32 (by decide) ?_
    exact W.zret hx hb hr narrow_b0 (fun t ht hW => ⟨by rw [← hE], ht⟩) (fun q h => absurd h List.not_mem_nil) dX7_holds_33
  · rw [if_neg c_1] at hE
    have hin : vp_in k 8 := told_in (by assumption)
    refine lv_iload_n hx hb dX7_holds_8 rfl (lv_at hl 2 rfl) ?_
    refine lv_aload_n hx hb dX7_holds_9 rfl (lv_at hl 0 rfl) ?_
    refine va_get (D := D) (ci := 7) (v := .ref p2) (C := RX7) (T := TX7) (N := 3) hx hb hts iw_7 hown hK hP 0 rfl rfl 1 (by decide) (hts (.fieldLink RX7 13 "DepositCodes$Spans" "leasts" "[I") (by decide +kernel)) (fun _ h9 => h9) rfl dX7_holds_10 ?_
    refine lv_iload_n hx hb dX7_holds_13 rfl (lv_at hl 1 rfl) ?_
    refine va_iald hx hb hK hP 2 0 rfl rfl (by assumption) dX7_holds_14 ?_
    refine lv_icmp_lt (tgt := 32) hx hb dX7_holds_15 (by decide) (fun c_2 => ?_) (fun c_2 => ?_)
    · rw [if_pos c_2] at hE
      refine lv_iconst (v := 0) hx hb dX7_holds_32 (by decide) ?_
      exact W.zret hx hb hr narrow_b0 (fun t ht hW => ⟨by rw [← hE], ht⟩) (fun q h => absurd h List.not_mem_nil) dX7_holds_33
    · rw [if_neg c_2] at hE
      refine lv_iload_n hx hb dX7_holds_18 rfl (lv_at hl 2 rfl) ?_
      refine lv_aload_n hx hb dX7_holds_19 rfl (lv_at hl 0 rfl) ?_
      refine va_get (D := D) (ci := 7) (v := .ref p3) (C := RX7) (T := TX7) (N := 3) hx hb hts iw_7 hown hK hP 0 rfl rfl 2 (by decide) (hts (.fieldLink RX7 17 "DepositCodes$Spans" "mosts" "[I") (by decide +kernel)) (fun _ h9 => h9) rfl dX7_holds_20 ?_
      refine lv_iload_n hx hb dX7_holds_23 rfl (lv_at hl 1 rfl) ?_
      refine va_iald hx hb hK hP 3 0 rfl rfl (by assumption) dX7_holds_24 ?_
      refine lv_icmp_gt (tgt := 32) hx hb dX7_holds_25 (by decide) (fun c_3 => ?_) (fun c_3 => ?_)
      · rw [if_pos c_3] at hE
        refine lv_iconst (v := 0) hx hb dX7_holds_32 (by decide) ?_
        exact W.zret hx hb hr narrow_b0 (fun t ht hW => ⟨by rw [← hE], ht⟩) (fun q h => absurd h List.not_mem_nil) dX7_holds_33
      · rw [if_neg c_3] at hE
        refine lv_iconst (v := 1) hx hb dX7_holds_28 (by decide) ?_
        refine lv_goto (tgt := 33) hx hb dX7_holds_29 (by decide) ?_
        exact W.zret hx hb hr narrow_b1 (fun t ht hW => ⟨by rw [← hE], ht⟩) (fun q h => absurd h List.not_mem_nil) dX7_holds_33
def FX7_tell (pt : Nat → Int32) (pl : Nat → Int32) (pm : Nat → Int32) (k : Int32) (le : Int32) (mo : Int32) : Int32 × (Nat → Int32) × (Nat → Int32) × (Nat → Int32) := if (FX7_exists k) = 0 then (0, pt, pl, pm) else (if le < 0 then (0, pt, pl, pm) else (if 100000 < mo then (0, pt, pl, pm) else (if le ≤ mo then (1, upd pt k.toNatClampNeg (vp_nar .boolean 1), upd pl k.toNatClampNeg le, upd pm k.toNatClampNeg mo) else (0, pt, pl, pm))))
theorem FX7_tell_b (pt : Nat → Int32) (pl : Nat → Int32) (pm : Nat → Int32) (k : Int32) (le : Int32) (mo : Int32) : isB ((FX7_tell pt pl pm k le mo).1) := by
  unfold FX7_tell
  repeat' split
  all_goals first | exact isB_0 | exact isB_1
set_option maxHeartbeats 4000000 in
set_option maxRecDepth 100000 in
theorem kX7_tell (l : Launch) (D : va_G) (cI cJ cZ : ClassId) (qp : Nat) (p1 : Nat) (p2 : Nat) (p3 : Nat) (pt : Nat → Int32) (pl : Nat → Int32) (pm : Nat → Int32) (k : Int32) (le : Int32) (mo : Int32) (sz : Nat) : Met l yX7_tell wsX7_tell ({ frames := 2, cells := 0, slots := 0, locals := 42 }) (mP D (tz cI cJ cZ) [.ref qp, .int k, .int le, .int mo] sz [(qp, .inr (7, [.ref p1, .ref p2, .ref p3])), (p1, .inl (cZ, 8, .inl pt)), (p2, .inl (cI, 8, .inl pl)), (p3, .inl (cI, 8, .inl pm))]) (mQ D (some (.int ((FX7_tell pt pl pm k le mo).1))) [(qp, .inr (7, [.ref p1, .ref p2, .ref p3])), (p1, .inl (cZ, 8, .inl ((FX7_tell pt pl pm k le mo).2.1))), (p2, .inl (cI, 8, .inl ((FX7_tell pt pl pm k le mo).2.2.1))), (p3, .inl (cI, 8, .inl ((FX7_tell pt pl pm k le mo).2.2.2)))] (va_A [(qp, .inr (7, [.ref p1, .ref p2, .ref p3])), (p1, .inl (cZ, 8, .inl pt)), (p2, .inl (cI, 8, .inl pl)), (p3, .inl (cI, 8, .inl pm))] sz)) 0 0 (va_A [(qp, .inr (7, [.ref p1, .ref p2, .ref p3])), (p1, .inl (cZ, 8, .inl pt)), (p2, .inl (cI, 8, .inl pl)), (p3, .inl (cI, 8, .inl pm))] sz) := by
  refine Met.ofW (cc := cX7_tell) (maxL := 4) (ret := (some .boolean)) (by decide) rfl ?_
  intro p e s m args below meth c s₁ B hml hv
  obtain ⟨rfl, hsz, hP, hK, hD0, hN⟩ := hv
  have hx := B.exec
  have hb := B.bytes
  have hr := B.returns
  have hts := atoms_spec (ws := wsX7_tell) B.pre
  have hown : s.vm.findClass RX7 = some m.cls := findClass_of_methodNamed B.named
  have hlocks := B.notSynchronized
  have iw_7 : ∀ w ∈ u_ws RX7 TX7 3, w ∈ wsX7_tell := by decide +kernel
  subst hsz
  have hD := hD0.self (sz := s.heap.size)
  generalize hE : FX7_tell pt pl pm k le mo = R0
  generalize hAe : va_A [(qp, .inr (7, [.ref p1, .ref p2, .ref p3])), (p1, .inl (cZ, 8, .inl pt)), (p2, .inl (cI, 8, .inl pl)), (p3, .inl (cI, 8, .inl pm))] s.heap.size = A at hD ⊢
  have hA : ∀ q : Nat, s.heap.size ≤ q → A q := fun q h => by rw [← hAe]; exact Or.inr h
  have hS : va_S A s.heap s.heap [] := va_S.rf
  rw [FX7_tell] at hE
  have hl := lv_entry ([.ref qp, .int k, .int le, .int mo]) (n := 4) (Nat.le_of_ble_eq_true rfl)
  rw [lg_entry_eq]
  generalize (lg_sl ([.ref qp, .int k, .int le, .int mo]) ++ List.replicate (4 - (lg_sl ([.ref qp, .int k, .int le, .int mo])).length) Slot.unset).toArray = ls at hl ⊢
  have hl : lv_has ls 4 [(0, .ref qp), (1, .int k), (2, .int le), (3, .int mo)] := hl
  refine lv_aload_n hx hb dX7_tell_0 rfl (lv_at hl 0 rfl) ?_
  refine lv_iload_n hx hb dX7_tell_1 rfl (lv_at hl 1 rfl) ?_
  refine rd_call (va_runV (As := [.int k]) (rest := []) ⟨hx, hb, hml, hown, hts⟩ (kX7_exists l D cI cJ cZ qp p1 p2 p3 pt pl pm k) (cwV 1 hts gX7_tell_X7_exists rfl rfl rfl (by decide +kernel) ⟨Nat.le_of_ble_eq_true rfl, Nat.le_of_ble_eq_true rfl⟩) ⟨rP_blind, va_recv hK hP (ci := 7) (q0 := 0) rfl rfl, rP_pre (hP.sub [0, 1, 2, 3] rfl) hK hN⟩ rfl rfl hl.1 rfl (lv_room (Nat.le_of_ble_eq_true rfl)) dX7_tell_2 ⟨Nat.zero_le _, Nat.zero_le _⟩) ?_
  refine lv_if_eq (tgt := 23) hx hb dX7_tell_5 (by decide) (fun c_1 => ?_) (fun c_1 => ?_)
  · rw [if_pos c_1] at hE
    refine lv_iconst (v := 0) hx hb dX7_tell_23 (by decide) ?_
    subst hE
    exact W.zret hx hb hr narrow_b0 (fun t ht hW => ⟨rfl, by rw [ht]; exact hP, hD, hS.F ht⟩) hS.2.2 dX7_tell_24
  · rw [if_neg c_1] at hE
    refine lv_iload_n hx hb dX7_tell_8 rfl (lv_at hl 2 rfl) ?_
    refine lv_if_lt (tgt := 23) hx hb dX7_tell_9 (by decide) (fun c_2 => ?_) (fun c_2 => ?_)
    · rw [if_pos c_2] at hE
      refine lv_iconst (v := 0) hx hb dX7_tell_23 (by decide) ?_
      subst hE
      exact W.zret hx hb hr narrow_b0 (fun t ht hW => ⟨rfl, by rw [ht]; exact hP, hD, hS.F ht⟩) hS.2.2 dX7_tell_24
    · rw [if_neg c_2] at hE
      refine lv_iload_n hx hb dX7_tell_12 rfl (lv_at hl 3 rfl) ?_
      refine lv_ldc hx hb hown (hts (.constant RX7 30 100000) (by decide +kernel)) dX7_tell_13 ?_
      refine lv_icmp_gt (tgt := 23) hx hb dX7_tell_15 (by decide) (fun c_3 => ?_) (fun c_3 => ?_)
      · rw [if_pos c_3] at hE
        refine lv_iconst (v := 0) hx hb dX7_tell_23 (by decide) ?_
        subst hE
        exact W.zret hx hb hr narrow_b0 (fun t ht hW => ⟨rfl, by rw [ht]; exact hP, hD, hS.F ht⟩) hS.2.2 dX7_tell_24
      · rw [if_neg c_3] at hE
        refine lv_iload_n hx hb dX7_tell_18 rfl (lv_at hl 2 rfl) ?_
        refine lv_iload_n hx hb dX7_tell_19 rfl (lv_at hl 3 rfl) ?_
        refine lv_icmp_le (tgt := 25) hx hb dX7_tell_20 (by decide) (fun c_4 => ?_) (fun c_4 => ?_)
        · rw [if_pos c_4] at hE
          have hin : vp_in k 8 := isIx_in (k := k) (n := 8) (by assumption) (by decide) (by decide)
          refine lv_aload_n hx hb dX7_tell_25 rfl (lv_at hl 0 rfl) ?_
          refine va_get (D := D) (ci := 7) (v := .ref p1) (C := RX7) (T := TX7) (N := 3) hx hb hts iw_7 hown hK hP 0 rfl rfl 0 (by decide) (hts (.fieldLink RX7 9 "DepositCodes$Spans" "told" "[Z") (by decide +kernel)) (fun _ h9 => h9) rfl dX7_tell_26 ?_
          refine lv_iload_n hx hb dX7_tell_29 rfl (lv_at hl 1 rfl) ?_
          refine lv_iconst (v := 1) hx hb dX7_tell_30 (by decide) ?_
          refine va_zast hx hb hK hP hD hS 1 2 rfl rfl (by assumption) dX7_tell_31 (fun H locs hP hD hS => ?_)
          have hP : va_P D vwCl [(qp, .inr (7, [.ref p1, .ref p2, .ref p3])), (p1, .inl (cZ, 8, .inl (upd pt k.toNatClampNeg (vp_nar .boolean 1)))), (p2, .inl (cI, 8, .inl pl)), (p3, .inl (cI, 8, .inl pm))] H := hP
          have hD : va_D A [(qp, .inr (7, [.ref p1, .ref p2, .ref p3])), (p1, .inl (cZ, 8, .inl (upd pt k.toNatClampNeg (vp_nar .boolean 1)))), (p2, .inl (cI, 8, .inl pl)), (p3, .inl (cI, 8, .inl pm))] := hD
          refine lv_aload_n hx hb dX7_tell_32 rfl (lv_at hl 0 rfl) ?_
          refine va_get (D := D) (ci := 7) (v := .ref p2) (C := RX7) (T := TX7) (N := 3) hx hb hts iw_7 hown hK hP 0 rfl rfl 1 (by decide) (hts (.fieldLink RX7 13 "DepositCodes$Spans" "leasts" "[I") (by decide +kernel)) (fun _ h9 => h9) rfl dX7_tell_33 ?_
          refine lv_iload_n hx hb dX7_tell_36 rfl (lv_at hl 1 rfl) ?_
          refine lv_iload_n hx hb dX7_tell_37 rfl (lv_at hl 2 rfl) ?_
          refine va_iast hx hb hK hP hD hS 2 0 rfl rfl (by assumption) dX7_tell_38 (fun H locs hP hD hS => ?_)
          have hP : va_P D vwCl [(qp, .inr (7, [.ref p1, .ref p2, .ref p3])), (p1, .inl (cZ, 8, .inl (upd pt k.toNatClampNeg (vp_nar .boolean 1)))), (p2, .inl (cI, 8, .inl (upd pl k.toNatClampNeg le))), (p3, .inl (cI, 8, .inl pm))] H := hP
          have hD : va_D A [(qp, .inr (7, [.ref p1, .ref p2, .ref p3])), (p1, .inl (cZ, 8, .inl (upd pt k.toNatClampNeg (vp_nar .boolean 1)))), (p2, .inl (cI, 8, .inl (upd pl k.toNatClampNeg le))), (p3, .inl (cI, 8, .inl pm))] := hD
          refine lv_aload_n hx hb dX7_tell_39 rfl (lv_at hl 0 rfl) ?_
          refine va_get (D := D) (ci := 7) (v := .ref p3) (C := RX7) (T := TX7) (N := 3) hx hb hts iw_7 hown hK hP 0 rfl rfl 2 (by decide) (hts (.fieldLink RX7 17 "DepositCodes$Spans" "mosts" "[I") (by decide +kernel)) (fun _ h9 => h9) rfl dX7_tell_40 ?_
          refine lv_iload_n hx hb dX7_tell_43 rfl (lv_at hl 1 rfl) ?_
          refine lv_iload_n hx hb dX7_tell_44 rfl (lv_at hl 3 rfl) ?_
          refine va_iast hx hb hK hP hD hS 3 0 rfl rfl (by assumption) dX7_tell_45 (fun H locs hP hD hS => ?_)
          have hP : va_P D vwCl [(qp, .inr (7, [.ref p1, .ref p2, .ref p3])), (p1, .inl (cZ, 8, .inl (upd pt k.toNatClampNeg (vp_nar .boolean 1)))), (p2, .inl (cI, 8, .inl (upd pl k.toNatClampNeg le))), (p3, .inl (cI, 8, .inl (upd pm k.toNatClampNeg mo)))] H := hP
          have hD : va_D A [(qp, .inr (7, [.ref p1, .ref p2, .ref p3])), (p1, .inl (cZ, 8, .inl (upd pt k.toNatClampNeg (vp_nar .boolean 1)))), (p2, .inl (cI, 8, .inl (upd pl k.toNatClampNeg le))), (p3, .inl (cI, 8, .inl (upd pm k.toNatClampNeg mo)))] := hD
          refine lv_iconst (v := 1) hx hb dX7_tell_46 (by decide) ?_
          subst hE
          exact W.zret hx hb hr narrow_b1 (fun t ht hW => ⟨rfl, by rw [ht]; exact hP, hD, hS.F ht⟩) hS.2.2 dX7_tell_47
        · rw [if_neg c_4] at hE
          refine lv_iconst (v := 0) hx hb dX7_tell_23 (by decide) ?_
          subst hE
          exact W.zret hx hb hr narrow_b0 (fun t ht hW => ⟨rfl, by rw [ht]; exact hP, hD, hS.F ht⟩) hS.2.2 dX7_tell_24
