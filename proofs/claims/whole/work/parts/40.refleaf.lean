theorem lgc_lt {x y : Int64} : lg_cmp x y < 0 ↔ x < y := by
  unfold lg_cmp
  by_cases h1 : y < x
  · rw [if_pos h1]; exact ⟨fun h => absurd h (by decide), fun h => absurd h1 (by rw [Int64.lt_iff_toInt_lt] at h ⊢; omega)⟩
  · rw [if_neg h1]
    by_cases h2 : x = y
    · rw [if_pos h2]; subst h2; exact ⟨fun h => absurd h (by decide), fun h => absurd h h1⟩
    · rw [if_neg h2]; exact ⟨fun _ => by rw [Int64.lt_iff_toInt_lt] at h1 ⊢; have : x.toInt ≠ y.toInt := fun h => h2 (Int64.toInt_inj.mp h); omega, fun _ => by decide⟩
theorem lgc_gt {x y : Int64} : 0 < lg_cmp x y ↔ y < x := by
  unfold lg_cmp
  by_cases h1 : y < x
  · rw [if_pos h1]; exact ⟨fun _ => h1, fun _ => by decide⟩
  · rw [if_neg h1]
    by_cases h2 : x = y
    · rw [if_pos h2]; exact ⟨fun h => absurd h (by decide), fun h => absurd h h1⟩
    · rw [if_neg h2]; exact ⟨fun h => absurd h (by decide), fun h => absurd h h1⟩
theorem lgc_eq {x y : Int64} : lg_cmp x y = 0 ↔ x = y := by
  unfold lg_cmp
  by_cases h1 : y < x
  · rw [if_pos h1]; exact ⟨fun h => absurd h (by decide), fun h => by subst h; exact absurd h1 (by rw [Int64.lt_iff_toInt_lt]; omega)⟩
  · rw [if_neg h1]
    by_cases h2 : x = y
    · rw [if_pos h2]; exact ⟨fun _ => h2, fun _ => rfl⟩
    · rw [if_neg h2]; exact ⟨fun h => absurd h (by decide), fun h => absurd h h2⟩
theorem lgc_le {x y : Int64} : lg_cmp x y ≤ 0 ↔ x ≤ y := by
  have h := @lgc_gt x y
  rw [Int32.lt_iff_toInt_lt, Int64.lt_iff_toInt_lt] at h
  rw [Int32.le_iff_toInt_le, Int64.le_iff_toInt_le]
  omega
theorem lgc_ge {x y : Int64} : 0 ≤ lg_cmp x y ↔ y ≤ x := by
  have h := @lgc_lt x y
  rw [Int32.lt_iff_toInt_lt, Int64.lt_iff_toInt_lt] at h
  rw [Int32.le_iff_toInt_le, Int64.le_iff_toInt_le]
  omega
theorem lt_in {k : Int32} {n N : Nat} (h0 : ¬ k < 0) (h : k < nI n) (hn : n ≤ N) (hN : N < 2 ^ 31) : vp_in k N := by
  rw [vp_in_iff]
  rw [Int32.lt_iff_toInt_lt] at h0 h
  rw [nI_toInt (by omega)] at h
  have : (0 : Int32).toInt = 0 := rfl
  omega
theorem nle_in {k : Int32} {n N : Nat} (h0 : ¬ k < 0) (h : ¬ nI n ≤ k) (hn : n ≤ N) (hN : N < 2 ^ 31) : vp_in k N := by
  rw [vp_in_iff]
  rw [Int32.lt_iff_toInt_lt] at h0
  rw [Int32.le_iff_toInt_le, nI_toInt (by omega)] at h
  have : (0 : Int32).toInt = 0 := rfl
  omega
def FX9_isIn (k : Int64) (mo : Int64) : Int32 := if (lg_cmp k 0) < 0 then 0 else (if 0 < (lg_cmp k mo) then 0 else 1)
theorem FX9_isIn_b (k : Int64) (mo : Int64) : isB (FX9_isIn k mo) := by
  unfold FX9_isIn
  repeat' split
  all_goals first | exact isB_0 | exact isB_1
set_option maxHeartbeats 4000000 in
set_option maxRecDepth 100000 in
theorem kX9_isIn (l : Launch) (D : va_G) (cI cJ cZ : ClassId) (k : Int64) (mo : Int64) : Met l yX9_isIn wsX9_isIn ({ frames := 0, cells := 0, slots := 0, locals := 0 }) (rP D (tz cI cJ cZ) [.long k, .long mo] []) (k2_QcV (.int (FX9_isIn k mo))) 0 0 (fun _ => False) := by
  refine Met.ofW (cc := cX9_isIn) (maxL := 4) (ret := (some .boolean)) (by decide) rfl ?_
  intro p e s m args below meth c s₁ B hml hv
  obtain ⟨rfl, hP, hK, hN⟩ := hv
  have hx := B.exec
  have hb := B.bytes
  have hr := B.returns
  have hts := atoms_spec (ws := wsX9_isIn) B.pre
  have hown : s.vm.findClass RX9 = some m.cls := findClass_of_methodNamed B.named
  have hlocks := B.notSynchronized
  generalize hE : FX9_isIn k mo = R0
  rw [FX9_isIn] at hE
  have hl := lv_entry ([.long k, .long mo]) (n := 4) (Nat.le_of_ble_eq_true rfl)
  rw [lg_entry_eq]
  generalize (lg_sl ([.long k, .long mo]) ++ List.replicate (4 - (lg_sl ([.long k, .long mo])).length) Slot.unset).toArray = ls at hl ⊢
  have hl : lv_has ls 4 [(0, .long k), (2, .long mo)] := hl
  refine lv_lload_n hx hb dX9_isIn_0 rfl (lv_at hl 0 rfl) ?_
  refine lv_lconst (v := 0) hx hb dX9_isIn_1 (by decide) ?_
  refine W.lcmp hx hb dX9_isIn_2 ?_
  refine lv_if_lt (tgt := 16) hx hb dX9_isIn_3 (by decide) (fun c_1 => ?_) (fun c_1 => ?_)
  · rw [if_pos c_1] at hE
    refine lv_iconst (v := 0) hx hb dX9_isIn_16 (by decide) ?_
    exact W.zret hx hb hr narrow_b0 (fun t ht hW => ⟨by rw [← hE], ht⟩) (fun q h => absurd h List.not_mem_nil) dX9_isIn_17
  · rw [if_neg c_1] at hE
    refine lv_lload_n hx hb dX9_isIn_6 rfl (lv_at hl 0 rfl) ?_
    refine lv_lload_n hx hb dX9_isIn_7 rfl (lv_at hl 1 rfl) ?_
    refine W.lcmp hx hb dX9_isIn_8 ?_
    refine lv_if_gt (tgt := 16) hx hb dX9_isIn_9 (by decide) (fun c_2 => ?_) (fun c_2 => ?_)
    · rw [if_pos c_2] at hE
      refine lv_iconst (v := 0) hx hb dX9_isIn_16 (by decide) ?_
      exact W.zret hx hb hr narrow_b0 (fun t ht hW => ⟨by rw [← hE], ht⟩) (fun q h => absurd h List.not_mem_nil) dX9_isIn_17
    · rw [if_neg c_2] at hE
      refine lv_iconst (v := 1) hx hb dX9_isIn_12 (by decide) ?_
      refine lv_goto (tgt := 17) hx hb dX9_isIn_13 (by decide) ?_
      exact W.zret hx hb hr narrow_b1 (fun t ht hW => ⟨by rw [← hE], ht⟩) (fun q h => absurd h List.not_mem_nil) dX9_isIn_17
theorem isIn_iff {k mo : Int64} : ¬ FX9_isIn k mo = 0 ↔ 0 ≤ k ∧ k ≤ mo := by
  unfold FX9_isIn
  by_cases h1 : lg_cmp k 0 < 0
  · rw [if_pos h1]
    rw [lgc_lt] at h1
    exact ⟨fun h => absurd rfl h, fun h => by rw [Int64.lt_iff_toInt_lt] at h1; rw [Int64.le_iff_toInt_le, Int64.le_iff_toInt_le] at h; omega⟩
  · rw [if_neg h1]
    rw [lgc_lt] at h1
    by_cases h2 : 0 < lg_cmp k mo
    · rw [if_pos h2]
      rw [lgc_gt] at h2
      exact ⟨fun h => absurd rfl h, fun h => by rw [Int64.lt_iff_toInt_lt] at h2; rw [Int64.le_iff_toInt_le, Int64.le_iff_toInt_le] at h; omega⟩
    · rw [if_neg h2]
      rw [lgc_gt] at h2
      exact ⟨fun _ => by rw [Int64.lt_iff_toInt_lt] at h1 h2; rw [Int64.le_iff_toInt_le, Int64.le_iff_toInt_le]; omega, fun _ => by decide⟩
theorem isIn_in {w : Int32} {N : Nat} {K : Int64} (h : ¬ FX9_isIn w.toInt64 K = 0) (hK : K.toInt < N) : vp_in w N := by
  rw [isIn_iff, Int64.le_iff_toInt_le, Int64.le_iff_toInt_le, Int32.toInt_toInt64] at h
  rw [vp_in_iff]
  have : (0 : Int64).toInt = 0 := rfl
  omega
def FX9_isMachine (rmn : Nat) (k : Int32) : Int32 × Int32 := if k < 0 then (0, 0) else (if (nI rmn) ≤ k then (0, 0) else (1, 0))
theorem FX9_isMachine_b (rmn : Nat) (k : Int32) : isB ((FX9_isMachine rmn k).1) := by
  unfold FX9_isMachine
  repeat' split
  all_goals first | exact isB_0 | exact isB_1
set_option maxHeartbeats 4000000 in
set_option maxRecDepth 100000 in
theorem kX9_isMachine (l : Launch) (D : va_G) (cI cJ cZ : ClassId) (w0 : Nat) (a1 : Nat) (a2 : Nat) (a3 : Nat) (a4 : Nat) (a5 : Nat) (a6 : Nat) (a7 : Nat) (a8 : Nat) (a9 : Nat) (a10 : Nat) (a11 : Nat) (a12 : Nat) (a13 : Nat) (a14 : Nat) (a15 : Nat) (a16 : Nat) (a17 : Nat) (a18 : Nat) (a19 : Nat) (a20 : Nat) (a21 : Nat) (a22 : Nat) (a23 : Nat) (rdn : Nat) (rfa : Int32) (rmn : Nat) (rpn : Nat) (rre : Int32) (rrn : Nat) (rfn : Nat) (rkn : Nat) (rcn : Nat) (k : Int32) (sz : Nat) : Met l yX9_isMachine wsX9_isMachine ({ frames := 0, cells := 0, slots := 0, locals := 0 }) (mP D (tz cI cJ cZ) [.ref w0, .int k] sz [(w0, .inr (9, [.ref a1, .ref a2, .int (nI rdn), .int rfa, .int (nI rmn), .ref a3, .ref a4, .ref a5, .ref a6, .ref a7, .ref a8, .ref a9, .ref a10, .ref a11, .ref a12, .ref a13, .int (nI rpn), .int rre, .ref a14, .ref a15, .int (nI rrn), .ref a16, .int (nI rfn), .ref a17, .ref a18, .ref a19, .int (nI rkn), .ref a20, .ref a21, .int (nI rcn), .ref a22, .ref a23]))]) (mQ D (some (.int ((FX9_isMachine rmn k).1))) [(w0, .inr (9, [.ref a1, .ref a2, .int (nI rdn), .int ((FX9_isMachine rmn k).2), .int (nI rmn), .ref a3, .ref a4, .ref a5, .ref a6, .ref a7, .ref a8, .ref a9, .ref a10, .ref a11, .ref a12, .ref a13, .int (nI rpn), .int rre, .ref a14, .ref a15, .int (nI rrn), .ref a16, .int (nI rfn), .ref a17, .ref a18, .ref a19, .int (nI rkn), .ref a20, .ref a21, .int (nI rcn), .ref a22, .ref a23]))] (va_A [(w0, .inr (9, [.ref a1, .ref a2, .int (nI rdn), .int rfa, .int (nI rmn), .ref a3, .ref a4, .ref a5, .ref a6, .ref a7, .ref a8, .ref a9, .ref a10, .ref a11, .ref a12, .ref a13, .int (nI rpn), .int rre, .ref a14, .ref a15, .int (nI rrn), .ref a16, .int (nI rfn), .ref a17, .ref a18, .ref a19, .int (nI rkn), .ref a20, .ref a21, .int (nI rcn), .ref a22, .ref a23]))] sz)) 0 0 (va_A [(w0, .inr (9, [.ref a1, .ref a2, .int (nI rdn), .int rfa, .int (nI rmn), .ref a3, .ref a4, .ref a5, .ref a6, .ref a7, .ref a8, .ref a9, .ref a10, .ref a11, .ref a12, .ref a13, .int (nI rpn), .int rre, .ref a14, .ref a15, .int (nI rrn), .ref a16, .int (nI rfn), .ref a17, .ref a18, .ref a19, .int (nI rkn), .ref a20, .ref a21, .int (nI rcn), .ref a22, .ref a23]))] sz) := by
  refine Met.ofW (cc := cX9_isMachine) (maxL := 2) (ret := (some .boolean)) (by decide) rfl ?_
  intro p e s m args below meth c s₁ B hml hv
  obtain ⟨rfl, hsz, hP, hK, hD0, hN⟩ := hv
  have hx := B.exec
  have hb := B.bytes
  have hr := B.returns
  have hts := atoms_spec (ws := wsX9_isMachine) B.pre
  have hown : s.vm.findClass RX9 = some m.cls := findClass_of_methodNamed B.named
  have hlocks := B.notSynchronized
  have iw_9 : ∀ w ∈ u_ws RX9 TX9 32, w ∈ wsX9_isMachine := by decide +kernel
  subst hsz
  have hD := hD0.self (sz := s.heap.size)
  generalize hE : FX9_isMachine rmn k = R0
  generalize hAe : va_A [(w0, .inr (9, [.ref a1, .ref a2, .int (nI rdn), .int rfa, .int (nI rmn), .ref a3, .ref a4, .ref a5, .ref a6, .ref a7, .ref a8, .ref a9, .ref a10, .ref a11, .ref a12, .ref a13, .int (nI rpn), .int rre, .ref a14, .ref a15, .int (nI rrn), .ref a16, .int (nI rfn), .ref a17, .ref a18, .ref a19, .int (nI rkn), .ref a20, .ref a21, .int (nI rcn), .ref a22, .ref a23]))] s.heap.size = A at hD ⊢
  have hA : ∀ q : Nat, s.heap.size ≤ q → A q := fun q h => by rw [← hAe]; exact Or.inr h
  have hS : va_S A s.heap s.heap [] := va_S.rf
  rw [FX9_isMachine] at hE
  have hl := lv_entry ([.ref w0, .int k]) (n := 2) (Nat.le_of_ble_eq_true rfl)
  rw [lg_entry_eq]
  generalize (lg_sl ([.ref w0, .int k]) ++ List.replicate (2 - (lg_sl ([.ref w0, .int k])).length) Slot.unset).toArray = ls at hl ⊢
  have hl : lv_has ls 2 [(0, .ref w0), (1, .int k)] := hl
  refine lv_aload_n hx hb dX9_isMachine_0 rfl (lv_at hl 0 rfl) ?_
  refine lv_iconst (v := 0) hx hb dX9_isMachine_1 (by decide) ?_
  refine va_put (D := D) (ci := 9) (v := .int 0) (ty := .int) (C := RX9) (T := TX9) (N := 32) hx hb hts iw_9 tyX9 tyX9_ok nmX9 hown hK hP hD hS 0 rfl rfl 3 (by decide) (hts (.fieldLink RX9 81 "DepositCodesModel" "fault" "I") (by decide +kernel)) (fun _ h9 => h9) rfl (by decide +kernel) rfl rfl (Nat.le_of_ble_eq_true rfl) dX9_isMachine_2 (fun H locs hP hD hS => ?_)
  have hP : va_P D vwCl [(w0, .inr (9, [.ref a1, .ref a2, .int (nI rdn), .int 0, .int (nI rmn), .ref a3, .ref a4, .ref a5, .ref a6, .ref a7, .ref a8, .ref a9, .ref a10, .ref a11, .ref a12, .ref a13, .int (nI rpn), .int rre, .ref a14, .ref a15, .int (nI rrn), .ref a16, .int (nI rfn), .ref a17, .ref a18, .ref a19, .int (nI rkn), .ref a20, .ref a21, .int (nI rcn), .ref a22, .ref a23]))] H := hP
  have hD : va_D A [(w0, .inr (9, [.ref a1, .ref a2, .int (nI rdn), .int 0, .int (nI rmn), .ref a3, .ref a4, .ref a5, .ref a6, .ref a7, .ref a8, .ref a9, .ref a10, .ref a11, .ref a12, .ref a13, .int (nI rpn), .int rre, .ref a14, .ref a15, .int (nI rrn), .ref a16, .int (nI rfn), .ref a17, .ref a18, .ref a19, .int (nI rkn), .ref a20, .ref a21, .int (nI rcn), .ref a22, .ref a23]))] := hD
  refine lv_iload_n hx hb dX9_isMachine_5 rfl (lv_at hl 1 rfl) ?_
  refine lv_if_lt (tgt := 21) hx hb dX9_isMachine_6 (by decide) (fun c_1 => ?_) (fun c_1 => ?_)
  · rw [if_pos c_1] at hE
    refine lv_iconst (v := 0) hx hb dX9_isMachine_21 (by decide) ?_
    subst hE
    exact W.zret hx hb hr narrow_b0 (fun t ht hW => ⟨rfl, by rw [ht]; exact hP, hD, hS.F ht⟩) hS.2.2 dX9_isMachine_22
  · rw [if_neg c_1] at hE
    refine lv_iload_n hx hb dX9_isMachine_9 rfl (lv_at hl 1 rfl) ?_
    refine lv_aload_n hx hb dX9_isMachine_10 rfl (lv_at hl 0 rfl) ?_
    refine va_get (D := D) (ci := 9) (v := .int (nI rmn)) (C := RX9) (T := TX9) (N := 32) hx hb hts iw_9 hown hK hP 0 rfl rfl 4 (by decide) (hts (.fieldLink RX9 131 "DepositCodesModel" "machines" "I") (by decide +kernel)) (fun _ h9 => h9) rfl dX9_isMachine_11 ?_
    refine lv_icmp_ge (tgt := 21) hx hb dX9_isMachine_14 (by decide) (fun c_2 => ?_) (fun c_2 => ?_)
    · rw [if_pos c_2] at hE
      refine lv_iconst (v := 0) hx hb dX9_isMachine_21 (by decide) ?_
      subst hE
      exact W.zret hx hb hr narrow_b0 (fun t ht hW => ⟨rfl, by rw [ht]; exact hP, hD, hS.F ht⟩) hS.2.2 dX9_isMachine_22
    · rw [if_neg c_2] at hE
      refine lv_iconst (v := 1) hx hb dX9_isMachine_17 (by decide) ?_
      refine lv_goto (tgt := 22) hx hb dX9_isMachine_18 (by decide) ?_
      subst hE
      exact W.zret hx hb hr narrow_b1 (fun t ht hW => ⟨rfl, by rw [ht]; exact hP, hD, hS.F ht⟩) hS.2.2 dX9_isMachine_22
theorem mach_in {rmn : Nat} {k : Int32} (h : ¬ (FX9_isMachine rmn k).1 = 0) (hn : rmn ≤ 6) : vp_in k 6 := by
  unfold FX9_isMachine at h
  split at h
  · exact absurd rfl h
  · split at h
    · exact absurd rfl h
    · next h1 h2 => exact nle_in h1 h2 hn (by decide)
def FX9_thrown (rfa : Int32) : Int32 := rfa
set_option maxHeartbeats 4000000 in
set_option maxRecDepth 100000 in
theorem kX9_thrown (l : Launch) (D : va_G) (cI cJ cZ : ClassId) (w0 : Nat) (a1 : Nat) (a2 : Nat) (a3 : Nat) (a4 : Nat) (a5 : Nat) (a6 : Nat) (a7 : Nat) (a8 : Nat) (a9 : Nat) (a10 : Nat) (a11 : Nat) (a12 : Nat) (a13 : Nat) (a14 : Nat) (a15 : Nat) (a16 : Nat) (a17 : Nat) (a18 : Nat) (a19 : Nat) (a20 : Nat) (a21 : Nat) (a22 : Nat) (a23 : Nat) (rdn : Nat) (rfa : Int32) (rmn : Nat) (rpn : Nat) (rre : Int32) (rrn : Nat) (rfn : Nat) (rkn : Nat) (rcn : Nat) : Met l yX9_thrown wsX9_thrown ({ frames := 0, cells := 0, slots := 0, locals := 0 }) (rP D (tz cI cJ cZ) [.ref w0] [(w0, .inr (9, [.ref a1, .ref a2, .int (nI rdn), .int rfa, .int (nI rmn), .ref a3, .ref a4, .ref a5, .ref a6, .ref a7, .ref a8, .ref a9, .ref a10, .ref a11, .ref a12, .ref a13, .int (nI rpn), .int rre, .ref a14, .ref a15, .int (nI rrn), .ref a16, .int (nI rfn), .ref a17, .ref a18, .ref a19, .int (nI rkn), .ref a20, .ref a21, .int (nI rcn), .ref a22, .ref a23]))]) (k2_QcV (.int (FX9_thrown rfa))) 0 0 (fun _ => False) := by
  refine Met.ofW (cc := cX9_thrown) (maxL := 1) (ret := (some .int)) (by decide) rfl ?_
  intro p e s m args below meth c s₁ B hml hv
  obtain ⟨rfl, hP, hK, hN⟩ := hv
  have hx := B.exec
  have hb := B.bytes
  have hr := B.returns
  have hts := atoms_spec (ws := wsX9_thrown) B.pre
  have hown : s.vm.findClass RX9 = some m.cls := findClass_of_methodNamed B.named
  have hlocks := B.notSynchronized
  have iw_9 : ∀ w ∈ u_ws RX9 TX9 32, w ∈ wsX9_thrown := by decide +kernel
  generalize hE : FX9_thrown rfa = R0
  rw [FX9_thrown] at hE
  have hl := lv_entry ([.ref w0]) (n := 1) (Nat.le_of_ble_eq_true rfl)
  rw [lg_entry_eq]
  generalize (lg_sl ([.ref w0]) ++ List.replicate (1 - (lg_sl ([.ref w0])).length) Slot.unset).toArray = ls at hl ⊢
  have hl : lv_has ls 1 [(0, .ref w0)] := hl
  refine lv_aload_n hx hb dX9_thrown_0 rfl (lv_at hl 0 rfl) ?_
  refine va_get (D := D) (ci := 9) (v := .int rfa) (C := RX9) (T := TX9) (N := 32) hx hb hts iw_9 hown hK hP 0 rfl rfl 3 (by decide) (hts (.fieldLink RX9 81 "DepositCodesModel" "fault" "I") (by decide +kernel)) (fun _ h9 => h9) rfl dX9_thrown_1 ?_
  exact W.iret hx hb hr (fun t ht hW => ⟨by rw [← hE], ht⟩) (fun q h => absurd h List.not_mem_nil) dX9_thrown_4
def FX9_width (rwd : Nat → Int32) (k : Int32) (w : Int32) : Int32 × Int32 × (Nat → Int32) := if (FX9_isIn k.toInt64 63) = 0 then (0, 0, rwd) else (if (FX9_isIn w.toInt64 1000) = 0 then (0, 0, rwd) else (1, 0, upd rwd k.toNatClampNeg w))
theorem FX9_width_b (rwd : Nat → Int32) (k : Int32) (w : Int32) : isB ((FX9_width rwd k w).1) := by
  unfold FX9_width
  repeat' split
  all_goals first | exact isB_0 | exact isB_1
set_option maxHeartbeats 4000000 in
set_option maxRecDepth 100000 in
theorem kX9_width (l : Launch) (D : va_G) (cI cJ cZ : ClassId) (w0 : Nat) (a1 : Nat) (a2 : Nat) (a3 : Nat) (a4 : Nat) (a5 : Nat) (a6 : Nat) (a7 : Nat) (a8 : Nat) (a9 : Nat) (a10 : Nat) (a11 : Nat) (a12 : Nat) (a13 : Nat) (a14 : Nat) (a15 : Nat) (a16 : Nat) (a17 : Nat) (a18 : Nat) (a19 : Nat) (a20 : Nat) (a21 : Nat) (a22 : Nat) (a23 : Nat) (rdn : Nat) (rfa : Int32) (rmn : Nat) (rpn : Nat) (rre : Int32) (rrn : Nat) (rfn : Nat) (rkn : Nat) (rcn : Nat) (rwd : Nat → Int32) (k : Int32) (w : Int32) (sz : Nat) : Met l yX9_width wsX9_width ({ frames := 1, cells := 0, slots := 0, locals := 23 }) (mP D (tz cI cJ cZ) [.ref w0, .int k, .int w] sz [(w0, .inr (9, [.ref a1, .ref a2, .int (nI rdn), .int rfa, .int (nI rmn), .ref a3, .ref a4, .ref a5, .ref a6, .ref a7, .ref a8, .ref a9, .ref a10, .ref a11, .ref a12, .ref a13, .int (nI rpn), .int rre, .ref a14, .ref a15, .int (nI rrn), .ref a16, .int (nI rfn), .ref a17, .ref a18, .ref a19, .int (nI rkn), .ref a20, .ref a21, .int (nI rcn), .ref a22, .ref a23])), (a1, .inl (cI, 64, .inl rwd))]) (mQ D (some (.int ((FX9_width rwd k w).1))) [(w0, .inr (9, [.ref a1, .ref a2, .int (nI rdn), .int ((FX9_width rwd k w).2.1), .int (nI rmn), .ref a3, .ref a4, .ref a5, .ref a6, .ref a7, .ref a8, .ref a9, .ref a10, .ref a11, .ref a12, .ref a13, .int (nI rpn), .int rre, .ref a14, .ref a15, .int (nI rrn), .ref a16, .int (nI rfn), .ref a17, .ref a18, .ref a19, .int (nI rkn), .ref a20, .ref a21, .int (nI rcn), .ref a22, .ref a23])), (a1, .inl (cI, 64, .inl ((FX9_width rwd k w).2.2)))] (va_A [(w0, .inr (9, [.ref a1, .ref a2, .int (nI rdn), .int rfa, .int (nI rmn), .ref a3, .ref a4, .ref a5, .ref a6, .ref a7, .ref a8, .ref a9, .ref a10, .ref a11, .ref a12, .ref a13, .int (nI rpn), .int rre, .ref a14, .ref a15, .int (nI rrn), .ref a16, .int (nI rfn), .ref a17, .ref a18, .ref a19, .int (nI rkn), .ref a20, .ref a21, .int (nI rcn), .ref a22, .ref a23])), (a1, .inl (cI, 64, .inl rwd))] sz)) 0 0 (va_A [(w0, .inr (9, [.ref a1, .ref a2, .int (nI rdn), .int rfa, .int (nI rmn), .ref a3, .ref a4, .ref a5, .ref a6, .ref a7, .ref a8, .ref a9, .ref a10, .ref a11, .ref a12, .ref a13, .int (nI rpn), .int rre, .ref a14, .ref a15, .int (nI rrn), .ref a16, .int (nI rfn), .ref a17, .ref a18, .ref a19, .int (nI rkn), .ref a20, .ref a21, .int (nI rcn), .ref a22, .ref a23])), (a1, .inl (cI, 64, .inl rwd))] sz) := by
  refine Met.ofW (cc := cX9_width) (maxL := 3) (ret := (some .boolean)) (by decide) rfl ?_
  intro p e s m args below meth c s₁ B hml hv
  obtain ⟨rfl, hsz, hP, hK, hD0, hN⟩ := hv
  have hx := B.exec
  have hb := B.bytes
  have hr := B.returns
  have hts := atoms_spec (ws := wsX9_width) B.pre
  have hown : s.vm.findClass RX9 = some m.cls := findClass_of_methodNamed B.named
  have hlocks := B.notSynchronized
  have iw_9 : ∀ w ∈ u_ws RX9 TX9 32, w ∈ wsX9_width := by decide +kernel
  subst hsz
  have hD := hD0.self (sz := s.heap.size)
  generalize hE : FX9_width rwd k w = R0
  generalize hAe : va_A [(w0, .inr (9, [.ref a1, .ref a2, .int (nI rdn), .int rfa, .int (nI rmn), .ref a3, .ref a4, .ref a5, .ref a6, .ref a7, .ref a8, .ref a9, .ref a10, .ref a11, .ref a12, .ref a13, .int (nI rpn), .int rre, .ref a14, .ref a15, .int (nI rrn), .ref a16, .int (nI rfn), .ref a17, .ref a18, .ref a19, .int (nI rkn), .ref a20, .ref a21, .int (nI rcn), .ref a22, .ref a23])), (a1, .inl (cI, 64, .inl rwd))] s.heap.size = A at hD ⊢
  have hA : ∀ q : Nat, s.heap.size ≤ q → A q := fun q h => by rw [← hAe]; exact Or.inr h
  have hS : va_S A s.heap s.heap [] := va_S.rf
  rw [FX9_width] at hE
  have hl := lv_entry ([.ref w0, .int k, .int w]) (n := 3) (Nat.le_of_ble_eq_true rfl)
  rw [lg_entry_eq]
  generalize (lg_sl ([.ref w0, .int k, .int w]) ++ List.replicate (3 - (lg_sl ([.ref w0, .int k, .int w])).length) Slot.unset).toArray = ls at hl ⊢
  have hl : lv_has ls 3 [(0, .ref w0), (1, .int k), (2, .int w)] := hl
  refine lv_aload_n hx hb dX9_width_0 rfl (lv_at hl 0 rfl) ?_
  refine lv_iconst (v := 0) hx hb dX9_width_1 (by decide) ?_
  refine va_put (D := D) (ci := 9) (v := .int 0) (ty := .int) (C := RX9) (T := TX9) (N := 32) hx hb hts iw_9 tyX9 tyX9_ok nmX9 hown hK hP hD hS 0 rfl rfl 3 (by decide) (hts (.fieldLink RX9 81 "DepositCodesModel" "fault" "I") (by decide +kernel)) (fun _ h9 => h9) rfl (by decide +kernel) rfl rfl (Nat.le_of_ble_eq_true rfl) dX9_width_2 (fun H locs hP hD hS => ?_)
  have hP : va_P D vwCl [(w0, .inr (9, [.ref a1, .ref a2, .int (nI rdn), .int 0, .int (nI rmn), .ref a3, .ref a4, .ref a5, .ref a6, .ref a7, .ref a8, .ref a9, .ref a10, .ref a11, .ref a12, .ref a13, .int (nI rpn), .int rre, .ref a14, .ref a15, .int (nI rrn), .ref a16, .int (nI rfn), .ref a17, .ref a18, .ref a19, .int (nI rkn), .ref a20, .ref a21, .int (nI rcn), .ref a22, .ref a23])), (a1, .inl (cI, 64, .inl rwd))] H := hP
  have hD : va_D A [(w0, .inr (9, [.ref a1, .ref a2, .int (nI rdn), .int 0, .int (nI rmn), .ref a3, .ref a4, .ref a5, .ref a6, .ref a7, .ref a8, .ref a9, .ref a10, .ref a11, .ref a12, .ref a13, .int (nI rpn), .int rre, .ref a14, .ref a15, .int (nI rrn), .ref a16, .int (nI rfn), .ref a17, .ref a18, .ref a19, .int (nI rkn), .ref a20, .ref a21, .int (nI rcn), .ref a22, .ref a23])), (a1, .inl (cI, 64, .inl rwd))] := hD
  refine lv_iload_n hx hb dX9_width_5 rfl (lv_at hl 1 rfl) ?_
  refine lv_i2l hx hb dX9_width_6 rfl ?_
  refine lv_ldc2 hx hb hown (hts (.constantLong RX9 85 63) (by decide +kernel)) dX9_width_7 ?_
  refine rd_call (va_runS (As := [.long k.toInt64, .long 63]) (rest := []) ⟨hx, hb, hml, hown, hts⟩ (kX9_isIn l D cI cJ cZ k.toInt64 63) (va_cwS 2 hts gX9_width_X9_isIn rfl rfl rfl (by decide +kernel) ⟨Nat.le_of_ble_eq_true rfl, Nat.le_of_ble_eq_true rfl⟩) ⟨rP_blind, rP_pre (va_P_nil) hK hN⟩ rfl rfl hl.1 rfl (lv_room (Nat.le_of_ble_eq_true rfl)) dX9_width_10 ⟨Nat.zero_le _, Nat.zero_le _⟩) ?_
  refine lv_if_eq (tgt := 27) hx hb dX9_width_13 (by decide) (fun c_1 => ?_) (fun c_1 => ?_)
  · rw [if_pos c_1] at hE
    refine lv_iconst (v := 0) hx hb dX9_width_27 (by decide) ?_
    subst hE
    exact W.zret hx hb hr narrow_b0 (fun t ht hW => ⟨rfl, by rw [ht]; exact hP, hD, hS.F ht⟩) hS.2.2 dX9_width_28
  · rw [if_neg c_1] at hE
    refine lv_iload_n hx hb dX9_width_16 rfl (lv_at hl 2 rfl) ?_
    refine lv_i2l hx hb dX9_width_17 rfl ?_
    refine lv_ldc2 hx hb hown (hts (.constantLong RX9 91 1000) (by decide +kernel)) dX9_width_18 ?_
    refine rd_call (va_runS (As := [.long w.toInt64, .long 1000]) (rest := []) ⟨hx, hb, hml, hown, hts⟩ (kX9_isIn l D cI cJ cZ w.toInt64 1000) (va_cwS 2 hts gX9_width_X9_isIn rfl rfl rfl (by decide +kernel) ⟨Nat.le_of_ble_eq_true rfl, Nat.le_of_ble_eq_true rfl⟩) ⟨rP_blind, rP_pre (va_P_nil) hK hN⟩ rfl rfl hl.1 rfl (lv_room (Nat.le_of_ble_eq_true rfl)) dX9_width_21 ⟨Nat.zero_le _, Nat.zero_le _⟩) ?_
    refine lv_if_ne (tgt := 29) hx hb dX9_width_24 (by decide) (fun c_2 => ?_) (fun c_2 => ?_)
    · rw [if_neg c_2] at hE
      have hin : vp_in k 64 := isIn_in (K := 63) (by assumption) (by decide)
      refine lv_aload_n hx hb dX9_width_29 rfl (lv_at hl 0 rfl) ?_
      refine va_get (D := D) (ci := 9) (v := .ref a1) (C := RX9) (T := TX9) (N := 32) hx hb hts iw_9 hown hK hP 0 rfl rfl 0 (by decide) (hts (.fieldLink RX9 7 "DepositCodesModel" "widths" "[I") (by decide +kernel)) (fun _ h9 => h9) rfl dX9_width_30 ?_
      refine lv_iload_n hx hb dX9_width_33 rfl (lv_at hl 1 rfl) ?_
      refine lv_iload_n hx hb dX9_width_34 rfl (lv_at hl 2 rfl) ?_
      refine va_iast hx hb hK hP hD hS 1 0 rfl rfl (by assumption) dX9_width_35 (fun H locs hP hD hS => ?_)
      have hP : va_P D vwCl [(w0, .inr (9, [.ref a1, .ref a2, .int (nI rdn), .int 0, .int (nI rmn), .ref a3, .ref a4, .ref a5, .ref a6, .ref a7, .ref a8, .ref a9, .ref a10, .ref a11, .ref a12, .ref a13, .int (nI rpn), .int rre, .ref a14, .ref a15, .int (nI rrn), .ref a16, .int (nI rfn), .ref a17, .ref a18, .ref a19, .int (nI rkn), .ref a20, .ref a21, .int (nI rcn), .ref a22, .ref a23])), (a1, .inl (cI, 64, .inl (upd rwd k.toNatClampNeg w)))] H := hP
      have hD : va_D A [(w0, .inr (9, [.ref a1, .ref a2, .int (nI rdn), .int 0, .int (nI rmn), .ref a3, .ref a4, .ref a5, .ref a6, .ref a7, .ref a8, .ref a9, .ref a10, .ref a11, .ref a12, .ref a13, .int (nI rpn), .int rre, .ref a14, .ref a15, .int (nI rrn), .ref a16, .int (nI rfn), .ref a17, .ref a18, .ref a19, .int (nI rkn), .ref a20, .ref a21, .int (nI rcn), .ref a22, .ref a23])), (a1, .inl (cI, 64, .inl (upd rwd k.toNatClampNeg w)))] := hD
      refine lv_iconst (v := 1) hx hb dX9_width_36 (by decide) ?_
      subst hE
      exact W.zret hx hb hr narrow_b1 (fun t ht hW => ⟨rfl, by rw [ht]; exact hP, hD, hS.F ht⟩) hS.2.2 dX9_width_37
    · rw [if_pos c_2] at hE
      refine lv_iconst (v := 0) hx hb dX9_width_27 (by decide) ?_
      subst hE
      exact W.zret hx hb hr narrow_b0 (fun t ht hW => ⟨rfl, by rw [ht]; exact hP, hD, hS.F ht⟩) hS.2.2 dX9_width_28
def FX9_size_l2 (rwd : Nat → Int32) : Nat → Nat → Nat
  | 0, _ => 0
  | n + 1, k => if 64 ≤ k then k else (if (rwd k) ≤ 0 then k else FX9_size_l2 rwd n (k + 1))
def FX9_size (rwd : Nat → Int32) : Nat := FX9_size_l2 rwd 65 0
set_option maxHeartbeats 4000000 in
set_option maxRecDepth 100000 in
theorem kX9_size (l : Launch) (D : va_G) (cI cJ cZ : ClassId) (w0 : Nat) (a1 : Nat) (a2 : Nat) (a3 : Nat) (a4 : Nat) (a5 : Nat) (a6 : Nat) (a7 : Nat) (a8 : Nat) (a9 : Nat) (a10 : Nat) (a11 : Nat) (a12 : Nat) (a13 : Nat) (a14 : Nat) (a15 : Nat) (a16 : Nat) (a17 : Nat) (a18 : Nat) (a19 : Nat) (a20 : Nat) (a21 : Nat) (a22 : Nat) (a23 : Nat) (rdn : Nat) (rfa : Int32) (rmn : Nat) (rpn : Nat) (rre : Int32) (rrn : Nat) (rfn : Nat) (rkn : Nat) (rcn : Nat) (rwd : Nat → Int32) : Met l yX9_size wsX9_size ({ frames := 0, cells := 0, slots := 0, locals := 0 }) (rP D (tz cI cJ cZ) [.ref w0] [(w0, .inr (9, [.ref a1, .ref a2, .int (nI rdn), .int rfa, .int (nI rmn), .ref a3, .ref a4, .ref a5, .ref a6, .ref a7, .ref a8, .ref a9, .ref a10, .ref a11, .ref a12, .ref a13, .int (nI rpn), .int rre, .ref a14, .ref a15, .int (nI rrn), .ref a16, .int (nI rfn), .ref a17, .ref a18, .ref a19, .int (nI rkn), .ref a20, .ref a21, .int (nI rcn), .ref a22, .ref a23])), (a1, .inl (cI, 64, .inl rwd))]) (k2_QcV (.int (nI (FX9_size rwd)))) 0 0 (fun _ => False) := by
  refine Met.ofW (cc := cX9_size) (maxL := 2) (ret := (some .int)) (by decide) rfl ?_
  intro p e s m args below meth c s₁ B hml hv
  obtain ⟨rfl, hP, hK, hN⟩ := hv
  have hx := B.exec
  have hb := B.bytes
  have hr := B.returns
  have hts := atoms_spec (ws := wsX9_size) B.pre
  have hown : s.vm.findClass RX9 = some m.cls := findClass_of_methodNamed B.named
  have hlocks := B.notSynchronized
  have iw_9 : ∀ w ∈ u_ws RX9 TX9 32, w ∈ wsX9_size := by decide +kernel
  generalize hE : FX9_size rwd = R0
  rw [FX9_size] at hE
  have hl := lv_entry ([.ref w0]) (n := 2) (Nat.le_of_ble_eq_true rfl)
  rw [lg_entry_eq]
  generalize (lg_sl ([.ref w0]) ++ List.replicate (2 - (lg_sl ([.ref w0])).length) Slot.unset).toArray = ls at hl ⊢
  have hl : lv_has ls 2 [(0, .ref w0)] := hl
  have loop_2 : ∀ (n : Nat) (k : Nat), k ≤ 64 → k + n = 65 → FX9_size_l2 rwd n k = R0 → ∀ ls : Array Slot, lv_has ls 2 [(1, .int (nI k)), (0, .ref w0)] → W p l e (headSpec wsX9_size ({ frames := 0, cells := 0, slots := 0, locals := 0 })).room s m ([.ref w0] : List Value).toArray below meth c s.heap [] 0 0 (MQ below (k2_QcV (.int (nI R0))) ([.ref w0] : List Value).toArray s 0 0 (fun _ => False)) (F0 m 2 ls []) := by
    intro n
    induction n with
    | zero =>
      intro k i_1 i_2
      exact absurd i_1 (by omega)
    | succ n ih =>
      intro k i_1 i_2 hE ls hl
      rw [FX9_size_l2] at hE
      refine lv_iload_n hx hb dX9_size_2 rfl (lv_at hl 0 rfl) ?_
      refine lv_bipush (v := 64) hx hb dX9_size_3 (by decide) ?_
      refine lv_icmp_ge (tgt := 23) hx hb dX9_size_5 (by decide) (fun c_1 => ?_) (fun c_1 => ?_)
      · have c_1 : 64 ≤ k := (nI_leI (a := 64) (b := k) (by omega) (by omega)).mp c_1
        rw [if_pos c_1] at hE
        refine lv_iload_n hx hb dX9_size_23 rfl (lv_at hl 0 rfl) ?_
        exact W.iret (v := nI k) hx hb hr (fun t ht hW => ⟨by rw [← hE], ht⟩) (fun q h => absurd h List.not_mem_nil) dX9_size_24
      · have c_1 : ¬ 64 ≤ k := fun h9 => c_1 ((nI_leI (a := 64) (b := k) (by omega) (by omega)).mpr h9)
        rw [if_neg c_1] at hE
        refine lv_aload_n hx hb dX9_size_8 rfl (lv_at hl 1 rfl) ?_
        refine va_get (D := D) (ci := 9) (v := .ref a1) (C := RX9) (T := TX9) (N := 32) hx hb hts iw_9 hown hK hP 0 rfl rfl 0 (by decide) (hts (.fieldLink RX9 7 "DepositCodesModel" "widths" "[I") (by decide +kernel)) (fun _ h9 => h9) rfl dX9_size_9 ?_
        refine lv_iload_n hx hb dX9_size_12 rfl (lv_at hl 0 rfl) ?_
        refine na_iald hx hb hK hP 1 0 rfl rfl (by omega) (by decide) dX9_size_13 ?_
        refine lv_if_le (tgt := 23) hx hb dX9_size_14 (by decide) (fun c_2 => ?_) (fun c_2 => ?_)
        · rw [if_pos c_2] at hE
          refine lv_iload_n hx hb dX9_size_23 rfl (lv_at hl 0 rfl) ?_
          exact W.iret (v := nI k) hx hb hr (fun t ht hW => ⟨by rw [← hE], ht⟩) (fun q h => absurd h List.not_mem_nil) dX9_size_24
        · rw [if_neg c_2] at hE
          refine lv_iinc (v := nI (k + 1)) (lv' := [(1, .int (nI (k + 1))), (0, .ref w0)]) hx hb dX9_size_17 hl (k := 0) rfl (nI_1 k) (by decide) rfl (fun ls hl => ?_)
          refine lv_goto (tgt := 2) hx hb dX9_size_20 (by decide) ?_
          exact ih (k + 1) (by omega) (by omega) hE ls (lv_sub hl [0, 1] rfl)
  refine lv_iconst (v := 0) hx hb dX9_size_0 (by decide) ?_
  refine lv_istore_n (lv' := [(1, .int 0), (0, .ref w0)]) hx hb dX9_size_1 rfl hl (by decide) rfl (fun ls hl => ?_)
  exact loop_2 65 0 (by omega) (by omega) hE ls (lv_sub hl [0, 1] rfl)
theorem FX9_size_l2_le (rwd : Nat → Int32) (n : Nat) : ∀ k : Nat, k ≤ 64 → k + n = 65 → FX9_size_l2 rwd n k ≤ 64 := by
  induction n with
  | zero => intro k h1 h2; omega
  | succ n ih =>
    intro k h1 h2
    rw [FX9_size_l2]
    split
    · exact h1
    · split
      · exact h1
      · exact ih _ (by omega) (by omega)
theorem FX9_size_le (rwd : Nat → Int32) : FX9_size rwd ≤ 64 := FX9_size_l2_le rwd 65 0 (by omega) (by omega)
def FX9_at (rwd : Nat → Int32) (k : Nat) (tu : Int32) : Int32 := if tu = 0 then rwd k else rwd (((FX9_size rwd) - 1) - k)
set_option maxHeartbeats 4000000 in
set_option maxRecDepth 100000 in
theorem kX9_at (l : Launch) (D : va_G) (cI cJ cZ : ClassId) (w0 : Nat) (a1 : Nat) (a2 : Nat) (a3 : Nat) (a4 : Nat) (a5 : Nat) (a6 : Nat) (a7 : Nat) (a8 : Nat) (a9 : Nat) (a10 : Nat) (a11 : Nat) (a12 : Nat) (a13 : Nat) (a14 : Nat) (a15 : Nat) (a16 : Nat) (a17 : Nat) (a18 : Nat) (a19 : Nat) (a20 : Nat) (a21 : Nat) (a22 : Nat) (a23 : Nat) (rdn : Nat) (rfa : Int32) (rmn : Nat) (rpn : Nat) (rre : Int32) (rrn : Nat) (rfn : Nat) (rkn : Nat) (rcn : Nat) (rwd : Nat → Int32) (k : Nat) (tu : Int32) (hk : k < FX9_size rwd) : Met l yX9_at wsX9_at ({ frames := 1, cells := 0, slots := 0, locals := 21 }) (rP D (tz cI cJ cZ) [.ref w0, .int (nI k), .int tu] [(w0, .inr (9, [.ref a1, .ref a2, .int (nI rdn), .int rfa, .int (nI rmn), .ref a3, .ref a4, .ref a5, .ref a6, .ref a7, .ref a8, .ref a9, .ref a10, .ref a11, .ref a12, .ref a13, .int (nI rpn), .int rre, .ref a14, .ref a15, .int (nI rrn), .ref a16, .int (nI rfn), .ref a17, .ref a18, .ref a19, .int (nI rkn), .ref a20, .ref a21, .int (nI rcn), .ref a22, .ref a23])), (a1, .inl (cI, 64, .inl rwd))]) (k2_QcV (.int (FX9_at rwd k tu))) 0 0 (fun _ => False) := by
  refine Met.ofW (cc := cX9_at) (maxL := 3) (ret := (some .int)) (by decide) rfl ?_
  intro p e s m args below meth c s₁ B hml hv
  obtain ⟨rfl, hP, hK, hN⟩ := hv
  have hx := B.exec
  have hb := B.bytes
  have hr := B.returns
  have hts := atoms_spec (ws := wsX9_at) B.pre
  have hown : s.vm.findClass RX9 = some m.cls := findClass_of_methodNamed B.named
  have hlocks := B.notSynchronized
  have iw_9 : ∀ w ∈ u_ws RX9 TX9 32, w ∈ wsX9_at := by decide +kernel
  generalize hE : FX9_at rwd k tu = R0
  rw [FX9_at] at hE
  have hl := lv_entry ([.ref w0, .int (nI k), .int tu]) (n := 3) (Nat.le_of_ble_eq_true rfl)
  rw [lg_entry_eq]
  generalize (lg_sl ([.ref w0, .int (nI k), .int tu]) ++ List.replicate (3 - (lg_sl ([.ref w0, .int (nI k), .int tu])).length) Slot.unset).toArray = ls at hl ⊢
  have hl : lv_has ls 3 [(0, .ref w0), (1, .int (nI k)), (2, .int tu)] := hl
  have hsz := FX9_size_le rwd
  refine lv_aload_n hx hb dX9_at_0 rfl (lv_at hl 0 rfl) ?_
  refine va_get (D := D) (ci := 9) (v := .ref a1) (C := RX9) (T := TX9) (N := 32) hx hb hts iw_9 hown hK hP 0 rfl rfl 0 (by decide) (hts (.fieldLink RX9 7 "DepositCodesModel" "widths" "[I") (by decide +kernel)) (fun _ h9 => h9) rfl dX9_at_1 ?_
  refine lv_iload_n hx hb dX9_at_4 rfl (lv_at hl 2 rfl) ?_
  refine lv_if_eq (tgt := 19) hx hb dX9_at_5 (by decide) (fun c_1 => ?_) (fun c_1 => ?_)
  · rw [if_pos c_1] at hE
    refine lv_iload_n hx hb dX9_at_19 rfl (lv_at hl 1 rfl) ?_
    refine na_iald hx hb hK hP 1 0 rfl rfl (by omega) (by decide) dX9_at_20 ?_
    exact W.iret hx hb hr (fun t ht hW => ⟨by rw [← hE], ht⟩) (fun q h => absurd h List.not_mem_nil) dX9_at_21
  · rw [if_neg c_1] at hE
    refine lv_aload_n hx hb dX9_at_8 rfl (lv_at hl 0 rfl) ?_
    refine rd_call (va_runV (As := []) (rest := [.ref a1]) ⟨hx, hb, hml, hown, hts⟩ (kX9_size l D cI cJ cZ w0 a1 a2 a3 a4 a5 a6 a7 a8 a9 a10 a11 a12 a13 a14 a15 a16 a17 a18 a19 a20 a21 a22 a23 rdn rfa rmn rpn rre rrn rfn rkn rcn rwd) (cwV 0 hts gX9_at_X9_size rfl rfl rfl (by decide +kernel) ⟨Nat.le_of_ble_eq_true rfl, Nat.le_of_ble_eq_true rfl⟩) ⟨rP_blind, va_recv hK hP (ci := 9) (q0 := 0) rfl rfl, rP_pre (hP.sub [0, 1] rfl) hK hN⟩ rfl rfl hl.1 rfl (lv_room (Nat.le_of_ble_eq_true rfl)) dX9_at_9 ⟨Nat.zero_le _, Nat.zero_le _⟩) ?_
    refine lv_iconst (v := 1) hx hb dX9_at_12 (by decide) ?_
    refine lv_isub hx hb dX9_at_13 ?_
    refine na_top (show (nI (FX9_size rwd)) - 1 = nI ((FX9_size rwd) - 1) from pk_sub (a := (FX9_size rwd)) (b := 1) (by omega)) ?_
    refine lv_iload_n hx hb dX9_at_14 rfl (lv_at hl 1 rfl) ?_
    refine lv_isub hx hb dX9_at_15 ?_
    refine na_top (show (nI ((FX9_size rwd) - 1)) - (nI k) = nI (((FX9_size rwd) - 1) - k) from pk_sub (a := ((FX9_size rwd) - 1)) (b := k) (by omega)) ?_
    refine lv_goto (tgt := 20) hx hb dX9_at_16 (by decide) ?_
    refine na_iald hx hb hK hP 1 0 rfl rfl (by omega) (by decide) dX9_at_20 ?_
    exact W.iret hx hb hr (fun t ht hW => ⟨by rw [← hE], ht⟩) (fun q h => absurd h List.not_mem_nil) dX9_at_21
def FX9_pattern_l121 (k : Nat) : Nat → Nat → Int32 → Int32
  | 0, _, _ => 0
  | n + 1, i, pv => if i ≤ k then pv - pv / 10 * 10 else FX9_pattern_l121 k n (i - 1) (pv / 10)
def FX9_pattern (d : Nat) (k : Nat) : Int32 := if d = 0 then FX9_pattern_l121 k 4 3 3211 else (if d = 1 then FX9_pattern_l121 k 4 3 2221 else (if d = 2 then FX9_pattern_l121 k 4 3 2122 else (if d = 3 then FX9_pattern_l121 k 4 3 1411 else (if d = 4 then FX9_pattern_l121 k 4 3 1132 else (if d = 5 then FX9_pattern_l121 k 4 3 1231 else (if d = 6 then FX9_pattern_l121 k 4 3 1114 else (if d = 7 then FX9_pattern_l121 k 4 3 1312 else (if d = 8 then FX9_pattern_l121 k 4 3 1213 else FX9_pattern_l121 k 4 3 3112))))))))
set_option maxHeartbeats 4000000 in
set_option maxRecDepth 100000 in
theorem kX9_pattern (l : Launch) (D : va_G) (cI cJ cZ : ClassId) (d : Nat) (k : Nat) (hd : d < 10) (hk : k < 4) : Met l yX9_pattern wsX9_pattern ({ frames := 0, cells := 0, slots := 0, locals := 0 }) (rP D (tz cI cJ cZ) [.int (nI d), .int (nI k)] []) (k2_QcV (.int (FX9_pattern d k))) 0 0 (fun _ => False) := by
  refine Met.ofW (cc := cX9_pattern) (maxL := 4) (ret := (some .int)) (by decide) rfl ?_
  intro p e s m args below meth c s₁ B hml hv
  obtain ⟨rfl, hP, hK, hN⟩ := hv
  have hx := B.exec
  have hb := B.bytes
  have hr := B.returns
  have hts := atoms_spec (ws := wsX9_pattern) B.pre
  have hown : s.vm.findClass RX9 = some m.cls := findClass_of_methodNamed B.named
  have hlocks := B.notSynchronized
  generalize hE : FX9_pattern d k = R0
  rw [FX9_pattern] at hE
  have hl := lv_entry ([.int (nI d), .int (nI k)]) (n := 4) (Nat.le_of_ble_eq_true rfl)
  rw [lg_entry_eq]
  generalize (lg_sl ([.int (nI d), .int (nI k)]) ++ List.replicate (4 - (lg_sl ([.int (nI d), .int (nI k)])).length) Slot.unset).toArray = ls at hl ⊢
  have hl : lv_has ls 4 [(0, .int (nI d)), (1, .int (nI k))] := hl
  have loop_121 : ∀ (n : Nat) (i : Nat) (pv : Int32), i < n → i ≤ 3 → FX9_pattern_l121 k n i pv = R0 → ∀ ls : Array Slot, lv_has ls 4 [(3, .int (nI i)), (2, .int pv), (0, .int (nI d)), (1, .int (nI k))] → W p l e (headSpec wsX9_pattern ({ frames := 0, cells := 0, slots := 0, locals := 0 })).room s m ([.int (nI d), .int (nI k)] : List Value).toArray below meth c s.heap [] 0 0 (MQ below (k2_QcV (.int R0)) ([.int (nI d), .int (nI k)] : List Value).toArray s 0 0 (fun _ => False)) (F0 m 121 ls []) := by
    intro n
    induction n with
    | zero =>
      intro i pv i_1 i_2
      exact absurd i_1 (by omega)
    | succ n ih =>
      intro i pv i_1 i_2 hE ls hl
      rw [FX9_pattern_l121] at hE
      refine lv_iload_n hx hb dX9_pattern_121 rfl (lv_at hl 0 rfl) ?_
      refine lv_iload_n hx hb dX9_pattern_122 rfl (lv_at hl 3 rfl) ?_
      refine lv_icmp_le (tgt := 137) hx hb dX9_pattern_123 (by decide) (fun c_1 => ?_) (fun c_1 => ?_)
      · have c_1 : i ≤ k := (nI_leI (a := i) (b := k) (by omega) (by omega)).mp c_1
        rw [if_pos c_1] at hE
        refine lv_iload_n hx hb dX9_pattern_137 rfl (lv_at hl 1 rfl) ?_
        refine lv_bipush (v := 10) hx hb dX9_pattern_138 (by decide) ?_
        refine lv_irem hx hb dX9_pattern_140 (by decide) ?_
        exact W.iret hx hb hr (fun t ht hW => ⟨by rw [← hE], ht⟩) (fun q h => absurd h List.not_mem_nil) dX9_pattern_141
      · have c_1 : ¬ i ≤ k := fun h9 => c_1 ((nI_leI (a := i) (b := k) (by omega) (by omega)).mpr h9)
        rw [if_neg c_1] at hE
        refine lv_iload_n hx hb dX9_pattern_126 rfl (lv_at hl 1 rfl) ?_
        refine lv_bipush (v := 10) hx hb dX9_pattern_127 (by decide) ?_
        refine lv_idiv hx hb dX9_pattern_129 (by decide) ?_
        refine lv_istore_n (lv' := [(2, .int (pv / 10)), (3, .int (nI i)), (0, .int (nI d)), (1, .int (nI k))]) hx hb dX9_pattern_130 rfl hl (by decide) rfl (fun ls hl => ?_)
        refine lv_iinc (v := nI (i - 1)) (lv' := [(3, .int (nI (i - 1))), (2, .int (pv / 10)), (0, .int (nI d)), (1, .int (nI k))]) hx hb dX9_pattern_131 hl (k := 1) rfl (sb_m1 (p := i) (by omega)) (by decide) rfl (fun ls hl => ?_)
        refine lv_goto (tgt := 121) hx hb dX9_pattern_134 (by decide) ?_
        exact ih (i - 1) (pv / 10) (by omega) (by omega) hE ls (lv_sub hl [0, 1, 2, 3] rfl)
  refine lv_iconst (v := 0) hx hb dX9_pattern_0 (by decide) ?_
  refine lv_istore_n (lv' := [(2, .int 0), (0, .int (nI d)), (1, .int (nI k))]) hx hb dX9_pattern_1 rfl hl (by decide) rfl (fun ls hl => ?_)
  refine lv_iload_n hx hb dX9_pattern_2 rfl (lv_at hl 1 rfl) ?_
  by_cases n_0 : d = 0
  · rw [if_pos n_0] at hE
    refine lv_tableIn (tgt := 52) (off := 49) hx hb dX9_pattern_3 (by rw [n_0]; decide) (by rw [n_0]; decide) (by rw [n_0]; decide) (by decide) ?_
    refine lv_sipush (v := 3211) hx hb dX9_pattern_52 (by decide) ?_
    refine lv_istore_n (lv' := [(2, .int 3211), (0, .int (nI d)), (1, .int (nI k))]) hx hb dX9_pattern_55 rfl hl (by decide) rfl (fun ls hl => ?_)
    refine lv_goto (tgt := 119) hx hb dX9_pattern_56 (by decide) ?_
    refine lv_iconst (v := 3) hx hb dX9_pattern_119 (by decide) ?_
    refine lv_istore_n (lv' := [(3, .int 3), (2, .int 3211), (0, .int (nI d)), (1, .int (nI k))]) hx hb dX9_pattern_120 rfl hl (by decide) rfl (fun ls hl => ?_)
    exact loop_121 4 3 3211 (by omega) (by omega) hE ls (lv_sub hl [0, 1, 2, 3] rfl)
  · rw [if_neg n_0] at hE
    by_cases n_1 : d = 1
    · rw [if_pos n_1] at hE
      refine lv_tableIn (tgt := 59) (off := 56) hx hb dX9_pattern_3 (by rw [n_1]; decide) (by rw [n_1]; decide) (by rw [n_1]; decide) (by decide) ?_
      refine lv_sipush (v := 2221) hx hb dX9_pattern_59 (by decide) ?_
      refine lv_istore_n (lv' := [(2, .int 2221), (0, .int (nI d)), (1, .int (nI k))]) hx hb dX9_pattern_62 rfl hl (by decide) rfl (fun ls hl => ?_)
      refine lv_goto (tgt := 119) hx hb dX9_pattern_63 (by decide) ?_
      refine lv_iconst (v := 3) hx hb dX9_pattern_119 (by decide) ?_
      refine lv_istore_n (lv' := [(3, .int 3), (2, .int 2221), (0, .int (nI d)), (1, .int (nI k))]) hx hb dX9_pattern_120 rfl hl (by decide) rfl (fun ls hl => ?_)
      exact loop_121 4 3 2221 (by omega) (by omega) hE ls (lv_sub hl [0, 1, 2, 3] rfl)
    · rw [if_neg n_1] at hE
      by_cases n_2 : d = 2
      · rw [if_pos n_2] at hE
        refine lv_tableIn (tgt := 66) (off := 63) hx hb dX9_pattern_3 (by rw [n_2]; decide) (by rw [n_2]; decide) (by rw [n_2]; decide) (by decide) ?_
        refine lv_sipush (v := 2122) hx hb dX9_pattern_66 (by decide) ?_
        refine lv_istore_n (lv' := [(2, .int 2122), (0, .int (nI d)), (1, .int (nI k))]) hx hb dX9_pattern_69 rfl hl (by decide) rfl (fun ls hl => ?_)
        refine lv_goto (tgt := 119) hx hb dX9_pattern_70 (by decide) ?_
        refine lv_iconst (v := 3) hx hb dX9_pattern_119 (by decide) ?_
        refine lv_istore_n (lv' := [(3, .int 3), (2, .int 2122), (0, .int (nI d)), (1, .int (nI k))]) hx hb dX9_pattern_120 rfl hl (by decide) rfl (fun ls hl => ?_)
        exact loop_121 4 3 2122 (by omega) (by omega) hE ls (lv_sub hl [0, 1, 2, 3] rfl)
      · rw [if_neg n_2] at hE
        by_cases n_3 : d = 3
        · rw [if_pos n_3] at hE
          refine lv_tableIn (tgt := 73) (off := 70) hx hb dX9_pattern_3 (by rw [n_3]; decide) (by rw [n_3]; decide) (by rw [n_3]; decide) (by decide) ?_
          refine lv_sipush (v := 1411) hx hb dX9_pattern_73 (by decide) ?_
          refine lv_istore_n (lv' := [(2, .int 1411), (0, .int (nI d)), (1, .int (nI k))]) hx hb dX9_pattern_76 rfl hl (by decide) rfl (fun ls hl => ?_)
          refine lv_goto (tgt := 119) hx hb dX9_pattern_77 (by decide) ?_
          refine lv_iconst (v := 3) hx hb dX9_pattern_119 (by decide) ?_
          refine lv_istore_n (lv' := [(3, .int 3), (2, .int 1411), (0, .int (nI d)), (1, .int (nI k))]) hx hb dX9_pattern_120 rfl hl (by decide) rfl (fun ls hl => ?_)
          exact loop_121 4 3 1411 (by omega) (by omega) hE ls (lv_sub hl [0, 1, 2, 3] rfl)
        · rw [if_neg n_3] at hE
          by_cases n_4 : d = 4
          · rw [if_pos n_4] at hE
            refine lv_tableIn (tgt := 80) (off := 77) hx hb dX9_pattern_3 (by rw [n_4]; decide) (by rw [n_4]; decide) (by rw [n_4]; decide) (by decide) ?_
            refine lv_sipush (v := 1132) hx hb dX9_pattern_80 (by decide) ?_
            refine lv_istore_n (lv' := [(2, .int 1132), (0, .int (nI d)), (1, .int (nI k))]) hx hb dX9_pattern_83 rfl hl (by decide) rfl (fun ls hl => ?_)
            refine lv_goto (tgt := 119) hx hb dX9_pattern_84 (by decide) ?_
            refine lv_iconst (v := 3) hx hb dX9_pattern_119 (by decide) ?_
            refine lv_istore_n (lv' := [(3, .int 3), (2, .int 1132), (0, .int (nI d)), (1, .int (nI k))]) hx hb dX9_pattern_120 rfl hl (by decide) rfl (fun ls hl => ?_)
            exact loop_121 4 3 1132 (by omega) (by omega) hE ls (lv_sub hl [0, 1, 2, 3] rfl)
          · rw [if_neg n_4] at hE
            by_cases n_5 : d = 5
            · rw [if_pos n_5] at hE
              refine lv_tableIn (tgt := 87) (off := 84) hx hb dX9_pattern_3 (by rw [n_5]; decide) (by rw [n_5]; decide) (by rw [n_5]; decide) (by decide) ?_
              refine lv_sipush (v := 1231) hx hb dX9_pattern_87 (by decide) ?_
              refine lv_istore_n (lv' := [(2, .int 1231), (0, .int (nI d)), (1, .int (nI k))]) hx hb dX9_pattern_90 rfl hl (by decide) rfl (fun ls hl => ?_)
              refine lv_goto (tgt := 119) hx hb dX9_pattern_91 (by decide) ?_
              refine lv_iconst (v := 3) hx hb dX9_pattern_119 (by decide) ?_
              refine lv_istore_n (lv' := [(3, .int 3), (2, .int 1231), (0, .int (nI d)), (1, .int (nI k))]) hx hb dX9_pattern_120 rfl hl (by decide) rfl (fun ls hl => ?_)
              exact loop_121 4 3 1231 (by omega) (by omega) hE ls (lv_sub hl [0, 1, 2, 3] rfl)
            · rw [if_neg n_5] at hE
              by_cases n_6 : d = 6
              · rw [if_pos n_6] at hE
                refine lv_tableIn (tgt := 94) (off := 91) hx hb dX9_pattern_3 (by rw [n_6]; decide) (by rw [n_6]; decide) (by rw [n_6]; decide) (by decide) ?_
                refine lv_sipush (v := 1114) hx hb dX9_pattern_94 (by decide) ?_
                refine lv_istore_n (lv' := [(2, .int 1114), (0, .int (nI d)), (1, .int (nI k))]) hx hb dX9_pattern_97 rfl hl (by decide) rfl (fun ls hl => ?_)
                refine lv_goto (tgt := 119) hx hb dX9_pattern_98 (by decide) ?_
                refine lv_iconst (v := 3) hx hb dX9_pattern_119 (by decide) ?_
                refine lv_istore_n (lv' := [(3, .int 3), (2, .int 1114), (0, .int (nI d)), (1, .int (nI k))]) hx hb dX9_pattern_120 rfl hl (by decide) rfl (fun ls hl => ?_)
                exact loop_121 4 3 1114 (by omega) (by omega) hE ls (lv_sub hl [0, 1, 2, 3] rfl)
              · rw [if_neg n_6] at hE
                by_cases n_7 : d = 7
                · rw [if_pos n_7] at hE
                  refine lv_tableIn (tgt := 101) (off := 98) hx hb dX9_pattern_3 (by rw [n_7]; decide) (by rw [n_7]; decide) (by rw [n_7]; decide) (by decide) ?_
                  refine lv_sipush (v := 1312) hx hb dX9_pattern_101 (by decide) ?_
                  refine lv_istore_n (lv' := [(2, .int 1312), (0, .int (nI d)), (1, .int (nI k))]) hx hb dX9_pattern_104 rfl hl (by decide) rfl (fun ls hl => ?_)
                  refine lv_goto (tgt := 119) hx hb dX9_pattern_105 (by decide) ?_
                  refine lv_iconst (v := 3) hx hb dX9_pattern_119 (by decide) ?_
                  refine lv_istore_n (lv' := [(3, .int 3), (2, .int 1312), (0, .int (nI d)), (1, .int (nI k))]) hx hb dX9_pattern_120 rfl hl (by decide) rfl (fun ls hl => ?_)
                  exact loop_121 4 3 1312 (by omega) (by omega) hE ls (lv_sub hl [0, 1, 2, 3] rfl)
                · rw [if_neg n_7] at hE
                  by_cases n_8 : d = 8
                  · rw [if_pos n_8] at hE
                    refine lv_tableIn (tgt := 108) (off := 105) hx hb dX9_pattern_3 (by rw [n_8]; decide) (by rw [n_8]; decide) (by rw [n_8]; decide) (by decide) ?_
                    refine lv_sipush (v := 1213) hx hb dX9_pattern_108 (by decide) ?_
                    refine lv_istore_n (lv' := [(2, .int 1213), (0, .int (nI d)), (1, .int (nI k))]) hx hb dX9_pattern_111 rfl hl (by decide) rfl (fun ls hl => ?_)
                    refine lv_goto (tgt := 119) hx hb dX9_pattern_112 (by decide) ?_
                    refine lv_iconst (v := 3) hx hb dX9_pattern_119 (by decide) ?_
                    refine lv_istore_n (lv' := [(3, .int 3), (2, .int 1213), (0, .int (nI d)), (1, .int (nI k))]) hx hb dX9_pattern_120 rfl hl (by decide) rfl (fun ls hl => ?_)
                    exact loop_121 4 3 1213 (by omega) (by omega) hE ls (lv_sub hl [0, 1, 2, 3] rfl)
                  · rw [if_neg n_8] at hE
                    refine lv_tableOut (tgt := 115) hx hb dX9_pattern_3 (Or.inr (by rw [nI_toInt (by omega)]; omega)) (by decide) ?_
                    refine lv_sipush (v := 3112) hx hb dX9_pattern_115 (by decide) ?_
                    refine lv_istore_n (lv' := [(2, .int 3112), (0, .int (nI d)), (1, .int (nI k))]) hx hb dX9_pattern_118 rfl hl (by decide) rfl (fun ls hl => ?_)
                    refine lv_iconst (v := 3) hx hb dX9_pattern_119 (by decide) ?_
                    refine lv_istore_n (lv' := [(3, .int 3), (2, .int 3112), (0, .int (nI d)), (1, .int (nI k))]) hx hb dX9_pattern_120 rfl hl (by decide) rfl (fun ls hl => ?_)
                    exact loop_121 4 3 3112 (by omega) (by omega) hE ls (lv_sub hl [0, 1, 2, 3] rfl)
def FX9_machine (rmn : Nat) (rse : Nat → Int32) : Int32 × Int32 × (Nat → Int32) × Nat := if rmn = 6 then ((-1), 0, rse, rmn) else (nI ((rmn + 1) - 1), 0, upd rse rmn (nI rmn), rmn + 1)
set_option maxHeartbeats 4000000 in
set_option maxRecDepth 100000 in
theorem kX9_machine (l : Launch) (D : va_G) (cI cJ cZ : ClassId) (w0 : Nat) (a1 : Nat) (a2 : Nat) (a3 : Nat) (a4 : Nat) (a5 : Nat) (a6 : Nat) (a7 : Nat) (a8 : Nat) (a9 : Nat) (a10 : Nat) (a11 : Nat) (a12 : Nat) (a13 : Nat) (a14 : Nat) (a15 : Nat) (a16 : Nat) (a17 : Nat) (a18 : Nat) (a19 : Nat) (a20 : Nat) (a21 : Nat) (a22 : Nat) (a23 : Nat) (rdn : Nat) (rfa : Int32) (rmn : Nat) (rpn : Nat) (rre : Int32) (rrn : Nat) (rfn : Nat) (rkn : Nat) (rcn : Nat) (rse : Nat → Int32) (sz : Nat) (hmn : rmn ≤ 6) : Met l yX9_machine wsX9_machine ({ frames := 0, cells := 0, slots := 0, locals := 0 }) (mP D (tz cI cJ cZ) [.ref w0] sz [(w0, .inr (9, [.ref a1, .ref a2, .int (nI rdn), .int rfa, .int (nI rmn), .ref a3, .ref a4, .ref a5, .ref a6, .ref a7, .ref a8, .ref a9, .ref a10, .ref a11, .ref a12, .ref a13, .int (nI rpn), .int rre, .ref a14, .ref a15, .int (nI rrn), .ref a16, .int (nI rfn), .ref a17, .ref a18, .ref a19, .int (nI rkn), .ref a20, .ref a21, .int (nI rcn), .ref a22, .ref a23])), (a3, .inl (cI, 6, .inl rse))]) (mQ D (some (.int ((FX9_machine rmn rse).1))) [(w0, .inr (9, [.ref a1, .ref a2, .int (nI rdn), .int ((FX9_machine rmn rse).2.1), .int (nI ((FX9_machine rmn rse).2.2.2)), .ref a3, .ref a4, .ref a5, .ref a6, .ref a7, .ref a8, .ref a9, .ref a10, .ref a11, .ref a12, .ref a13, .int (nI rpn), .int rre, .ref a14, .ref a15, .int (nI rrn), .ref a16, .int (nI rfn), .ref a17, .ref a18, .ref a19, .int (nI rkn), .ref a20, .ref a21, .int (nI rcn), .ref a22, .ref a23])), (a3, .inl (cI, 6, .inl ((FX9_machine rmn rse).2.2.1)))] (va_A [(w0, .inr (9, [.ref a1, .ref a2, .int (nI rdn), .int rfa, .int (nI rmn), .ref a3, .ref a4, .ref a5, .ref a6, .ref a7, .ref a8, .ref a9, .ref a10, .ref a11, .ref a12, .ref a13, .int (nI rpn), .int rre, .ref a14, .ref a15, .int (nI rrn), .ref a16, .int (nI rfn), .ref a17, .ref a18, .ref a19, .int (nI rkn), .ref a20, .ref a21, .int (nI rcn), .ref a22, .ref a23])), (a3, .inl (cI, 6, .inl rse))] sz)) 0 0 (va_A [(w0, .inr (9, [.ref a1, .ref a2, .int (nI rdn), .int rfa, .int (nI rmn), .ref a3, .ref a4, .ref a5, .ref a6, .ref a7, .ref a8, .ref a9, .ref a10, .ref a11, .ref a12, .ref a13, .int (nI rpn), .int rre, .ref a14, .ref a15, .int (nI rrn), .ref a16, .int (nI rfn), .ref a17, .ref a18, .ref a19, .int (nI rkn), .ref a20, .ref a21, .int (nI rcn), .ref a22, .ref a23])), (a3, .inl (cI, 6, .inl rse))] sz) := by
  refine Met.ofW (cc := cX9_machine) (maxL := 1) (ret := (some .int)) (by decide) rfl ?_
  intro p e s m args below meth c s₁ B hml hv
  obtain ⟨rfl, hsz, hP, hK, hD0, hN⟩ := hv
  have hx := B.exec
  have hb := B.bytes
  have hr := B.returns
  have hts := atoms_spec (ws := wsX9_machine) B.pre
  have hown : s.vm.findClass RX9 = some m.cls := findClass_of_methodNamed B.named
  have hlocks := B.notSynchronized
  have iw_9 : ∀ w ∈ u_ws RX9 TX9 32, w ∈ wsX9_machine := by decide +kernel
  subst hsz
  have hD := hD0.self (sz := s.heap.size)
  generalize hE : FX9_machine rmn rse = R0
  generalize hAe : va_A [(w0, .inr (9, [.ref a1, .ref a2, .int (nI rdn), .int rfa, .int (nI rmn), .ref a3, .ref a4, .ref a5, .ref a6, .ref a7, .ref a8, .ref a9, .ref a10, .ref a11, .ref a12, .ref a13, .int (nI rpn), .int rre, .ref a14, .ref a15, .int (nI rrn), .ref a16, .int (nI rfn), .ref a17, .ref a18, .ref a19, .int (nI rkn), .ref a20, .ref a21, .int (nI rcn), .ref a22, .ref a23])), (a3, .inl (cI, 6, .inl rse))] s.heap.size = A at hD ⊢
  have hA : ∀ q : Nat, s.heap.size ≤ q → A q := fun q h => by rw [← hAe]; exact Or.inr h
  have hS : va_S A s.heap s.heap [] := va_S.rf
  rw [FX9_machine] at hE
  have hl := lv_entry ([.ref w0]) (n := 1) (Nat.le_of_ble_eq_true rfl)
  rw [lg_entry_eq]
  generalize (lg_sl ([.ref w0]) ++ List.replicate (1 - (lg_sl ([.ref w0])).length) Slot.unset).toArray = ls at hl ⊢
  have hl : lv_has ls 1 [(0, .ref w0)] := hl
  refine lv_aload_n hx hb dX9_machine_0 rfl (lv_at hl 0 rfl) ?_
  refine lv_iconst (v := 0) hx hb dX9_machine_1 (by decide) ?_
  refine va_put (D := D) (ci := 9) (v := .int 0) (ty := .int) (C := RX9) (T := TX9) (N := 32) hx hb hts iw_9 tyX9 tyX9_ok nmX9 hown hK hP hD hS 0 rfl rfl 3 (by decide) (hts (.fieldLink RX9 81 "DepositCodesModel" "fault" "I") (by decide +kernel)) (fun _ h9 => h9) rfl (by decide +kernel) rfl rfl (Nat.le_of_ble_eq_true rfl) dX9_machine_2 (fun H locs hP hD hS => ?_)
  have hP : va_P D vwCl [(w0, .inr (9, [.ref a1, .ref a2, .int (nI rdn), .int 0, .int (nI rmn), .ref a3, .ref a4, .ref a5, .ref a6, .ref a7, .ref a8, .ref a9, .ref a10, .ref a11, .ref a12, .ref a13, .int (nI rpn), .int rre, .ref a14, .ref a15, .int (nI rrn), .ref a16, .int (nI rfn), .ref a17, .ref a18, .ref a19, .int (nI rkn), .ref a20, .ref a21, .int (nI rcn), .ref a22, .ref a23])), (a3, .inl (cI, 6, .inl rse))] H := hP
  have hD : va_D A [(w0, .inr (9, [.ref a1, .ref a2, .int (nI rdn), .int 0, .int (nI rmn), .ref a3, .ref a4, .ref a5, .ref a6, .ref a7, .ref a8, .ref a9, .ref a10, .ref a11, .ref a12, .ref a13, .int (nI rpn), .int rre, .ref a14, .ref a15, .int (nI rrn), .ref a16, .int (nI rfn), .ref a17, .ref a18, .ref a19, .int (nI rkn), .ref a20, .ref a21, .int (nI rcn), .ref a22, .ref a23])), (a3, .inl (cI, 6, .inl rse))] := hD
  refine lv_aload_n hx hb dX9_machine_5 rfl (lv_at hl 0 rfl) ?_
  refine va_get (D := D) (ci := 9) (v := .int (nI rmn)) (C := RX9) (T := TX9) (N := 32) hx hb hts iw_9 hown hK hP 0 rfl rfl 4 (by decide) (hts (.fieldLink RX9 131 "DepositCodesModel" "machines" "I") (by decide +kernel)) (fun _ h9 => h9) rfl dX9_machine_6 ?_
  refine lv_bipush (v := 6) hx hb dX9_machine_9 (by decide) ?_
  refine lv_icmp_ne (tgt := 16) hx hb dX9_machine_11 (by decide) (fun c_1 => ?_) (fun c_1 => ?_)
  · have c_1 : ¬ rmn = 6 := fun h9 => c_1 ((nI_eq (a := rmn) (b := 6) (by omega) (by omega)).mpr h9)
    rw [if_neg c_1] at hE
    refine lv_aload_n hx hb dX9_machine_16 rfl (lv_at hl 0 rfl) ?_
    refine va_get (D := D) (ci := 9) (v := .ref a3) (C := RX9) (T := TX9) (N := 32) hx hb hts iw_9 hown hK hP 0 rfl rfl 5 (by decide) (hts (.fieldLink RX9 16 "DepositCodesModel" "sets" "[I") (by decide +kernel)) (fun _ h9 => h9) rfl dX9_machine_17 ?_
    refine lv_aload_n hx hb dX9_machine_20 rfl (lv_at hl 0 rfl) ?_
    refine va_get (D := D) (ci := 9) (v := .int (nI rmn)) (C := RX9) (T := TX9) (N := 32) hx hb hts iw_9 hown hK hP 0 rfl rfl 4 (by decide) (hts (.fieldLink RX9 131 "DepositCodesModel" "machines" "I") (by decide +kernel)) (fun _ h9 => h9) rfl dX9_machine_21 ?_
    refine lv_aload_n hx hb dX9_machine_24 rfl (lv_at hl 0 rfl) ?_
    refine va_get (D := D) (ci := 9) (v := .int (nI rmn)) (C := RX9) (T := TX9) (N := 32) hx hb hts iw_9 hown hK hP 0 rfl rfl 4 (by decide) (hts (.fieldLink RX9 131 "DepositCodesModel" "machines" "I") (by decide +kernel)) (fun _ h9 => h9) rfl dX9_machine_25 ?_
    refine na_iast hx hb hK hP hD hS 1 0 rfl rfl (by omega) (by decide) dX9_machine_28 (fun H locs hP hD hS => ?_)
    have hP : va_P D vwCl [(w0, .inr (9, [.ref a1, .ref a2, .int (nI rdn), .int 0, .int (nI rmn), .ref a3, .ref a4, .ref a5, .ref a6, .ref a7, .ref a8, .ref a9, .ref a10, .ref a11, .ref a12, .ref a13, .int (nI rpn), .int rre, .ref a14, .ref a15, .int (nI rrn), .ref a16, .int (nI rfn), .ref a17, .ref a18, .ref a19, .int (nI rkn), .ref a20, .ref a21, .int (nI rcn), .ref a22, .ref a23])), (a3, .inl (cI, 6, .inl (upd rse rmn (nI rmn))))] H := hP
    have hD : va_D A [(w0, .inr (9, [.ref a1, .ref a2, .int (nI rdn), .int 0, .int (nI rmn), .ref a3, .ref a4, .ref a5, .ref a6, .ref a7, .ref a8, .ref a9, .ref a10, .ref a11, .ref a12, .ref a13, .int (nI rpn), .int rre, .ref a14, .ref a15, .int (nI rrn), .ref a16, .int (nI rfn), .ref a17, .ref a18, .ref a19, .int (nI rkn), .ref a20, .ref a21, .int (nI rcn), .ref a22, .ref a23])), (a3, .inl (cI, 6, .inl (upd rse rmn (nI rmn))))] := hD
    refine lv_aload_n hx hb dX9_machine_29 rfl (lv_at hl 0 rfl) ?_
    refine lv_dup hx hb dX9_machine_30 rfl ?_
    refine va_get (D := D) (ci := 9) (v := .int (nI rmn)) (C := RX9) (T := TX9) (N := 32) hx hb hts iw_9 hown hK hP 0 rfl rfl 4 (by decide) (hts (.fieldLink RX9 131 "DepositCodesModel" "machines" "I") (by decide +kernel)) (fun _ h9 => h9) rfl dX9_machine_31 ?_
    refine lv_iconst (v := 1) hx hb dX9_machine_34 (by decide) ?_
    refine lv_iadd hx hb dX9_machine_35 ?_
    refine na_top (show (nI rmn) + 1 = nI (rmn + 1) from nI_add rmn 1) ?_
    refine va_put (D := D) (ci := 9) (v := .int (nI (rmn + 1))) (ty := .int) (C := RX9) (T := TX9) (N := 32) hx hb hts iw_9 tyX9 tyX9_ok nmX9 hown hK hP hD hS 0 rfl rfl 4 (by decide) (hts (.fieldLink RX9 131 "DepositCodesModel" "machines" "I") (by decide +kernel)) (fun _ h9 => h9) rfl (by decide +kernel) rfl rfl (Nat.le_of_ble_eq_true rfl) dX9_machine_36 (fun H locs hP hD hS => ?_)
    have hP : va_P D vwCl [(w0, .inr (9, [.ref a1, .ref a2, .int (nI rdn), .int 0, .int (nI (rmn + 1)), .ref a3, .ref a4, .ref a5, .ref a6, .ref a7, .ref a8, .ref a9, .ref a10, .ref a11, .ref a12, .ref a13, .int (nI rpn), .int rre, .ref a14, .ref a15, .int (nI rrn), .ref a16, .int (nI rfn), .ref a17, .ref a18, .ref a19, .int (nI rkn), .ref a20, .ref a21, .int (nI rcn), .ref a22, .ref a23])), (a3, .inl (cI, 6, .inl (upd rse rmn (nI rmn))))] H := hP
    have hD : va_D A [(w0, .inr (9, [.ref a1, .ref a2, .int (nI rdn), .int 0, .int (nI (rmn + 1)), .ref a3, .ref a4, .ref a5, .ref a6, .ref a7, .ref a8, .ref a9, .ref a10, .ref a11, .ref a12, .ref a13, .int (nI rpn), .int rre, .ref a14, .ref a15, .int (nI rrn), .ref a16, .int (nI rfn), .ref a17, .ref a18, .ref a19, .int (nI rkn), .ref a20, .ref a21, .int (nI rcn), .ref a22, .ref a23])), (a3, .inl (cI, 6, .inl (upd rse rmn (nI rmn))))] := hD
    refine lv_aload_n hx hb dX9_machine_39 rfl (lv_at hl 0 rfl) ?_
    refine va_get (D := D) (ci := 9) (v := .int (nI (rmn + 1))) (C := RX9) (T := TX9) (N := 32) hx hb hts iw_9 hown hK hP 0 rfl rfl 4 (by decide) (hts (.fieldLink RX9 131 "DepositCodesModel" "machines" "I") (by decide +kernel)) (fun _ h9 => h9) rfl dX9_machine_40 ?_
    refine lv_iconst (v := 1) hx hb dX9_machine_43 (by decide) ?_
    refine lv_isub hx hb dX9_machine_44 ?_
    refine na_top (show (nI (rmn + 1)) - 1 = nI ((rmn + 1) - 1) from pk_sub (a := (rmn + 1)) (b := 1) (by omega)) ?_
    subst hE
    exact W.iret hx hb hr (fun t ht hW => ⟨rfl, by rw [ht]; exact hP, hD, hS.F ht⟩) hS.2.2 dX9_machine_45
  · have c_1 : rmn = 6 := (nI_eq (a := rmn) (b := 6) (by omega) (by omega)).mp c_1
    rw [if_pos c_1] at hE
    refine lv_iconst (v := (-1)) hx hb dX9_machine_14 (by decide) ?_
    subst hE
    exact W.iret hx hb hr (fun t ht hW => ⟨rfl, by rw [ht]; exact hP, hD, hS.F ht⟩) hS.2.2 dX9_machine_15
def FX9_shape (rle : Nat → Int32) (rmo : Nat → Int32) (k : Int32) (le : Int32) (mo : Int32) : Int32 × Int32 × (Nat → Int32) × (Nat → Int32) := if (FX9_isIn k.toInt64 7) = 0 then (0, 0, rle, rmo) else (if (FX9_isIn le.toInt64 100000) = 0 then (0, 0, rle, rmo) else (if (FX9_isIn mo.toInt64 100000) = 0 then (0, 0, rle, rmo) else (if le ≤ mo then (1, 0, upd rle k.toNatClampNeg le, upd rmo k.toNatClampNeg mo) else (0, 0, rle, rmo))))
theorem FX9_shape_b (rle : Nat → Int32) (rmo : Nat → Int32) (k : Int32) (le : Int32) (mo : Int32) : isB ((FX9_shape rle rmo k le mo).1) := by
  unfold FX9_shape
  repeat' split
  all_goals first | exact isB_0 | exact isB_1
set_option maxHeartbeats 4000000 in
set_option maxRecDepth 100000 in
theorem kX9_shape (l : Launch) (D : va_G) (cI cJ cZ : ClassId) (w0 : Nat) (a1 : Nat) (a2 : Nat) (a3 : Nat) (a4 : Nat) (a5 : Nat) (a6 : Nat) (a7 : Nat) (a8 : Nat) (a9 : Nat) (a10 : Nat) (a11 : Nat) (a12 : Nat) (a13 : Nat) (a14 : Nat) (a15 : Nat) (a16 : Nat) (a17 : Nat) (a18 : Nat) (a19 : Nat) (a20 : Nat) (a21 : Nat) (a22 : Nat) (a23 : Nat) (rdn : Nat) (rfa : Int32) (rmn : Nat) (rpn : Nat) (rre : Int32) (rrn : Nat) (rfn : Nat) (rkn : Nat) (rcn : Nat) (rle : Nat → Int32) (rmo : Nat → Int32) (k : Int32) (le : Int32) (mo : Int32) (sz : Nat) : Met l yX9_shape wsX9_shape ({ frames := 1, cells := 0, slots := 0, locals := 23 }) (mP D (tz cI cJ cZ) [.ref w0, .int k, .int le, .int mo] sz [(w0, .inr (9, [.ref a1, .ref a2, .int (nI rdn), .int rfa, .int (nI rmn), .ref a3, .ref a4, .ref a5, .ref a6, .ref a7, .ref a8, .ref a9, .ref a10, .ref a11, .ref a12, .ref a13, .int (nI rpn), .int rre, .ref a14, .ref a15, .int (nI rrn), .ref a16, .int (nI rfn), .ref a17, .ref a18, .ref a19, .int (nI rkn), .ref a20, .ref a21, .int (nI rcn), .ref a22, .ref a23])), (a6, .inl (cI, 8, .inl rle)), (a7, .inl (cI, 8, .inl rmo))]) (mQ D (some (.int ((FX9_shape rle rmo k le mo).1))) [(w0, .inr (9, [.ref a1, .ref a2, .int (nI rdn), .int ((FX9_shape rle rmo k le mo).2.1), .int (nI rmn), .ref a3, .ref a4, .ref a5, .ref a6, .ref a7, .ref a8, .ref a9, .ref a10, .ref a11, .ref a12, .ref a13, .int (nI rpn), .int rre, .ref a14, .ref a15, .int (nI rrn), .ref a16, .int (nI rfn), .ref a17, .ref a18, .ref a19, .int (nI rkn), .ref a20, .ref a21, .int (nI rcn), .ref a22, .ref a23])), (a6, .inl (cI, 8, .inl ((FX9_shape rle rmo k le mo).2.2.1))), (a7, .inl (cI, 8, .inl ((FX9_shape rle rmo k le mo).2.2.2)))] (va_A [(w0, .inr (9, [.ref a1, .ref a2, .int (nI rdn), .int rfa, .int (nI rmn), .ref a3, .ref a4, .ref a5, .ref a6, .ref a7, .ref a8, .ref a9, .ref a10, .ref a11, .ref a12, .ref a13, .int (nI rpn), .int rre, .ref a14, .ref a15, .int (nI rrn), .ref a16, .int (nI rfn), .ref a17, .ref a18, .ref a19, .int (nI rkn), .ref a20, .ref a21, .int (nI rcn), .ref a22, .ref a23])), (a6, .inl (cI, 8, .inl rle)), (a7, .inl (cI, 8, .inl rmo))] sz)) 0 0 (va_A [(w0, .inr (9, [.ref a1, .ref a2, .int (nI rdn), .int rfa, .int (nI rmn), .ref a3, .ref a4, .ref a5, .ref a6, .ref a7, .ref a8, .ref a9, .ref a10, .ref a11, .ref a12, .ref a13, .int (nI rpn), .int rre, .ref a14, .ref a15, .int (nI rrn), .ref a16, .int (nI rfn), .ref a17, .ref a18, .ref a19, .int (nI rkn), .ref a20, .ref a21, .int (nI rcn), .ref a22, .ref a23])), (a6, .inl (cI, 8, .inl rle)), (a7, .inl (cI, 8, .inl rmo))] sz) := by
  refine Met.ofW (cc := cX9_shape) (maxL := 4) (ret := (some .boolean)) (by decide) rfl ?_
  intro p e s m args below meth c s₁ B hml hv
  obtain ⟨rfl, hsz, hP, hK, hD0, hN⟩ := hv
  have hx := B.exec
  have hb := B.bytes
  have hr := B.returns
  have hts := atoms_spec (ws := wsX9_shape) B.pre
  have hown : s.vm.findClass RX9 = some m.cls := findClass_of_methodNamed B.named
  have hlocks := B.notSynchronized
  have iw_9 : ∀ w ∈ u_ws RX9 TX9 32, w ∈ wsX9_shape := by decide +kernel
  subst hsz
  have hD := hD0.self (sz := s.heap.size)
  generalize hE : FX9_shape rle rmo k le mo = R0
  generalize hAe : va_A [(w0, .inr (9, [.ref a1, .ref a2, .int (nI rdn), .int rfa, .int (nI rmn), .ref a3, .ref a4, .ref a5, .ref a6, .ref a7, .ref a8, .ref a9, .ref a10, .ref a11, .ref a12, .ref a13, .int (nI rpn), .int rre, .ref a14, .ref a15, .int (nI rrn), .ref a16, .int (nI rfn), .ref a17, .ref a18, .ref a19, .int (nI rkn), .ref a20, .ref a21, .int (nI rcn), .ref a22, .ref a23])), (a6, .inl (cI, 8, .inl rle)), (a7, .inl (cI, 8, .inl rmo))] s.heap.size = A at hD ⊢
  have hA : ∀ q : Nat, s.heap.size ≤ q → A q := fun q h => by rw [← hAe]; exact Or.inr h
  have hS : va_S A s.heap s.heap [] := va_S.rf
  rw [FX9_shape] at hE
  have hl := lv_entry ([.ref w0, .int k, .int le, .int mo]) (n := 4) (Nat.le_of_ble_eq_true rfl)
  rw [lg_entry_eq]
  generalize (lg_sl ([.ref w0, .int k, .int le, .int mo]) ++ List.replicate (4 - (lg_sl ([.ref w0, .int k, .int le, .int mo])).length) Slot.unset).toArray = ls at hl ⊢
  have hl : lv_has ls 4 [(0, .ref w0), (1, .int k), (2, .int le), (3, .int mo)] := hl
  refine lv_aload_n hx hb dX9_shape_0 rfl (lv_at hl 0 rfl) ?_
  refine lv_iconst (v := 0) hx hb dX9_shape_1 (by decide) ?_
  refine va_put (D := D) (ci := 9) (v := .int 0) (ty := .int) (C := RX9) (T := TX9) (N := 32) hx hb hts iw_9 tyX9 tyX9_ok nmX9 hown hK hP hD hS 0 rfl rfl 3 (by decide) (hts (.fieldLink RX9 81 "DepositCodesModel" "fault" "I") (by decide +kernel)) (fun _ h9 => h9) rfl (by decide +kernel) rfl rfl (Nat.le_of_ble_eq_true rfl) dX9_shape_2 (fun H locs hP hD hS => ?_)
  have hP : va_P D vwCl [(w0, .inr (9, [.ref a1, .ref a2, .int (nI rdn), .int 0, .int (nI rmn), .ref a3, .ref a4, .ref a5, .ref a6, .ref a7, .ref a8, .ref a9, .ref a10, .ref a11, .ref a12, .ref a13, .int (nI rpn), .int rre, .ref a14, .ref a15, .int (nI rrn), .ref a16, .int (nI rfn), .ref a17, .ref a18, .ref a19, .int (nI rkn), .ref a20, .ref a21, .int (nI rcn), .ref a22, .ref a23])), (a6, .inl (cI, 8, .inl rle)), (a7, .inl (cI, 8, .inl rmo))] H := hP
  have hD : va_D A [(w0, .inr (9, [.ref a1, .ref a2, .int (nI rdn), .int 0, .int (nI rmn), .ref a3, .ref a4, .ref a5, .ref a6, .ref a7, .ref a8, .ref a9, .ref a10, .ref a11, .ref a12, .ref a13, .int (nI rpn), .int rre, .ref a14, .ref a15, .int (nI rrn), .ref a16, .int (nI rfn), .ref a17, .ref a18, .ref a19, .int (nI rkn), .ref a20, .ref a21, .int (nI rcn), .ref a22, .ref a23])), (a6, .inl (cI, 8, .inl rle)), (a7, .inl (cI, 8, .inl rmo))] := hD
  refine lv_iload_n hx hb dX9_shape_5 rfl (lv_at hl 1 rfl) ?_
  refine lv_i2l hx hb dX9_shape_6 rfl ?_
  refine lv_ldc2 hx hb hown (hts (.constantLong RX9 125 7) (by decide +kernel)) dX9_shape_7 ?_
  refine rd_call (va_runS (As := [.long k.toInt64, .long 7]) (rest := []) ⟨hx, hb, hml, hown, hts⟩ (kX9_isIn l D cI cJ cZ k.toInt64 7) (va_cwS 2 hts gX9_shape_X9_isIn rfl rfl rfl (by decide +kernel) ⟨Nat.le_of_ble_eq_true rfl, Nat.le_of_ble_eq_true rfl⟩) ⟨rP_blind, rP_pre (va_P_nil) hK hN⟩ rfl rfl hl.1 rfl (lv_room (Nat.le_of_ble_eq_true rfl)) dX9_shape_10 ⟨Nat.zero_le _, Nat.zero_le _⟩) ?_
  refine lv_if_eq (tgt := 43) hx hb dX9_shape_13 (by decide) (fun c_1 => ?_) (fun c_1 => ?_)
  · rw [if_pos c_1] at hE
    refine lv_iconst (v := 0) hx hb dX9_shape_43 (by decide) ?_
    subst hE
    exact W.zret hx hb hr narrow_b0 (fun t ht hW => ⟨rfl, by rw [ht]; exact hP, hD, hS.F ht⟩) hS.2.2 dX9_shape_44
  · rw [if_neg c_1] at hE
    refine lv_iload_n hx hb dX9_shape_16 rfl (lv_at hl 2 rfl) ?_
    refine lv_i2l hx hb dX9_shape_17 rfl ?_
    refine lv_ldc2 hx hb hown (hts (.constantLong RX9 134 100000) (by decide +kernel)) dX9_shape_18 ?_
    refine rd_call (va_runS (As := [.long le.toInt64, .long 100000]) (rest := []) ⟨hx, hb, hml, hown, hts⟩ (kX9_isIn l D cI cJ cZ le.toInt64 100000) (va_cwS 2 hts gX9_shape_X9_isIn rfl rfl rfl (by decide +kernel) ⟨Nat.le_of_ble_eq_true rfl, Nat.le_of_ble_eq_true rfl⟩) ⟨rP_blind, rP_pre (va_P_nil) hK hN⟩ rfl rfl hl.1 rfl (lv_room (Nat.le_of_ble_eq_true rfl)) dX9_shape_21 ⟨Nat.zero_le _, Nat.zero_le _⟩) ?_
    refine lv_if_eq (tgt := 43) hx hb dX9_shape_24 (by decide) (fun c_2 => ?_) (fun c_2 => ?_)
    · rw [if_pos c_2] at hE
      refine lv_iconst (v := 0) hx hb dX9_shape_43 (by decide) ?_
      subst hE
      exact W.zret hx hb hr narrow_b0 (fun t ht hW => ⟨rfl, by rw [ht]; exact hP, hD, hS.F ht⟩) hS.2.2 dX9_shape_44
    · rw [if_neg c_2] at hE
      refine lv_iload_n hx hb dX9_shape_27 rfl (lv_at hl 3 rfl) ?_
      refine lv_i2l hx hb dX9_shape_28 rfl ?_
      refine lv_ldc2 hx hb hown (hts (.constantLong RX9 134 100000) (by decide +kernel)) dX9_shape_29 ?_
      refine rd_call (va_runS (As := [.long mo.toInt64, .long 100000]) (rest := []) ⟨hx, hb, hml, hown, hts⟩ (kX9_isIn l D cI cJ cZ mo.toInt64 100000) (va_cwS 2 hts gX9_shape_X9_isIn rfl rfl rfl (by decide +kernel) ⟨Nat.le_of_ble_eq_true rfl, Nat.le_of_ble_eq_true rfl⟩) ⟨rP_blind, rP_pre (va_P_nil) hK hN⟩ rfl rfl hl.1 rfl (lv_room (Nat.le_of_ble_eq_true rfl)) dX9_shape_32 ⟨Nat.zero_le _, Nat.zero_le _⟩) ?_
      refine lv_if_eq (tgt := 43) hx hb dX9_shape_35 (by decide) (fun c_3 => ?_) (fun c_3 => ?_)
      · rw [if_pos c_3] at hE
        refine lv_iconst (v := 0) hx hb dX9_shape_43 (by decide) ?_
        subst hE
        exact W.zret hx hb hr narrow_b0 (fun t ht hW => ⟨rfl, by rw [ht]; exact hP, hD, hS.F ht⟩) hS.2.2 dX9_shape_44
      · rw [if_neg c_3] at hE
        refine lv_iload_n hx hb dX9_shape_38 rfl (lv_at hl 2 rfl) ?_
        refine lv_iload_n hx hb dX9_shape_39 rfl (lv_at hl 3 rfl) ?_
        refine lv_icmp_le (tgt := 45) hx hb dX9_shape_40 (by decide) (fun c_4 => ?_) (fun c_4 => ?_)
        · rw [if_pos c_4] at hE
          have hin : vp_in k 8 := isIn_in (K := 7) (w := k) (by assumption) (by decide)
          refine lv_aload_n hx hb dX9_shape_45 rfl (lv_at hl 0 rfl) ?_
          refine va_get (D := D) (ci := 9) (v := .ref a6) (C := RX9) (T := TX9) (N := 32) hx hb hts iw_9 hown hK hP 0 rfl rfl 8 (by decide) (hts (.fieldLink RX9 26 "DepositCodesModel" "leasts" "[I") (by decide +kernel)) (fun _ h9 => h9) rfl dX9_shape_46 ?_
          refine lv_iload_n hx hb dX9_shape_49 rfl (lv_at hl 1 rfl) ?_
          refine lv_iload_n hx hb dX9_shape_50 rfl (lv_at hl 2 rfl) ?_
          refine va_iast hx hb hK hP hD hS 1 0 rfl rfl (by assumption) dX9_shape_51 (fun H locs hP hD hS => ?_)
          have hP : va_P D vwCl [(w0, .inr (9, [.ref a1, .ref a2, .int (nI rdn), .int 0, .int (nI rmn), .ref a3, .ref a4, .ref a5, .ref a6, .ref a7, .ref a8, .ref a9, .ref a10, .ref a11, .ref a12, .ref a13, .int (nI rpn), .int rre, .ref a14, .ref a15, .int (nI rrn), .ref a16, .int (nI rfn), .ref a17, .ref a18, .ref a19, .int (nI rkn), .ref a20, .ref a21, .int (nI rcn), .ref a22, .ref a23])), (a6, .inl (cI, 8, .inl (upd rle k.toNatClampNeg le))), (a7, .inl (cI, 8, .inl rmo))] H := hP
          have hD : va_D A [(w0, .inr (9, [.ref a1, .ref a2, .int (nI rdn), .int 0, .int (nI rmn), .ref a3, .ref a4, .ref a5, .ref a6, .ref a7, .ref a8, .ref a9, .ref a10, .ref a11, .ref a12, .ref a13, .int (nI rpn), .int rre, .ref a14, .ref a15, .int (nI rrn), .ref a16, .int (nI rfn), .ref a17, .ref a18, .ref a19, .int (nI rkn), .ref a20, .ref a21, .int (nI rcn), .ref a22, .ref a23])), (a6, .inl (cI, 8, .inl (upd rle k.toNatClampNeg le))), (a7, .inl (cI, 8, .inl rmo))] := hD
          refine lv_aload_n hx hb dX9_shape_52 rfl (lv_at hl 0 rfl) ?_
          refine va_get (D := D) (ci := 9) (v := .ref a7) (C := RX9) (T := TX9) (N := 32) hx hb hts iw_9 hown hK hP 0 rfl rfl 9 (by decide) (hts (.fieldLink RX9 29 "DepositCodesModel" "mosts" "[I") (by decide +kernel)) (fun _ h9 => h9) rfl dX9_shape_53 ?_
          refine lv_iload_n hx hb dX9_shape_56 rfl (lv_at hl 1 rfl) ?_
          refine lv_iload_n hx hb dX9_shape_57 rfl (lv_at hl 3 rfl) ?_
          refine va_iast hx hb hK hP hD hS 2 0 rfl rfl (by assumption) dX9_shape_58 (fun H locs hP hD hS => ?_)
          have hP : va_P D vwCl [(w0, .inr (9, [.ref a1, .ref a2, .int (nI rdn), .int 0, .int (nI rmn), .ref a3, .ref a4, .ref a5, .ref a6, .ref a7, .ref a8, .ref a9, .ref a10, .ref a11, .ref a12, .ref a13, .int (nI rpn), .int rre, .ref a14, .ref a15, .int (nI rrn), .ref a16, .int (nI rfn), .ref a17, .ref a18, .ref a19, .int (nI rkn), .ref a20, .ref a21, .int (nI rcn), .ref a22, .ref a23])), (a6, .inl (cI, 8, .inl (upd rle k.toNatClampNeg le))), (a7, .inl (cI, 8, .inl (upd rmo k.toNatClampNeg mo)))] H := hP
          have hD : va_D A [(w0, .inr (9, [.ref a1, .ref a2, .int (nI rdn), .int 0, .int (nI rmn), .ref a3, .ref a4, .ref a5, .ref a6, .ref a7, .ref a8, .ref a9, .ref a10, .ref a11, .ref a12, .ref a13, .int (nI rpn), .int rre, .ref a14, .ref a15, .int (nI rrn), .ref a16, .int (nI rfn), .ref a17, .ref a18, .ref a19, .int (nI rkn), .ref a20, .ref a21, .int (nI rcn), .ref a22, .ref a23])), (a6, .inl (cI, 8, .inl (upd rle k.toNatClampNeg le))), (a7, .inl (cI, 8, .inl (upd rmo k.toNatClampNeg mo)))] := hD
          refine lv_iconst (v := 1) hx hb dX9_shape_59 (by decide) ?_
          subst hE
          exact W.zret hx hb hr narrow_b1 (fun t ht hW => ⟨rfl, by rw [ht]; exact hP, hD, hS.F ht⟩) hS.2.2 dX9_shape_60
        · rw [if_neg c_4] at hE
          refine lv_iconst (v := 0) hx hb dX9_shape_43 (by decide) ?_
          subst hE
          exact W.zret hx hb hr narrow_b0 (fun t ht hW => ⟨rfl, by rw [ht]; exact hP, hD, hS.F ht⟩) hS.2.2 dX9_shape_44
def FX9_full (rmn : Nat) (rfu : Nat → Int32) (k : Int32) (on : Int32) : Int32 × Int32 × (Nat → Int32) := if ((FX9_isMachine rmn k).1) = 0 then (0, (FX9_isMachine rmn k).2, rfu) else (1, (FX9_isMachine rmn k).2, upd rfu k.toNatClampNeg (vp_nar .boolean on))
theorem FX9_full_b (rmn : Nat) (rfu : Nat → Int32) (k : Int32) (on : Int32) : isB ((FX9_full rmn rfu k on).1) := by
  unfold FX9_full
  repeat' split
  all_goals first | exact isB_0 | exact isB_1
set_option maxHeartbeats 4000000 in
set_option maxRecDepth 100000 in
theorem kX9_full (l : Launch) (D : va_G) (cI cJ cZ : ClassId) (w0 : Nat) (a1 : Nat) (a2 : Nat) (a3 : Nat) (a4 : Nat) (a5 : Nat) (a6 : Nat) (a7 : Nat) (a8 : Nat) (a9 : Nat) (a10 : Nat) (a11 : Nat) (a12 : Nat) (a13 : Nat) (a14 : Nat) (a15 : Nat) (a16 : Nat) (a17 : Nat) (a18 : Nat) (a19 : Nat) (a20 : Nat) (a21 : Nat) (a22 : Nat) (a23 : Nat) (rdn : Nat) (rfa : Int32) (rmn : Nat) (rpn : Nat) (rre : Int32) (rrn : Nat) (rfn : Nat) (rkn : Nat) (rcn : Nat) (rfu : Nat → Int32) (k : Int32) (on : Int32) (sz : Nat) (hmn : rmn ≤ 6) : Met l yX9_full wsX9_full ({ frames := 1, cells := 0, slots := 0, locals := 21 }) (mP D (tz cI cJ cZ) [.ref w0, .int k, .int on] sz [(w0, .inr (9, [.ref a1, .ref a2, .int (nI rdn), .int rfa, .int (nI rmn), .ref a3, .ref a4, .ref a5, .ref a6, .ref a7, .ref a8, .ref a9, .ref a10, .ref a11, .ref a12, .ref a13, .int (nI rpn), .int rre, .ref a14, .ref a15, .int (nI rrn), .ref a16, .int (nI rfn), .ref a17, .ref a18, .ref a19, .int (nI rkn), .ref a20, .ref a21, .int (nI rcn), .ref a22, .ref a23])), (a4, .inl (cZ, 6, .inl rfu))]) (mQ D (some (.int ((FX9_full rmn rfu k on).1))) [(w0, .inr (9, [.ref a1, .ref a2, .int (nI rdn), .int ((FX9_full rmn rfu k on).2.1), .int (nI rmn), .ref a3, .ref a4, .ref a5, .ref a6, .ref a7, .ref a8, .ref a9, .ref a10, .ref a11, .ref a12, .ref a13, .int (nI rpn), .int rre, .ref a14, .ref a15, .int (nI rrn), .ref a16, .int (nI rfn), .ref a17, .ref a18, .ref a19, .int (nI rkn), .ref a20, .ref a21, .int (nI rcn), .ref a22, .ref a23])), (a4, .inl (cZ, 6, .inl ((FX9_full rmn rfu k on).2.2)))] (va_A [(w0, .inr (9, [.ref a1, .ref a2, .int (nI rdn), .int rfa, .int (nI rmn), .ref a3, .ref a4, .ref a5, .ref a6, .ref a7, .ref a8, .ref a9, .ref a10, .ref a11, .ref a12, .ref a13, .int (nI rpn), .int rre, .ref a14, .ref a15, .int (nI rrn), .ref a16, .int (nI rfn), .ref a17, .ref a18, .ref a19, .int (nI rkn), .ref a20, .ref a21, .int (nI rcn), .ref a22, .ref a23])), (a4, .inl (cZ, 6, .inl rfu))] sz)) 0 0 (va_A [(w0, .inr (9, [.ref a1, .ref a2, .int (nI rdn), .int rfa, .int (nI rmn), .ref a3, .ref a4, .ref a5, .ref a6, .ref a7, .ref a8, .ref a9, .ref a10, .ref a11, .ref a12, .ref a13, .int (nI rpn), .int rre, .ref a14, .ref a15, .int (nI rrn), .ref a16, .int (nI rfn), .ref a17, .ref a18, .ref a19, .int (nI rkn), .ref a20, .ref a21, .int (nI rcn), .ref a22, .ref a23])), (a4, .inl (cZ, 6, .inl rfu))] sz) := by
  refine Met.ofW (cc := cX9_full) (maxL := 3) (ret := (some .boolean)) (by decide) rfl ?_
  intro p e s m args below meth c s₁ B hml hv
  obtain ⟨rfl, hsz, hP, hK, hD0, hN⟩ := hv
  have hx := B.exec
  have hb := B.bytes
  have hr := B.returns
  have hts := atoms_spec (ws := wsX9_full) B.pre
  have hown : s.vm.findClass RX9 = some m.cls := findClass_of_methodNamed B.named
  have hlocks := B.notSynchronized
  have iw_9 : ∀ w ∈ u_ws RX9 TX9 32, w ∈ wsX9_full := by decide +kernel
  subst hsz
  have hD := hD0.self (sz := s.heap.size)
  generalize hE : FX9_full rmn rfu k on = R0
  generalize hAe : va_A [(w0, .inr (9, [.ref a1, .ref a2, .int (nI rdn), .int rfa, .int (nI rmn), .ref a3, .ref a4, .ref a5, .ref a6, .ref a7, .ref a8, .ref a9, .ref a10, .ref a11, .ref a12, .ref a13, .int (nI rpn), .int rre, .ref a14, .ref a15, .int (nI rrn), .ref a16, .int (nI rfn), .ref a17, .ref a18, .ref a19, .int (nI rkn), .ref a20, .ref a21, .int (nI rcn), .ref a22, .ref a23])), (a4, .inl (cZ, 6, .inl rfu))] s.heap.size = A at hD ⊢
  have hA : ∀ q : Nat, s.heap.size ≤ q → A q := fun q h => by rw [← hAe]; exact Or.inr h
  have hS : va_S A s.heap s.heap [] := va_S.rf
  rw [FX9_full] at hE
  have hl := lv_entry ([.ref w0, .int k, .int on]) (n := 3) (Nat.le_of_ble_eq_true rfl)
  rw [lg_entry_eq]
  generalize (lg_sl ([.ref w0, .int k, .int on]) ++ List.replicate (3 - (lg_sl ([.ref w0, .int k, .int on])).length) Slot.unset).toArray = ls at hl ⊢
  have hl : lv_has ls 3 [(0, .ref w0), (1, .int k), (2, .int on)] := hl
  refine lv_aload_n hx hb dX9_full_0 rfl (lv_at hl 0 rfl) ?_
  refine lv_iload_n hx hb dX9_full_1 rfl (lv_at hl 1 rfl) ?_
  refine mt_call0 (wr := [(a4, .inl (cZ, 6, .inl rfu))]) (ws' := [(w0, .inr (9, [.ref a1, .ref a2, .int (nI rdn), .int ((FX9_isMachine rmn k).2), .int (nI rmn), .ref a3, .ref a4, .ref a5, .ref a6, .ref a7, .ref a8, .ref a9, .ref a10, .ref a11, .ref a12, .ref a13, .int (nI rpn), .int rre, .ref a14, .ref a15, .int (nI rrn), .ref a16, .int (nI rfn), .ref a17, .ref a18, .ref a19, .int (nI rkn), .ref a20, .ref a21, .int (nI rcn), .ref a22, .ref a23])), (a4, .inl (cZ, 6, .inl rfu))]) (st1 := [.int ((FX9_isMachine rmn k).1)]) (va_runV (As := [.int k]) (rest := []) ⟨hx, hb, hml, hown, hts⟩ (kX9_isMachine l D cI cJ cZ w0 a1 a2 a3 a4 a5 a6 a7 a8 a9 a10 a11 a12 a13 a14 a15 a16 a17 a18 a19 a20 a21 a22 a23 rdn rfa rmn rpn rre rrn rfn rkn rcn k _) (cwV 1 hts gX9_full_X9_isMachine rfl rfl rfl (by decide +kernel) ⟨Nat.le_of_ble_eq_true rfl, Nat.le_of_ble_eq_true rfl⟩) ⟨mP_blind, va_recv hK hP (ci := 9) (q0 := 0) rfl rfl, mP_pre (hP.sub [0] rfl) (hD.sub [0] (by decide) rfl) hK hN⟩ rfl rfl hl.1 rfl (lv_room (Nat.le_of_ble_eq_true rfl)) dX9_full_2 ⟨Nat.zero_le _, Nat.zero_le _⟩) hP hD hS hA [0] [1] [1, 0] rfl rfl (by decide) (by decide) (by decide) rfl rfl (fun H locs hP hD hS => ?_)
  refine lv_if_ne (tgt := 10) hx hb dX9_full_5 (by decide) (fun c_1 => ?_) (fun c_1 => ?_)
  · rw [if_neg c_1] at hE
    have hin : vp_in k 6 := mach_in (by assumption) hmn
    refine lv_aload_n hx hb dX9_full_10 rfl (lv_at hl 0 rfl) ?_
    refine va_get (D := D) (ci := 9) (v := .ref a4) (C := RX9) (T := TX9) (N := 32) hx hb hts iw_9 hown hK hP 0 rfl rfl 6 (by decide) (hts (.fieldLink RX9 19 "DepositCodesModel" "isFull" "[Z") (by decide +kernel)) (fun _ h9 => h9) rfl dX9_full_11 ?_
    refine lv_iload_n hx hb dX9_full_14 rfl (lv_at hl 1 rfl) ?_
    refine lv_iload_n hx hb dX9_full_15 rfl (lv_at hl 2 rfl) ?_
    refine va_zast hx hb hK hP hD hS 1 2 rfl rfl (by assumption) dX9_full_16 (fun H locs hP hD hS => ?_)
    have hP : va_P D vwCl [(w0, .inr (9, [.ref a1, .ref a2, .int (nI rdn), .int ((FX9_isMachine rmn k).2), .int (nI rmn), .ref a3, .ref a4, .ref a5, .ref a6, .ref a7, .ref a8, .ref a9, .ref a10, .ref a11, .ref a12, .ref a13, .int (nI rpn), .int rre, .ref a14, .ref a15, .int (nI rrn), .ref a16, .int (nI rfn), .ref a17, .ref a18, .ref a19, .int (nI rkn), .ref a20, .ref a21, .int (nI rcn), .ref a22, .ref a23])), (a4, .inl (cZ, 6, .inl (upd rfu k.toNatClampNeg (vp_nar .boolean on))))] H := hP
    have hD : va_D A [(w0, .inr (9, [.ref a1, .ref a2, .int (nI rdn), .int ((FX9_isMachine rmn k).2), .int (nI rmn), .ref a3, .ref a4, .ref a5, .ref a6, .ref a7, .ref a8, .ref a9, .ref a10, .ref a11, .ref a12, .ref a13, .int (nI rpn), .int rre, .ref a14, .ref a15, .int (nI rrn), .ref a16, .int (nI rfn), .ref a17, .ref a18, .ref a19, .int (nI rkn), .ref a20, .ref a21, .int (nI rcn), .ref a22, .ref a23])), (a4, .inl (cZ, 6, .inl (upd rfu k.toNatClampNeg (vp_nar .boolean on))))] := hD
    refine lv_iconst (v := 1) hx hb dX9_full_17 (by decide) ?_
    subst hE
    exact W.zret hx hb hr narrow_b1 (fun t ht hW => ⟨rfl, by rw [ht]; exact hP, hD, hS.F ht⟩) hS.2.2 dX9_full_18
  · rw [if_pos c_1] at hE
    refine lv_iconst (v := 0) hx hb dX9_full_8 (by decide) ?_
    subst hE
    exact W.zret hx hb hr narrow_b0 (fun t ht hW => ⟨rfl, by rw [ht]; exact hP, hD, hS.F ht⟩) hS.2.2 dX9_full_9
def FX9_power (rmn : Nat) (rda : Nat → Int32) (k : Int32) (on : Int32) : Int32 × Int32 × (Nat → Int32) := if ((FX9_isMachine rmn k).1) = 0 then (0, (FX9_isMachine rmn k).2, rda) else (if on = 0 then (1, (FX9_isMachine rmn k).2, upd rda k.toNatClampNeg (vp_nar .boolean 1)) else (1, (FX9_isMachine rmn k).2, upd rda k.toNatClampNeg (vp_nar .boolean 0)))
theorem FX9_power_b (rmn : Nat) (rda : Nat → Int32) (k : Int32) (on : Int32) : isB ((FX9_power rmn rda k on).1) := by
  unfold FX9_power
  repeat' split
  all_goals first | exact isB_0 | exact isB_1
set_option maxHeartbeats 4000000 in
set_option maxRecDepth 100000 in
theorem kX9_power (l : Launch) (D : va_G) (cI cJ cZ : ClassId) (w0 : Nat) (a1 : Nat) (a2 : Nat) (a3 : Nat) (a4 : Nat) (a5 : Nat) (a6 : Nat) (a7 : Nat) (a8 : Nat) (a9 : Nat) (a10 : Nat) (a11 : Nat) (a12 : Nat) (a13 : Nat) (a14 : Nat) (a15 : Nat) (a16 : Nat) (a17 : Nat) (a18 : Nat) (a19 : Nat) (a20 : Nat) (a21 : Nat) (a22 : Nat) (a23 : Nat) (rdn : Nat) (rfa : Int32) (rmn : Nat) (rpn : Nat) (rre : Int32) (rrn : Nat) (rfn : Nat) (rkn : Nat) (rcn : Nat) (rda : Nat → Int32) (k : Int32) (on : Int32) (sz : Nat) (hmn : rmn ≤ 6) : Met l yX9_power wsX9_power ({ frames := 1, cells := 0, slots := 0, locals := 21 }) (mP D (tz cI cJ cZ) [.ref w0, .int k, .int on] sz [(w0, .inr (9, [.ref a1, .ref a2, .int (nI rdn), .int rfa, .int (nI rmn), .ref a3, .ref a4, .ref a5, .ref a6, .ref a7, .ref a8, .ref a9, .ref a10, .ref a11, .ref a12, .ref a13, .int (nI rpn), .int rre, .ref a14, .ref a15, .int (nI rrn), .ref a16, .int (nI rfn), .ref a17, .ref a18, .ref a19, .int (nI rkn), .ref a20, .ref a21, .int (nI rcn), .ref a22, .ref a23])), (a5, .inl (cZ, 6, .inl rda))]) (mQ D (some (.int ((FX9_power rmn rda k on).1))) [(w0, .inr (9, [.ref a1, .ref a2, .int (nI rdn), .int ((FX9_power rmn rda k on).2.1), .int (nI rmn), .ref a3, .ref a4, .ref a5, .ref a6, .ref a7, .ref a8, .ref a9, .ref a10, .ref a11, .ref a12, .ref a13, .int (nI rpn), .int rre, .ref a14, .ref a15, .int (nI rrn), .ref a16, .int (nI rfn), .ref a17, .ref a18, .ref a19, .int (nI rkn), .ref a20, .ref a21, .int (nI rcn), .ref a22, .ref a23])), (a5, .inl (cZ, 6, .inl ((FX9_power rmn rda k on).2.2)))] (va_A [(w0, .inr (9, [.ref a1, .ref a2, .int (nI rdn), .int rfa, .int (nI rmn), .ref a3, .ref a4, .ref a5, .ref a6, .ref a7, .ref a8, .ref a9, .ref a10, .ref a11, .ref a12, .ref a13, .int (nI rpn), .int rre, .ref a14, .ref a15, .int (nI rrn), .ref a16, .int (nI rfn), .ref a17, .ref a18, .ref a19, .int (nI rkn), .ref a20, .ref a21, .int (nI rcn), .ref a22, .ref a23])), (a5, .inl (cZ, 6, .inl rda))] sz)) 0 0 (va_A [(w0, .inr (9, [.ref a1, .ref a2, .int (nI rdn), .int rfa, .int (nI rmn), .ref a3, .ref a4, .ref a5, .ref a6, .ref a7, .ref a8, .ref a9, .ref a10, .ref a11, .ref a12, .ref a13, .int (nI rpn), .int rre, .ref a14, .ref a15, .int (nI rrn), .ref a16, .int (nI rfn), .ref a17, .ref a18, .ref a19, .int (nI rkn), .ref a20, .ref a21, .int (nI rcn), .ref a22, .ref a23])), (a5, .inl (cZ, 6, .inl rda))] sz) := by
  refine Met.ofW (cc := cX9_power) (maxL := 3) (ret := (some .boolean)) (by decide) rfl ?_
  intro p e s m args below meth c s₁ B hml hv
  obtain ⟨rfl, hsz, hP, hK, hD0, hN⟩ := hv
  have hx := B.exec
  have hb := B.bytes
  have hr := B.returns
  have hts := atoms_spec (ws := wsX9_power) B.pre
  have hown : s.vm.findClass RX9 = some m.cls := findClass_of_methodNamed B.named
  have hlocks := B.notSynchronized
  have iw_9 : ∀ w ∈ u_ws RX9 TX9 32, w ∈ wsX9_power := by decide +kernel
  subst hsz
  have hD := hD0.self (sz := s.heap.size)
  generalize hE : FX9_power rmn rda k on = R0
  generalize hAe : va_A [(w0, .inr (9, [.ref a1, .ref a2, .int (nI rdn), .int rfa, .int (nI rmn), .ref a3, .ref a4, .ref a5, .ref a6, .ref a7, .ref a8, .ref a9, .ref a10, .ref a11, .ref a12, .ref a13, .int (nI rpn), .int rre, .ref a14, .ref a15, .int (nI rrn), .ref a16, .int (nI rfn), .ref a17, .ref a18, .ref a19, .int (nI rkn), .ref a20, .ref a21, .int (nI rcn), .ref a22, .ref a23])), (a5, .inl (cZ, 6, .inl rda))] s.heap.size = A at hD ⊢
  have hA : ∀ q : Nat, s.heap.size ≤ q → A q := fun q h => by rw [← hAe]; exact Or.inr h
  have hS : va_S A s.heap s.heap [] := va_S.rf
  rw [FX9_power] at hE
  have hl := lv_entry ([.ref w0, .int k, .int on]) (n := 3) (Nat.le_of_ble_eq_true rfl)
  rw [lg_entry_eq]
  generalize (lg_sl ([.ref w0, .int k, .int on]) ++ List.replicate (3 - (lg_sl ([.ref w0, .int k, .int on])).length) Slot.unset).toArray = ls at hl ⊢
  have hl : lv_has ls 3 [(0, .ref w0), (1, .int k), (2, .int on)] := hl
  refine lv_aload_n hx hb dX9_power_0 rfl (lv_at hl 0 rfl) ?_
  refine lv_iload_n hx hb dX9_power_1 rfl (lv_at hl 1 rfl) ?_
  refine mt_call0 (wr := [(a5, .inl (cZ, 6, .inl rda))]) (ws' := [(w0, .inr (9, [.ref a1, .ref a2, .int (nI rdn), .int ((FX9_isMachine rmn k).2), .int (nI rmn), .ref a3, .ref a4, .ref a5, .ref a6, .ref a7, .ref a8, .ref a9, .ref a10, .ref a11, .ref a12, .ref a13, .int (nI rpn), .int rre, .ref a14, .ref a15, .int (nI rrn), .ref a16, .int (nI rfn), .ref a17, .ref a18, .ref a19, .int (nI rkn), .ref a20, .ref a21, .int (nI rcn), .ref a22, .ref a23])), (a5, .inl (cZ, 6, .inl rda))]) (st1 := [.int ((FX9_isMachine rmn k).1)]) (va_runV (As := [.int k]) (rest := []) ⟨hx, hb, hml, hown, hts⟩ (kX9_isMachine l D cI cJ cZ w0 a1 a2 a3 a4 a5 a6 a7 a8 a9 a10 a11 a12 a13 a14 a15 a16 a17 a18 a19 a20 a21 a22 a23 rdn rfa rmn rpn rre rrn rfn rkn rcn k _) (cwV 1 hts gX9_power_X9_isMachine rfl rfl rfl (by decide +kernel) ⟨Nat.le_of_ble_eq_true rfl, Nat.le_of_ble_eq_true rfl⟩) ⟨mP_blind, va_recv hK hP (ci := 9) (q0 := 0) rfl rfl, mP_pre (hP.sub [0] rfl) (hD.sub [0] (by decide) rfl) hK hN⟩ rfl rfl hl.1 rfl (lv_room (Nat.le_of_ble_eq_true rfl)) dX9_power_2 ⟨Nat.zero_le _, Nat.zero_le _⟩) hP hD hS hA [0] [1] [1, 0] rfl rfl (by decide) (by decide) (by decide) rfl rfl (fun H locs hP hD hS => ?_)
  refine lv_if_ne (tgt := 10) hx hb dX9_power_5 (by decide) (fun c_1 => ?_) (fun c_1 => ?_)
  · rw [if_neg c_1] at hE
    have hin : vp_in k 6 := mach_in (by assumption) hmn
    refine lv_aload_n hx hb dX9_power_10 rfl (lv_at hl 0 rfl) ?_
    refine va_get (D := D) (ci := 9) (v := .ref a5) (C := RX9) (T := TX9) (N := 32) hx hb hts iw_9 hown hK hP 0 rfl rfl 7 (by decide) (hts (.fieldLink RX9 23 "DepositCodesModel" "isDark" "[Z") (by decide +kernel)) (fun _ h9 => h9) rfl dX9_power_11 ?_
    refine lv_iload_n hx hb dX9_power_14 rfl (lv_at hl 1 rfl) ?_
    refine lv_iload_n hx hb dX9_power_15 rfl (lv_at hl 2 rfl) ?_
    refine lv_if_ne (tgt := 23) hx hb dX9_power_16 (by decide) (fun c_2 => ?_) (fun c_2 => ?_)
    · rw [if_neg c_2] at hE
      refine lv_iconst (v := 0) hx hb dX9_power_23 (by decide) ?_
      refine va_zast hx hb hK hP hD hS 1 2 rfl rfl (by assumption) dX9_power_24 (fun H locs hP hD hS => ?_)
      have hP : va_P D vwCl [(w0, .inr (9, [.ref a1, .ref a2, .int (nI rdn), .int ((FX9_isMachine rmn k).2), .int (nI rmn), .ref a3, .ref a4, .ref a5, .ref a6, .ref a7, .ref a8, .ref a9, .ref a10, .ref a11, .ref a12, .ref a13, .int (nI rpn), .int rre, .ref a14, .ref a15, .int (nI rrn), .ref a16, .int (nI rfn), .ref a17, .ref a18, .ref a19, .int (nI rkn), .ref a20, .ref a21, .int (nI rcn), .ref a22, .ref a23])), (a5, .inl (cZ, 6, .inl (upd rda k.toNatClampNeg (vp_nar .boolean 0))))] H := hP
      have hD : va_D A [(w0, .inr (9, [.ref a1, .ref a2, .int (nI rdn), .int ((FX9_isMachine rmn k).2), .int (nI rmn), .ref a3, .ref a4, .ref a5, .ref a6, .ref a7, .ref a8, .ref a9, .ref a10, .ref a11, .ref a12, .ref a13, .int (nI rpn), .int rre, .ref a14, .ref a15, .int (nI rrn), .ref a16, .int (nI rfn), .ref a17, .ref a18, .ref a19, .int (nI rkn), .ref a20, .ref a21, .int (nI rcn), .ref a22, .ref a23])), (a5, .inl (cZ, 6, .inl (upd rda k.toNatClampNeg (vp_nar .boolean 0))))] := hD
      refine lv_iconst (v := 1) hx hb dX9_power_25 (by decide) ?_
      subst hE
      exact W.zret hx hb hr narrow_b1 (fun t ht hW => ⟨rfl, by rw [ht]; exact hP, hD, hS.F ht⟩) hS.2.2 dX9_power_26
    · rw [if_pos c_2] at hE
      refine lv_iconst (v := 1) hx hb dX9_power_19 (by decide) ?_
      refine lv_goto (tgt := 24) hx hb dX9_power_20 (by decide) ?_
      refine va_zast hx hb hK hP hD hS 1 2 rfl rfl (by assumption) dX9_power_24 (fun H locs hP hD hS => ?_)
      have hP : va_P D vwCl [(w0, .inr (9, [.ref a1, .ref a2, .int (nI rdn), .int ((FX9_isMachine rmn k).2), .int (nI rmn), .ref a3, .ref a4, .ref a5, .ref a6, .ref a7, .ref a8, .ref a9, .ref a10, .ref a11, .ref a12, .ref a13, .int (nI rpn), .int rre, .ref a14, .ref a15, .int (nI rrn), .ref a16, .int (nI rfn), .ref a17, .ref a18, .ref a19, .int (nI rkn), .ref a20, .ref a21, .int (nI rcn), .ref a22, .ref a23])), (a5, .inl (cZ, 6, .inl (upd rda k.toNatClampNeg (vp_nar .boolean 1))))] H := hP
      have hD : va_D A [(w0, .inr (9, [.ref a1, .ref a2, .int (nI rdn), .int ((FX9_isMachine rmn k).2), .int (nI rmn), .ref a3, .ref a4, .ref a5, .ref a6, .ref a7, .ref a8, .ref a9, .ref a10, .ref a11, .ref a12, .ref a13, .int (nI rpn), .int rre, .ref a14, .ref a15, .int (nI rrn), .ref a16, .int (nI rfn), .ref a17, .ref a18, .ref a19, .int (nI rkn), .ref a20, .ref a21, .int (nI rcn), .ref a22, .ref a23])), (a5, .inl (cZ, 6, .inl (upd rda k.toNatClampNeg (vp_nar .boolean 1))))] := hD
      refine lv_iconst (v := 1) hx hb dX9_power_25 (by decide) ?_
      subst hE
      exact W.zret hx hb hr narrow_b1 (fun t ht hW => ⟨rfl, by rw [ht]; exact hP, hD, hS.F ht⟩) hS.2.2 dX9_power_26
  · rw [if_pos c_1] at hE
    refine lv_iconst (v := 0) hx hb dX9_power_8 (by decide) ?_
    subst hE
    exact W.zret hx hb hr narrow_b0 (fun t ht hW => ⟨rfl, by rw [ht]; exact hP, hD, hS.F ht⟩) hS.2.2 dX9_power_9
def FX9_reason (rre : Int32) : Int32 × Int32 := (rre, 0)
set_option maxHeartbeats 4000000 in
set_option maxRecDepth 100000 in
theorem kX9_reason (l : Launch) (D : va_G) (cI cJ cZ : ClassId) (w0 : Nat) (a1 : Nat) (a2 : Nat) (a3 : Nat) (a4 : Nat) (a5 : Nat) (a6 : Nat) (a7 : Nat) (a8 : Nat) (a9 : Nat) (a10 : Nat) (a11 : Nat) (a12 : Nat) (a13 : Nat) (a14 : Nat) (a15 : Nat) (a16 : Nat) (a17 : Nat) (a18 : Nat) (a19 : Nat) (a20 : Nat) (a21 : Nat) (a22 : Nat) (a23 : Nat) (rdn : Nat) (rfa : Int32) (rmn : Nat) (rpn : Nat) (rre : Int32) (rrn : Nat) (rfn : Nat) (rkn : Nat) (rcn : Nat) (sz : Nat) : Met l yX9_reason wsX9_reason ({ frames := 0, cells := 0, slots := 0, locals := 0 }) (mP D (tz cI cJ cZ) [.ref w0] sz [(w0, .inr (9, [.ref a1, .ref a2, .int (nI rdn), .int rfa, .int (nI rmn), .ref a3, .ref a4, .ref a5, .ref a6, .ref a7, .ref a8, .ref a9, .ref a10, .ref a11, .ref a12, .ref a13, .int (nI rpn), .int rre, .ref a14, .ref a15, .int (nI rrn), .ref a16, .int (nI rfn), .ref a17, .ref a18, .ref a19, .int (nI rkn), .ref a20, .ref a21, .int (nI rcn), .ref a22, .ref a23]))]) (mQ D (some (.int ((FX9_reason rre).1))) [(w0, .inr (9, [.ref a1, .ref a2, .int (nI rdn), .int ((FX9_reason rre).2), .int (nI rmn), .ref a3, .ref a4, .ref a5, .ref a6, .ref a7, .ref a8, .ref a9, .ref a10, .ref a11, .ref a12, .ref a13, .int (nI rpn), .int rre, .ref a14, .ref a15, .int (nI rrn), .ref a16, .int (nI rfn), .ref a17, .ref a18, .ref a19, .int (nI rkn), .ref a20, .ref a21, .int (nI rcn), .ref a22, .ref a23]))] (va_A [(w0, .inr (9, [.ref a1, .ref a2, .int (nI rdn), .int rfa, .int (nI rmn), .ref a3, .ref a4, .ref a5, .ref a6, .ref a7, .ref a8, .ref a9, .ref a10, .ref a11, .ref a12, .ref a13, .int (nI rpn), .int rre, .ref a14, .ref a15, .int (nI rrn), .ref a16, .int (nI rfn), .ref a17, .ref a18, .ref a19, .int (nI rkn), .ref a20, .ref a21, .int (nI rcn), .ref a22, .ref a23]))] sz)) 0 0 (va_A [(w0, .inr (9, [.ref a1, .ref a2, .int (nI rdn), .int rfa, .int (nI rmn), .ref a3, .ref a4, .ref a5, .ref a6, .ref a7, .ref a8, .ref a9, .ref a10, .ref a11, .ref a12, .ref a13, .int (nI rpn), .int rre, .ref a14, .ref a15, .int (nI rrn), .ref a16, .int (nI rfn), .ref a17, .ref a18, .ref a19, .int (nI rkn), .ref a20, .ref a21, .int (nI rcn), .ref a22, .ref a23]))] sz) := by
  refine Met.ofW (cc := cX9_reason) (maxL := 1) (ret := (some .int)) (by decide) rfl ?_
  intro p e s m args below meth c s₁ B hml hv
  obtain ⟨rfl, hsz, hP, hK, hD0, hN⟩ := hv
  have hx := B.exec
  have hb := B.bytes
  have hr := B.returns
  have hts := atoms_spec (ws := wsX9_reason) B.pre
  have hown : s.vm.findClass RX9 = some m.cls := findClass_of_methodNamed B.named
  have hlocks := B.notSynchronized
  have iw_9 : ∀ w ∈ u_ws RX9 TX9 32, w ∈ wsX9_reason := by decide +kernel
  subst hsz
  have hD := hD0.self (sz := s.heap.size)
  generalize hE : FX9_reason rre = R0
  generalize hAe : va_A [(w0, .inr (9, [.ref a1, .ref a2, .int (nI rdn), .int rfa, .int (nI rmn), .ref a3, .ref a4, .ref a5, .ref a6, .ref a7, .ref a8, .ref a9, .ref a10, .ref a11, .ref a12, .ref a13, .int (nI rpn), .int rre, .ref a14, .ref a15, .int (nI rrn), .ref a16, .int (nI rfn), .ref a17, .ref a18, .ref a19, .int (nI rkn), .ref a20, .ref a21, .int (nI rcn), .ref a22, .ref a23]))] s.heap.size = A at hD ⊢
  have hA : ∀ q : Nat, s.heap.size ≤ q → A q := fun q h => by rw [← hAe]; exact Or.inr h
  have hS : va_S A s.heap s.heap [] := va_S.rf
  rw [FX9_reason] at hE
  have hl := lv_entry ([.ref w0]) (n := 1) (Nat.le_of_ble_eq_true rfl)
  rw [lg_entry_eq]
  generalize (lg_sl ([.ref w0]) ++ List.replicate (1 - (lg_sl ([.ref w0])).length) Slot.unset).toArray = ls at hl ⊢
  have hl : lv_has ls 1 [(0, .ref w0)] := hl
  refine lv_aload_n hx hb dX9_reason_0 rfl (lv_at hl 0 rfl) ?_
  refine lv_iconst (v := 0) hx hb dX9_reason_1 (by decide) ?_
  refine va_put (D := D) (ci := 9) (v := .int 0) (ty := .int) (C := RX9) (T := TX9) (N := 32) hx hb hts iw_9 tyX9 tyX9_ok nmX9 hown hK hP hD hS 0 rfl rfl 3 (by decide) (hts (.fieldLink RX9 81 "DepositCodesModel" "fault" "I") (by decide +kernel)) (fun _ h9 => h9) rfl (by decide +kernel) rfl rfl (Nat.le_of_ble_eq_true rfl) dX9_reason_2 (fun H locs hP hD hS => ?_)
  have hP : va_P D vwCl [(w0, .inr (9, [.ref a1, .ref a2, .int (nI rdn), .int 0, .int (nI rmn), .ref a3, .ref a4, .ref a5, .ref a6, .ref a7, .ref a8, .ref a9, .ref a10, .ref a11, .ref a12, .ref a13, .int (nI rpn), .int rre, .ref a14, .ref a15, .int (nI rrn), .ref a16, .int (nI rfn), .ref a17, .ref a18, .ref a19, .int (nI rkn), .ref a20, .ref a21, .int (nI rcn), .ref a22, .ref a23]))] H := hP
  have hD : va_D A [(w0, .inr (9, [.ref a1, .ref a2, .int (nI rdn), .int 0, .int (nI rmn), .ref a3, .ref a4, .ref a5, .ref a6, .ref a7, .ref a8, .ref a9, .ref a10, .ref a11, .ref a12, .ref a13, .int (nI rpn), .int rre, .ref a14, .ref a15, .int (nI rrn), .ref a16, .int (nI rfn), .ref a17, .ref a18, .ref a19, .int (nI rkn), .ref a20, .ref a21, .int (nI rcn), .ref a22, .ref a23]))] := hD
  refine lv_aload_n hx hb dX9_reason_5 rfl (lv_at hl 0 rfl) ?_
  refine va_get (D := D) (ci := 9) (v := .int rre) (C := RX9) (T := TX9) (N := 32) hx hb hts iw_9 hown hK hP 0 rfl rfl 17 (by decide) (hts (.fieldLink RX9 159 "DepositCodesModel" "reason" "I") (by decide +kernel)) (fun _ h9 => h9) rfl dX9_reason_6 ?_
  subst hE
  exact W.iret hx hb hr (fun t ht hW => ⟨rfl, by rw [ht]; exact hP, hD, hS.F ht⟩) hS.2.2 dX9_reason_9
def FX9_digit (rdn : Nat) (rd : Nat → Int32) (k : Int32) : Int32 × Int32 := if k < 0 then (0, 1) else (if k < (nI rdn) then (rd k.toNatClampNeg, 0) else (0, 1))
set_option maxHeartbeats 4000000 in
set_option maxRecDepth 100000 in
theorem kX9_digit (l : Launch) (D : va_G) (cI cJ cZ : ClassId) (w0 : Nat) (a1 : Nat) (a2 : Nat) (a3 : Nat) (a4 : Nat) (a5 : Nat) (a6 : Nat) (a7 : Nat) (a8 : Nat) (a9 : Nat) (a10 : Nat) (a11 : Nat) (a12 : Nat) (a13 : Nat) (a14 : Nat) (a15 : Nat) (a16 : Nat) (a17 : Nat) (a18 : Nat) (a19 : Nat) (a20 : Nat) (a21 : Nat) (a22 : Nat) (a23 : Nat) (rdn : Nat) (rfa : Int32) (rmn : Nat) (rpn : Nat) (rre : Int32) (rrn : Nat) (rfn : Nat) (rkn : Nat) (rcn : Nat) (rd : Nat → Int32) (k : Int32) (sz : Nat) (hdn : rdn ≤ 14) : Met l yX9_digit wsX9_digit ({ frames := 0, cells := 0, slots := 0, locals := 0 }) (mP D (tz cI cJ cZ) [.ref w0, .int k] sz [(w0, .inr (9, [.ref a1, .ref a2, .int (nI rdn), .int rfa, .int (nI rmn), .ref a3, .ref a4, .ref a5, .ref a6, .ref a7, .ref a8, .ref a9, .ref a10, .ref a11, .ref a12, .ref a13, .int (nI rpn), .int rre, .ref a14, .ref a15, .int (nI rrn), .ref a16, .int (nI rfn), .ref a17, .ref a18, .ref a19, .int (nI rkn), .ref a20, .ref a21, .int (nI rcn), .ref a22, .ref a23])), (a2, .inl (cI, 16, .inl rd))]) (mQ D (some (.int ((FX9_digit rdn rd k).1))) [(w0, .inr (9, [.ref a1, .ref a2, .int (nI rdn), .int ((FX9_digit rdn rd k).2), .int (nI rmn), .ref a3, .ref a4, .ref a5, .ref a6, .ref a7, .ref a8, .ref a9, .ref a10, .ref a11, .ref a12, .ref a13, .int (nI rpn), .int rre, .ref a14, .ref a15, .int (nI rrn), .ref a16, .int (nI rfn), .ref a17, .ref a18, .ref a19, .int (nI rkn), .ref a20, .ref a21, .int (nI rcn), .ref a22, .ref a23])), (a2, .inl (cI, 16, .inl rd))] (va_A [(w0, .inr (9, [.ref a1, .ref a2, .int (nI rdn), .int rfa, .int (nI rmn), .ref a3, .ref a4, .ref a5, .ref a6, .ref a7, .ref a8, .ref a9, .ref a10, .ref a11, .ref a12, .ref a13, .int (nI rpn), .int rre, .ref a14, .ref a15, .int (nI rrn), .ref a16, .int (nI rfn), .ref a17, .ref a18, .ref a19, .int (nI rkn), .ref a20, .ref a21, .int (nI rcn), .ref a22, .ref a23])), (a2, .inl (cI, 16, .inl rd))] sz)) 0 0 (va_A [(w0, .inr (9, [.ref a1, .ref a2, .int (nI rdn), .int rfa, .int (nI rmn), .ref a3, .ref a4, .ref a5, .ref a6, .ref a7, .ref a8, .ref a9, .ref a10, .ref a11, .ref a12, .ref a13, .int (nI rpn), .int rre, .ref a14, .ref a15, .int (nI rrn), .ref a16, .int (nI rfn), .ref a17, .ref a18, .ref a19, .int (nI rkn), .ref a20, .ref a21, .int (nI rcn), .ref a22, .ref a23])), (a2, .inl (cI, 16, .inl rd))] sz) := by
  refine Met.ofW (cc := cX9_digit) (maxL := 2) (ret := (some .int)) (by decide) rfl ?_
  intro p e s m args below meth c s₁ B hml hv
  obtain ⟨rfl, hsz, hP, hK, hD0, hN⟩ := hv
  have hx := B.exec
  have hb := B.bytes
  have hr := B.returns
  have hts := atoms_spec (ws := wsX9_digit) B.pre
  have hown : s.vm.findClass RX9 = some m.cls := findClass_of_methodNamed B.named
  have hlocks := B.notSynchronized
  have iw_9 : ∀ w ∈ u_ws RX9 TX9 32, w ∈ wsX9_digit := by decide +kernel
  subst hsz
  have hD := hD0.self (sz := s.heap.size)
  generalize hE : FX9_digit rdn rd k = R0
  generalize hAe : va_A [(w0, .inr (9, [.ref a1, .ref a2, .int (nI rdn), .int rfa, .int (nI rmn), .ref a3, .ref a4, .ref a5, .ref a6, .ref a7, .ref a8, .ref a9, .ref a10, .ref a11, .ref a12, .ref a13, .int (nI rpn), .int rre, .ref a14, .ref a15, .int (nI rrn), .ref a16, .int (nI rfn), .ref a17, .ref a18, .ref a19, .int (nI rkn), .ref a20, .ref a21, .int (nI rcn), .ref a22, .ref a23])), (a2, .inl (cI, 16, .inl rd))] s.heap.size = A at hD ⊢
  have hA : ∀ q : Nat, s.heap.size ≤ q → A q := fun q h => by rw [← hAe]; exact Or.inr h
  have hS : va_S A s.heap s.heap [] := va_S.rf
  rw [FX9_digit] at hE
  have hl := lv_entry ([.ref w0, .int k]) (n := 2) (Nat.le_of_ble_eq_true rfl)
  rw [lg_entry_eq]
  generalize (lg_sl ([.ref w0, .int k]) ++ List.replicate (2 - (lg_sl ([.ref w0, .int k])).length) Slot.unset).toArray = ls at hl ⊢
  have hl : lv_has ls 2 [(0, .ref w0), (1, .int k)] := hl
  refine lv_aload_n hx hb dX9_digit_0 rfl (lv_at hl 0 rfl) ?_
  refine lv_iload_n hx hb dX9_digit_1 rfl (lv_at hl 1 rfl) ?_
  refine lv_if_lt (tgt := 13) hx hb dX9_digit_2 (by decide) (fun c_1 => ?_) (fun c_1 => ?_)
  · rw [if_pos c_1] at hE
    refine lv_iconst (v := 1) hx hb dX9_digit_13 (by decide) ?_
    refine lv_goto (tgt := 18) hx hb dX9_digit_14 (by decide) ?_
    refine va_put (D := D) (ci := 9) (v := .int 1) (ty := .int) (C := RX9) (T := TX9) (N := 32) hx hb hts iw_9 tyX9 tyX9_ok nmX9 hown hK hP hD hS 0 rfl rfl 3 (by decide) (hts (.fieldLink RX9 81 "DepositCodesModel" "fault" "I") (by decide +kernel)) (fun _ h9 => h9) rfl (by decide +kernel) rfl rfl (Nat.le_of_ble_eq_true rfl) dX9_digit_18 (fun H locs hP hD hS => ?_)
    have hP : va_P D vwCl [(w0, .inr (9, [.ref a1, .ref a2, .int (nI rdn), .int 1, .int (nI rmn), .ref a3, .ref a4, .ref a5, .ref a6, .ref a7, .ref a8, .ref a9, .ref a10, .ref a11, .ref a12, .ref a13, .int (nI rpn), .int rre, .ref a14, .ref a15, .int (nI rrn), .ref a16, .int (nI rfn), .ref a17, .ref a18, .ref a19, .int (nI rkn), .ref a20, .ref a21, .int (nI rcn), .ref a22, .ref a23])), (a2, .inl (cI, 16, .inl rd))] H := hP
    have hD : va_D A [(w0, .inr (9, [.ref a1, .ref a2, .int (nI rdn), .int 1, .int (nI rmn), .ref a3, .ref a4, .ref a5, .ref a6, .ref a7, .ref a8, .ref a9, .ref a10, .ref a11, .ref a12, .ref a13, .int (nI rpn), .int rre, .ref a14, .ref a15, .int (nI rrn), .ref a16, .int (nI rfn), .ref a17, .ref a18, .ref a19, .int (nI rkn), .ref a20, .ref a21, .int (nI rcn), .ref a22, .ref a23])), (a2, .inl (cI, 16, .inl rd))] := hD
    refine lv_aload_n hx hb dX9_digit_21 rfl (lv_at hl 0 rfl) ?_
    refine va_get (D := D) (ci := 9) (v := .int 1) (C := RX9) (T := TX9) (N := 32) hx hb hts iw_9 hown hK hP 0 rfl rfl 3 (by decide) (hts (.fieldLink RX9 81 "DepositCodesModel" "fault" "I") (by decide +kernel)) (fun _ h9 => h9) rfl dX9_digit_22 ?_
    refine lv_if_le (tgt := 32) hx hb dX9_digit_25 (by decide) (fun c_2 => ?_) (fun c_2 => ?_)
    · exact absurd c_2 (by decide)
    refine lv_iconst (v := 0) hx hb dX9_digit_28 (by decide) ?_
    refine lv_goto (tgt := 38) hx hb dX9_digit_29 (by decide) ?_
    subst hE
    exact W.iret hx hb hr (fun t ht hW => ⟨rfl, by rw [ht]; exact hP, hD, hS.F ht⟩) hS.2.2 dX9_digit_38
  · rw [if_neg c_1] at hE
    refine lv_iload_n hx hb dX9_digit_5 rfl (lv_at hl 1 rfl) ?_
    refine lv_aload_n hx hb dX9_digit_6 rfl (lv_at hl 0 rfl) ?_
    refine va_get (D := D) (ci := 9) (v := .int (nI rdn)) (C := RX9) (T := TX9) (N := 32) hx hb hts iw_9 hown hK hP 0 rfl rfl 2 (by decide) (hts (.fieldLink RX9 105 "DepositCodesModel" "digitCount" "I") (by decide +kernel)) (fun _ h9 => h9) rfl dX9_digit_7 ?_
    refine lv_icmp_lt (tgt := 17) hx hb dX9_digit_10 (by decide) (fun c_3 => ?_) (fun c_3 => ?_)
    · rw [if_pos c_3] at hE
      refine lv_iconst (v := 0) hx hb dX9_digit_17 (by decide) ?_
      refine va_put (D := D) (ci := 9) (v := .int 0) (ty := .int) (C := RX9) (T := TX9) (N := 32) hx hb hts iw_9 tyX9 tyX9_ok nmX9 hown hK hP hD hS 0 rfl rfl 3 (by decide) (hts (.fieldLink RX9 81 "DepositCodesModel" "fault" "I") (by decide +kernel)) (fun _ h9 => h9) rfl (by decide +kernel) rfl rfl (Nat.le_of_ble_eq_true rfl) dX9_digit_18 (fun H locs hP hD hS => ?_)
      have hP : va_P D vwCl [(w0, .inr (9, [.ref a1, .ref a2, .int (nI rdn), .int 0, .int (nI rmn), .ref a3, .ref a4, .ref a5, .ref a6, .ref a7, .ref a8, .ref a9, .ref a10, .ref a11, .ref a12, .ref a13, .int (nI rpn), .int rre, .ref a14, .ref a15, .int (nI rrn), .ref a16, .int (nI rfn), .ref a17, .ref a18, .ref a19, .int (nI rkn), .ref a20, .ref a21, .int (nI rcn), .ref a22, .ref a23])), (a2, .inl (cI, 16, .inl rd))] H := hP
      have hD : va_D A [(w0, .inr (9, [.ref a1, .ref a2, .int (nI rdn), .int 0, .int (nI rmn), .ref a3, .ref a4, .ref a5, .ref a6, .ref a7, .ref a8, .ref a9, .ref a10, .ref a11, .ref a12, .ref a13, .int (nI rpn), .int rre, .ref a14, .ref a15, .int (nI rrn), .ref a16, .int (nI rfn), .ref a17, .ref a18, .ref a19, .int (nI rkn), .ref a20, .ref a21, .int (nI rcn), .ref a22, .ref a23])), (a2, .inl (cI, 16, .inl rd))] := hD
      refine lv_aload_n hx hb dX9_digit_21 rfl (lv_at hl 0 rfl) ?_
      refine va_get (D := D) (ci := 9) (v := .int 0) (C := RX9) (T := TX9) (N := 32) hx hb hts iw_9 hown hK hP 0 rfl rfl 3 (by decide) (hts (.fieldLink RX9 81 "DepositCodesModel" "fault" "I") (by decide +kernel)) (fun _ h9 => h9) rfl dX9_digit_22 ?_
      refine lv_if_le (tgt := 32) hx hb dX9_digit_25 (by decide) (fun c_4 => ?_) (fun c_4 => ?_)
      rotate_left
      · exact absurd c_4 (by decide)
      have hin : vp_in k 16 := lt_in (n := rdn) (by assumption) (by assumption) (by omega) (by decide)
      refine lv_aload_n hx hb dX9_digit_32 rfl (lv_at hl 0 rfl) ?_
      refine va_get (D := D) (ci := 9) (v := .ref a2) (C := RX9) (T := TX9) (N := 32) hx hb hts iw_9 hown hK hP 0 rfl rfl 1 (by decide) (hts (.fieldLink RX9 13 "DepositCodesModel" "digits" "[I") (by decide +kernel)) (fun _ h9 => h9) rfl dX9_digit_33 ?_
      refine lv_iload_n hx hb dX9_digit_36 rfl (lv_at hl 1 rfl) ?_
      refine va_iald hx hb hK hP 1 0 rfl rfl (by assumption) dX9_digit_37 ?_
      subst hE
      exact W.iret hx hb hr (fun t ht hW => ⟨rfl, by rw [ht]; exact hP, hD, hS.F ht⟩) hS.2.2 dX9_digit_38
    · rw [if_neg c_3] at hE
      refine lv_iconst (v := 1) hx hb dX9_digit_13 (by decide) ?_
      refine lv_goto (tgt := 18) hx hb dX9_digit_14 (by decide) ?_
      refine va_put (D := D) (ci := 9) (v := .int 1) (ty := .int) (C := RX9) (T := TX9) (N := 32) hx hb hts iw_9 tyX9 tyX9_ok nmX9 hown hK hP hD hS 0 rfl rfl 3 (by decide) (hts (.fieldLink RX9 81 "DepositCodesModel" "fault" "I") (by decide +kernel)) (fun _ h9 => h9) rfl (by decide +kernel) rfl rfl (Nat.le_of_ble_eq_true rfl) dX9_digit_18 (fun H locs hP hD hS => ?_)
      have hP : va_P D vwCl [(w0, .inr (9, [.ref a1, .ref a2, .int (nI rdn), .int 1, .int (nI rmn), .ref a3, .ref a4, .ref a5, .ref a6, .ref a7, .ref a8, .ref a9, .ref a10, .ref a11, .ref a12, .ref a13, .int (nI rpn), .int rre, .ref a14, .ref a15, .int (nI rrn), .ref a16, .int (nI rfn), .ref a17, .ref a18, .ref a19, .int (nI rkn), .ref a20, .ref a21, .int (nI rcn), .ref a22, .ref a23])), (a2, .inl (cI, 16, .inl rd))] H := hP
      have hD : va_D A [(w0, .inr (9, [.ref a1, .ref a2, .int (nI rdn), .int 1, .int (nI rmn), .ref a3, .ref a4, .ref a5, .ref a6, .ref a7, .ref a8, .ref a9, .ref a10, .ref a11, .ref a12, .ref a13, .int (nI rpn), .int rre, .ref a14, .ref a15, .int (nI rrn), .ref a16, .int (nI rfn), .ref a17, .ref a18, .ref a19, .int (nI rkn), .ref a20, .ref a21, .int (nI rcn), .ref a22, .ref a23])), (a2, .inl (cI, 16, .inl rd))] := hD
      refine lv_aload_n hx hb dX9_digit_21 rfl (lv_at hl 0 rfl) ?_
      refine va_get (D := D) (ci := 9) (v := .int 1) (C := RX9) (T := TX9) (N := 32) hx hb hts iw_9 hown hK hP 0 rfl rfl 3 (by decide) (hts (.fieldLink RX9 81 "DepositCodesModel" "fault" "I") (by decide +kernel)) (fun _ h9 => h9) rfl dX9_digit_22 ?_
      refine lv_if_le (tgt := 32) hx hb dX9_digit_25 (by decide) (fun c_5 => ?_) (fun c_5 => ?_)
      · exact absurd c_5 (by decide)
      refine lv_iconst (v := 0) hx hb dX9_digit_28 (by decide) ?_
      refine lv_goto (tgt := 38) hx hb dX9_digit_29 (by decide) ?_
      subst hE
      exact W.iret hx hb hr (fun t ht hW => ⟨rfl, by rw [ht]; exact hP, hD, hS.F ht⟩) hS.2.2 dX9_digit_38
def FX9_fraud (rfn : Nat) (rfr : Nat → Int32) (k : Int32) : Int32 × Int32 := if k < 0 then ((-1), 0) else (if (nI rfn) ≤ k then ((-1), 0) else (rfr k.toNatClampNeg, 0))
set_option maxHeartbeats 4000000 in
set_option maxRecDepth 100000 in
theorem kX9_fraud (l : Launch) (D : va_G) (cI cJ cZ : ClassId) (w0 : Nat) (a1 : Nat) (a2 : Nat) (a3 : Nat) (a4 : Nat) (a5 : Nat) (a6 : Nat) (a7 : Nat) (a8 : Nat) (a9 : Nat) (a10 : Nat) (a11 : Nat) (a12 : Nat) (a13 : Nat) (a14 : Nat) (a15 : Nat) (a16 : Nat) (a17 : Nat) (a18 : Nat) (a19 : Nat) (a20 : Nat) (a21 : Nat) (a22 : Nat) (a23 : Nat) (rdn : Nat) (rfa : Int32) (rmn : Nat) (rpn : Nat) (rre : Int32) (rrn : Nat) (rfn : Nat) (rkn : Nat) (rcn : Nat) (rfr : Nat → Int32) (k : Int32) (sz : Nat) (hfn : rfn ≤ 1100) : Met l yX9_fraud wsX9_fraud ({ frames := 0, cells := 0, slots := 0, locals := 0 }) (mP D (tz cI cJ cZ) [.ref w0, .int k] sz [(w0, .inr (9, [.ref a1, .ref a2, .int (nI rdn), .int rfa, .int (nI rmn), .ref a3, .ref a4, .ref a5, .ref a6, .ref a7, .ref a8, .ref a9, .ref a10, .ref a11, .ref a12, .ref a13, .int (nI rpn), .int rre, .ref a14, .ref a15, .int (nI rrn), .ref a16, .int (nI rfn), .ref a17, .ref a18, .ref a19, .int (nI rkn), .ref a20, .ref a21, .int (nI rcn), .ref a22, .ref a23])), (a16, .inl (cI, 1100, .inl rfr))]) (mQ D (some (.int ((FX9_fraud rfn rfr k).1))) [(w0, .inr (9, [.ref a1, .ref a2, .int (nI rdn), .int ((FX9_fraud rfn rfr k).2), .int (nI rmn), .ref a3, .ref a4, .ref a5, .ref a6, .ref a7, .ref a8, .ref a9, .ref a10, .ref a11, .ref a12, .ref a13, .int (nI rpn), .int rre, .ref a14, .ref a15, .int (nI rrn), .ref a16, .int (nI rfn), .ref a17, .ref a18, .ref a19, .int (nI rkn), .ref a20, .ref a21, .int (nI rcn), .ref a22, .ref a23])), (a16, .inl (cI, 1100, .inl rfr))] (va_A [(w0, .inr (9, [.ref a1, .ref a2, .int (nI rdn), .int rfa, .int (nI rmn), .ref a3, .ref a4, .ref a5, .ref a6, .ref a7, .ref a8, .ref a9, .ref a10, .ref a11, .ref a12, .ref a13, .int (nI rpn), .int rre, .ref a14, .ref a15, .int (nI rrn), .ref a16, .int (nI rfn), .ref a17, .ref a18, .ref a19, .int (nI rkn), .ref a20, .ref a21, .int (nI rcn), .ref a22, .ref a23])), (a16, .inl (cI, 1100, .inl rfr))] sz)) 0 0 (va_A [(w0, .inr (9, [.ref a1, .ref a2, .int (nI rdn), .int rfa, .int (nI rmn), .ref a3, .ref a4, .ref a5, .ref a6, .ref a7, .ref a8, .ref a9, .ref a10, .ref a11, .ref a12, .ref a13, .int (nI rpn), .int rre, .ref a14, .ref a15, .int (nI rrn), .ref a16, .int (nI rfn), .ref a17, .ref a18, .ref a19, .int (nI rkn), .ref a20, .ref a21, .int (nI rcn), .ref a22, .ref a23])), (a16, .inl (cI, 1100, .inl rfr))] sz) := by
  refine Met.ofW (cc := cX9_fraud) (maxL := 2) (ret := (some .int)) (by decide) rfl ?_
  intro p e s m args below meth c s₁ B hml hv
  obtain ⟨rfl, hsz, hP, hK, hD0, hN⟩ := hv
  have hx := B.exec
  have hb := B.bytes
  have hr := B.returns
  have hts := atoms_spec (ws := wsX9_fraud) B.pre
  have hown : s.vm.findClass RX9 = some m.cls := findClass_of_methodNamed B.named
  have hlocks := B.notSynchronized
  have iw_9 : ∀ w ∈ u_ws RX9 TX9 32, w ∈ wsX9_fraud := by decide +kernel
  subst hsz
  have hD := hD0.self (sz := s.heap.size)
  generalize hE : FX9_fraud rfn rfr k = R0
  generalize hAe : va_A [(w0, .inr (9, [.ref a1, .ref a2, .int (nI rdn), .int rfa, .int (nI rmn), .ref a3, .ref a4, .ref a5, .ref a6, .ref a7, .ref a8, .ref a9, .ref a10, .ref a11, .ref a12, .ref a13, .int (nI rpn), .int rre, .ref a14, .ref a15, .int (nI rrn), .ref a16, .int (nI rfn), .ref a17, .ref a18, .ref a19, .int (nI rkn), .ref a20, .ref a21, .int (nI rcn), .ref a22, .ref a23])), (a16, .inl (cI, 1100, .inl rfr))] s.heap.size = A at hD ⊢
  have hA : ∀ q : Nat, s.heap.size ≤ q → A q := fun q h => by rw [← hAe]; exact Or.inr h
  have hS : va_S A s.heap s.heap [] := va_S.rf
  rw [FX9_fraud] at hE
  have hl := lv_entry ([.ref w0, .int k]) (n := 2) (Nat.le_of_ble_eq_true rfl)
  rw [lg_entry_eq]
  generalize (lg_sl ([.ref w0, .int k]) ++ List.replicate (2 - (lg_sl ([.ref w0, .int k])).length) Slot.unset).toArray = ls at hl ⊢
  have hl : lv_has ls 2 [(0, .ref w0), (1, .int k)] := hl
  refine lv_aload_n hx hb dX9_fraud_0 rfl (lv_at hl 0 rfl) ?_
  refine lv_iconst (v := 0) hx hb dX9_fraud_1 (by decide) ?_
  refine va_put (D := D) (ci := 9) (v := .int 0) (ty := .int) (C := RX9) (T := TX9) (N := 32) hx hb hts iw_9 tyX9 tyX9_ok nmX9 hown hK hP hD hS 0 rfl rfl 3 (by decide) (hts (.fieldLink RX9 81 "DepositCodesModel" "fault" "I") (by decide +kernel)) (fun _ h9 => h9) rfl (by decide +kernel) rfl rfl (Nat.le_of_ble_eq_true rfl) dX9_fraud_2 (fun H locs hP hD hS => ?_)
  have hP : va_P D vwCl [(w0, .inr (9, [.ref a1, .ref a2, .int (nI rdn), .int 0, .int (nI rmn), .ref a3, .ref a4, .ref a5, .ref a6, .ref a7, .ref a8, .ref a9, .ref a10, .ref a11, .ref a12, .ref a13, .int (nI rpn), .int rre, .ref a14, .ref a15, .int (nI rrn), .ref a16, .int (nI rfn), .ref a17, .ref a18, .ref a19, .int (nI rkn), .ref a20, .ref a21, .int (nI rcn), .ref a22, .ref a23])), (a16, .inl (cI, 1100, .inl rfr))] H := hP
  have hD : va_D A [(w0, .inr (9, [.ref a1, .ref a2, .int (nI rdn), .int 0, .int (nI rmn), .ref a3, .ref a4, .ref a5, .ref a6, .ref a7, .ref a8, .ref a9, .ref a10, .ref a11, .ref a12, .ref a13, .int (nI rpn), .int rre, .ref a14, .ref a15, .int (nI rrn), .ref a16, .int (nI rfn), .ref a17, .ref a18, .ref a19, .int (nI rkn), .ref a20, .ref a21, .int (nI rcn), .ref a22, .ref a23])), (a16, .inl (cI, 1100, .inl rfr))] := hD
  refine lv_iload_n hx hb dX9_fraud_5 rfl (lv_at hl 1 rfl) ?_
  refine lv_if_lt (tgt := 26) hx hb dX9_fraud_6 (by decide) (fun c_1 => ?_) (fun c_1 => ?_)
  · rw [if_pos c_1] at hE
    refine lv_iconst (v := (-1)) hx hb dX9_fraud_26 (by decide) ?_
    subst hE
    exact W.iret hx hb hr (fun t ht hW => ⟨rfl, by rw [ht]; exact hP, hD, hS.F ht⟩) hS.2.2 dX9_fraud_27
  · rw [if_neg c_1] at hE
    refine lv_iload_n hx hb dX9_fraud_9 rfl (lv_at hl 1 rfl) ?_
    refine lv_aload_n hx hb dX9_fraud_10 rfl (lv_at hl 0 rfl) ?_
    refine va_get (D := D) (ci := 9) (v := .int (nI rfn)) (C := RX9) (T := TX9) (N := 32) hx hb hts iw_9 hown hK hP 0 rfl rfl 22 (by decide) (hts (.fieldLink RX9 150 "DepositCodesModel" "fraudCount" "I") (by decide +kernel)) (fun _ h9 => h9) rfl dX9_fraud_11 ?_
    refine lv_icmp_ge (tgt := 26) hx hb dX9_fraud_14 (by decide) (fun c_2 => ?_) (fun c_2 => ?_)
    · rw [if_pos c_2] at hE
      refine lv_iconst (v := (-1)) hx hb dX9_fraud_26 (by decide) ?_
      subst hE
      exact W.iret hx hb hr (fun t ht hW => ⟨rfl, by rw [ht]; exact hP, hD, hS.F ht⟩) hS.2.2 dX9_fraud_27
    · rw [if_neg c_2] at hE
      have hin : vp_in k 1100 := nle_in (n := rfn) (by assumption) (by assumption) hfn (by decide)
      refine lv_aload_n hx hb dX9_fraud_17 rfl (lv_at hl 0 rfl) ?_
      refine va_get (D := D) (ci := 9) (v := .ref a16) (C := RX9) (T := TX9) (N := 32) hx hb hts iw_9 hown hK hP 0 rfl rfl 21 (by decide) (hts (.fieldLink RX9 57 "DepositCodesModel" "frauds" "[I") (by decide +kernel)) (fun _ h9 => h9) rfl dX9_fraud_18 ?_
      refine lv_iload_n hx hb dX9_fraud_21 rfl (lv_at hl 1 rfl) ?_
      refine va_iald hx hb hK hP 1 0 rfl rfl (by assumption) dX9_fraud_22 ?_
      refine lv_goto (tgt := 27) hx hb dX9_fraud_23 (by decide) ?_
      subst hE
      exact W.iret hx hb hr (fun t ht hW => ⟨rfl, by rw [ht]; exact hP, hD, hS.F ht⟩) hS.2.2 dX9_fraud_27
def FX9_shop (rsp : Nat → Int64) (k : Int32) : Int64 × Int32 := if (FX9_isIn k.toInt64 99) = 0 then ((-1), 0) else (rsp k.toNatClampNeg, 0)
set_option maxHeartbeats 4000000 in
set_option maxRecDepth 100000 in
theorem kX9_shop (l : Launch) (D : va_G) (cI cJ cZ : ClassId) (w0 : Nat) (a1 : Nat) (a2 : Nat) (a3 : Nat) (a4 : Nat) (a5 : Nat) (a6 : Nat) (a7 : Nat) (a8 : Nat) (a9 : Nat) (a10 : Nat) (a11 : Nat) (a12 : Nat) (a13 : Nat) (a14 : Nat) (a15 : Nat) (a16 : Nat) (a17 : Nat) (a18 : Nat) (a19 : Nat) (a20 : Nat) (a21 : Nat) (a22 : Nat) (a23 : Nat) (rdn : Nat) (rfa : Int32) (rmn : Nat) (rpn : Nat) (rre : Int32) (rrn : Nat) (rfn : Nat) (rkn : Nat) (rcn : Nat) (rsp : Nat → Int64) (k : Int32) (sz : Nat) : Met l yX9_shop wsX9_shop ({ frames := 1, cells := 0, slots := 0, locals := 23 }) (mP D (tz cI cJ cZ) [.ref w0, .int k] sz [(w0, .inr (9, [.ref a1, .ref a2, .int (nI rdn), .int rfa, .int (nI rmn), .ref a3, .ref a4, .ref a5, .ref a6, .ref a7, .ref a8, .ref a9, .ref a10, .ref a11, .ref a12, .ref a13, .int (nI rpn), .int rre, .ref a14, .ref a15, .int (nI rrn), .ref a16, .int (nI rfn), .ref a17, .ref a18, .ref a19, .int (nI rkn), .ref a20, .ref a21, .int (nI rcn), .ref a22, .ref a23])), (a22, .inl (cJ, 100, .inr (.inl rsp)))]) (mQ D (some (.long ((FX9_shop rsp k).1))) [(w0, .inr (9, [.ref a1, .ref a2, .int (nI rdn), .int ((FX9_shop rsp k).2), .int (nI rmn), .ref a3, .ref a4, .ref a5, .ref a6, .ref a7, .ref a8, .ref a9, .ref a10, .ref a11, .ref a12, .ref a13, .int (nI rpn), .int rre, .ref a14, .ref a15, .int (nI rrn), .ref a16, .int (nI rfn), .ref a17, .ref a18, .ref a19, .int (nI rkn), .ref a20, .ref a21, .int (nI rcn), .ref a22, .ref a23])), (a22, .inl (cJ, 100, .inr (.inl rsp)))] (va_A [(w0, .inr (9, [.ref a1, .ref a2, .int (nI rdn), .int rfa, .int (nI rmn), .ref a3, .ref a4, .ref a5, .ref a6, .ref a7, .ref a8, .ref a9, .ref a10, .ref a11, .ref a12, .ref a13, .int (nI rpn), .int rre, .ref a14, .ref a15, .int (nI rrn), .ref a16, .int (nI rfn), .ref a17, .ref a18, .ref a19, .int (nI rkn), .ref a20, .ref a21, .int (nI rcn), .ref a22, .ref a23])), (a22, .inl (cJ, 100, .inr (.inl rsp)))] sz)) 0 0 (va_A [(w0, .inr (9, [.ref a1, .ref a2, .int (nI rdn), .int rfa, .int (nI rmn), .ref a3, .ref a4, .ref a5, .ref a6, .ref a7, .ref a8, .ref a9, .ref a10, .ref a11, .ref a12, .ref a13, .int (nI rpn), .int rre, .ref a14, .ref a15, .int (nI rrn), .ref a16, .int (nI rfn), .ref a17, .ref a18, .ref a19, .int (nI rkn), .ref a20, .ref a21, .int (nI rcn), .ref a22, .ref a23])), (a22, .inl (cJ, 100, .inr (.inl rsp)))] sz) := by
  refine Met.ofW (cc := cX9_shop) (maxL := 2) (ret := (some .long)) (by decide) rfl ?_
  intro p e s m args below meth c s₁ B hml hv
  obtain ⟨rfl, hsz, hP, hK, hD0, hN⟩ := hv
  have hx := B.exec
  have hb := B.bytes
  have hr := B.returns
  have hts := atoms_spec (ws := wsX9_shop) B.pre
  have hown : s.vm.findClass RX9 = some m.cls := findClass_of_methodNamed B.named
  have hlocks := B.notSynchronized
  have iw_9 : ∀ w ∈ u_ws RX9 TX9 32, w ∈ wsX9_shop := by decide +kernel
  subst hsz
  have hD := hD0.self (sz := s.heap.size)
  generalize hE : FX9_shop rsp k = R0
  generalize hAe : va_A [(w0, .inr (9, [.ref a1, .ref a2, .int (nI rdn), .int rfa, .int (nI rmn), .ref a3, .ref a4, .ref a5, .ref a6, .ref a7, .ref a8, .ref a9, .ref a10, .ref a11, .ref a12, .ref a13, .int (nI rpn), .int rre, .ref a14, .ref a15, .int (nI rrn), .ref a16, .int (nI rfn), .ref a17, .ref a18, .ref a19, .int (nI rkn), .ref a20, .ref a21, .int (nI rcn), .ref a22, .ref a23])), (a22, .inl (cJ, 100, .inr (.inl rsp)))] s.heap.size = A at hD ⊢
  have hA : ∀ q : Nat, s.heap.size ≤ q → A q := fun q h => by rw [← hAe]; exact Or.inr h
  have hS : va_S A s.heap s.heap [] := va_S.rf
  rw [FX9_shop] at hE
  have hl := lv_entry ([.ref w0, .int k]) (n := 2) (Nat.le_of_ble_eq_true rfl)
  rw [lg_entry_eq]
  generalize (lg_sl ([.ref w0, .int k]) ++ List.replicate (2 - (lg_sl ([.ref w0, .int k])).length) Slot.unset).toArray = ls at hl ⊢
  have hl : lv_has ls 2 [(0, .ref w0), (1, .int k)] := hl
  refine lv_aload_n hx hb dX9_shop_0 rfl (lv_at hl 0 rfl) ?_
  refine lv_iconst (v := 0) hx hb dX9_shop_1 (by decide) ?_
  refine va_put (D := D) (ci := 9) (v := .int 0) (ty := .int) (C := RX9) (T := TX9) (N := 32) hx hb hts iw_9 tyX9 tyX9_ok nmX9 hown hK hP hD hS 0 rfl rfl 3 (by decide) (hts (.fieldLink RX9 81 "DepositCodesModel" "fault" "I") (by decide +kernel)) (fun _ h9 => h9) rfl (by decide +kernel) rfl rfl (Nat.le_of_ble_eq_true rfl) dX9_shop_2 (fun H locs hP hD hS => ?_)
  have hP : va_P D vwCl [(w0, .inr (9, [.ref a1, .ref a2, .int (nI rdn), .int 0, .int (nI rmn), .ref a3, .ref a4, .ref a5, .ref a6, .ref a7, .ref a8, .ref a9, .ref a10, .ref a11, .ref a12, .ref a13, .int (nI rpn), .int rre, .ref a14, .ref a15, .int (nI rrn), .ref a16, .int (nI rfn), .ref a17, .ref a18, .ref a19, .int (nI rkn), .ref a20, .ref a21, .int (nI rcn), .ref a22, .ref a23])), (a22, .inl (cJ, 100, .inr (.inl rsp)))] H := hP
  have hD : va_D A [(w0, .inr (9, [.ref a1, .ref a2, .int (nI rdn), .int 0, .int (nI rmn), .ref a3, .ref a4, .ref a5, .ref a6, .ref a7, .ref a8, .ref a9, .ref a10, .ref a11, .ref a12, .ref a13, .int (nI rpn), .int rre, .ref a14, .ref a15, .int (nI rrn), .ref a16, .int (nI rfn), .ref a17, .ref a18, .ref a19, .int (nI rkn), .ref a20, .ref a21, .int (nI rcn), .ref a22, .ref a23])), (a22, .inl (cJ, 100, .inr (.inl rsp)))] := hD
  refine lv_iload_n hx hb dX9_shop_5 rfl (lv_at hl 1 rfl) ?_
  refine lv_i2l hx hb dX9_shop_6 rfl ?_
  refine lv_ldc2 hx hb hown (hts (.constantLong RX9 186 99) (by decide +kernel)) dX9_shop_7 ?_
  refine rd_call (va_runS (As := [.long k.toInt64, .long 99]) (rest := []) ⟨hx, hb, hml, hown, hts⟩ (kX9_isIn l D cI cJ cZ k.toInt64 99) (va_cwS 2 hts gX9_shop_X9_isIn rfl rfl rfl (by decide +kernel) ⟨Nat.le_of_ble_eq_true rfl, Nat.le_of_ble_eq_true rfl⟩) ⟨rP_blind, rP_pre (va_P_nil) hK hN⟩ rfl rfl hl.1 rfl (lv_room (Nat.le_of_ble_eq_true rfl)) dX9_shop_10 ⟨Nat.zero_le _, Nat.zero_le _⟩) ?_
  refine lv_if_eq (tgt := 25) hx hb dX9_shop_13 (by decide) (fun c_1 => ?_) (fun c_1 => ?_)
  · rw [if_pos c_1] at hE
    refine lv_ldc2 hx hb hown (hts (.constantLong RX9 168 (-1)) (by decide +kernel)) dX9_shop_25 ?_
    subst hE
    exact W.lret hx hb hr (fun t ht hW => ⟨rfl, by rw [ht]; exact hP, hD, hS.F ht⟩) hS.2.2 dX9_shop_28
  · rw [if_neg c_1] at hE
    have hin : vp_in k 100 := isIn_in (K := 99) (by assumption) (by decide)
    refine lv_aload_n hx hb dX9_shop_16 rfl (lv_at hl 0 rfl) ?_
    refine va_get (D := D) (ci := 9) (v := .ref a22) (C := RX9) (T := TX9) (N := 32) hx hb hts iw_9 hown hK hP 0 rfl rfl 30 (by decide) (hts (.fieldLink RX9 75 "DepositCodesModel" "shops" "[J") (by decide +kernel)) (fun _ h9 => h9) rfl dX9_shop_17 ?_
    refine lv_iload_n hx hb dX9_shop_20 rfl (lv_at hl 1 rfl) ?_
    refine va_lald hx hb hK hP 1 1 rfl rfl (by assumption) dX9_shop_21 ?_
    refine lv_goto (tgt := 28) hx hb dX9_shop_22 (by decide) ?_
    subst hE
    exact W.lret hx hb hr (fun t ht hW => ⟨rfl, by rw [ht]; exact hP, hD, hS.F ht⟩) hS.2.2 dX9_shop_28
def FX9_cleared (rba : Nat → Int64) (k : Int32) : Int64 × Int32 := if (FX9_isIn k.toInt64 2) = 0 then (0, 0) else (rba k.toNatClampNeg, 0)
set_option maxHeartbeats 4000000 in
set_option maxRecDepth 100000 in
theorem kX9_cleared (l : Launch) (D : va_G) (cI cJ cZ : ClassId) (w0 : Nat) (a1 : Nat) (a2 : Nat) (a3 : Nat) (a4 : Nat) (a5 : Nat) (a6 : Nat) (a7 : Nat) (a8 : Nat) (a9 : Nat) (a10 : Nat) (a11 : Nat) (a12 : Nat) (a13 : Nat) (a14 : Nat) (a15 : Nat) (a16 : Nat) (a17 : Nat) (a18 : Nat) (a19 : Nat) (a20 : Nat) (a21 : Nat) (a22 : Nat) (a23 : Nat) (rdn : Nat) (rfa : Int32) (rmn : Nat) (rpn : Nat) (rre : Int32) (rrn : Nat) (rfn : Nat) (rkn : Nat) (rcn : Nat) (rba : Nat → Int64) (k : Int32) (sz : Nat) : Met l yX9_cleared wsX9_cleared ({ frames := 1, cells := 0, slots := 0, locals := 23 }) (mP D (tz cI cJ cZ) [.ref w0, .int k] sz [(w0, .inr (9, [.ref a1, .ref a2, .int (nI rdn), .int rfa, .int (nI rmn), .ref a3, .ref a4, .ref a5, .ref a6, .ref a7, .ref a8, .ref a9, .ref a10, .ref a11, .ref a12, .ref a13, .int (nI rpn), .int rre, .ref a14, .ref a15, .int (nI rrn), .ref a16, .int (nI rfn), .ref a17, .ref a18, .ref a19, .int (nI rkn), .ref a20, .ref a21, .int (nI rcn), .ref a22, .ref a23])), (a23, .inl (cJ, 3, .inr (.inl rba)))]) (mQ D (some (.long ((FX9_cleared rba k).1))) [(w0, .inr (9, [.ref a1, .ref a2, .int (nI rdn), .int ((FX9_cleared rba k).2), .int (nI rmn), .ref a3, .ref a4, .ref a5, .ref a6, .ref a7, .ref a8, .ref a9, .ref a10, .ref a11, .ref a12, .ref a13, .int (nI rpn), .int rre, .ref a14, .ref a15, .int (nI rrn), .ref a16, .int (nI rfn), .ref a17, .ref a18, .ref a19, .int (nI rkn), .ref a20, .ref a21, .int (nI rcn), .ref a22, .ref a23])), (a23, .inl (cJ, 3, .inr (.inl rba)))] (va_A [(w0, .inr (9, [.ref a1, .ref a2, .int (nI rdn), .int rfa, .int (nI rmn), .ref a3, .ref a4, .ref a5, .ref a6, .ref a7, .ref a8, .ref a9, .ref a10, .ref a11, .ref a12, .ref a13, .int (nI rpn), .int rre, .ref a14, .ref a15, .int (nI rrn), .ref a16, .int (nI rfn), .ref a17, .ref a18, .ref a19, .int (nI rkn), .ref a20, .ref a21, .int (nI rcn), .ref a22, .ref a23])), (a23, .inl (cJ, 3, .inr (.inl rba)))] sz)) 0 0 (va_A [(w0, .inr (9, [.ref a1, .ref a2, .int (nI rdn), .int rfa, .int (nI rmn), .ref a3, .ref a4, .ref a5, .ref a6, .ref a7, .ref a8, .ref a9, .ref a10, .ref a11, .ref a12, .ref a13, .int (nI rpn), .int rre, .ref a14, .ref a15, .int (nI rrn), .ref a16, .int (nI rfn), .ref a17, .ref a18, .ref a19, .int (nI rkn), .ref a20, .ref a21, .int (nI rcn), .ref a22, .ref a23])), (a23, .inl (cJ, 3, .inr (.inl rba)))] sz) := by
  refine Met.ofW (cc := cX9_cleared) (maxL := 2) (ret := (some .long)) (by decide) rfl ?_
  intro p e s m args below meth c s₁ B hml hv
  obtain ⟨rfl, hsz, hP, hK, hD0, hN⟩ := hv
  have hx := B.exec
  have hb := B.bytes
  have hr := B.returns
  have hts := atoms_spec (ws := wsX9_cleared) B.pre
  have hown : s.vm.findClass RX9 = some m.cls := findClass_of_methodNamed B.named
  have hlocks := B.notSynchronized
  have iw_9 : ∀ w ∈ u_ws RX9 TX9 32, w ∈ wsX9_cleared := by decide +kernel
  subst hsz
  have hD := hD0.self (sz := s.heap.size)
  generalize hE : FX9_cleared rba k = R0
  generalize hAe : va_A [(w0, .inr (9, [.ref a1, .ref a2, .int (nI rdn), .int rfa, .int (nI rmn), .ref a3, .ref a4, .ref a5, .ref a6, .ref a7, .ref a8, .ref a9, .ref a10, .ref a11, .ref a12, .ref a13, .int (nI rpn), .int rre, .ref a14, .ref a15, .int (nI rrn), .ref a16, .int (nI rfn), .ref a17, .ref a18, .ref a19, .int (nI rkn), .ref a20, .ref a21, .int (nI rcn), .ref a22, .ref a23])), (a23, .inl (cJ, 3, .inr (.inl rba)))] s.heap.size = A at hD ⊢
  have hA : ∀ q : Nat, s.heap.size ≤ q → A q := fun q h => by rw [← hAe]; exact Or.inr h
  have hS : va_S A s.heap s.heap [] := va_S.rf
  rw [FX9_cleared] at hE
  have hl := lv_entry ([.ref w0, .int k]) (n := 2) (Nat.le_of_ble_eq_true rfl)
  rw [lg_entry_eq]
  generalize (lg_sl ([.ref w0, .int k]) ++ List.replicate (2 - (lg_sl ([.ref w0, .int k])).length) Slot.unset).toArray = ls at hl ⊢
  have hl : lv_has ls 2 [(0, .ref w0), (1, .int k)] := hl
  refine lv_aload_n hx hb dX9_cleared_0 rfl (lv_at hl 0 rfl) ?_
  refine lv_iconst (v := 0) hx hb dX9_cleared_1 (by decide) ?_
  refine va_put (D := D) (ci := 9) (v := .int 0) (ty := .int) (C := RX9) (T := TX9) (N := 32) hx hb hts iw_9 tyX9 tyX9_ok nmX9 hown hK hP hD hS 0 rfl rfl 3 (by decide) (hts (.fieldLink RX9 81 "DepositCodesModel" "fault" "I") (by decide +kernel)) (fun _ h9 => h9) rfl (by decide +kernel) rfl rfl (Nat.le_of_ble_eq_true rfl) dX9_cleared_2 (fun H locs hP hD hS => ?_)
  have hP : va_P D vwCl [(w0, .inr (9, [.ref a1, .ref a2, .int (nI rdn), .int 0, .int (nI rmn), .ref a3, .ref a4, .ref a5, .ref a6, .ref a7, .ref a8, .ref a9, .ref a10, .ref a11, .ref a12, .ref a13, .int (nI rpn), .int rre, .ref a14, .ref a15, .int (nI rrn), .ref a16, .int (nI rfn), .ref a17, .ref a18, .ref a19, .int (nI rkn), .ref a20, .ref a21, .int (nI rcn), .ref a22, .ref a23])), (a23, .inl (cJ, 3, .inr (.inl rba)))] H := hP
  have hD : va_D A [(w0, .inr (9, [.ref a1, .ref a2, .int (nI rdn), .int 0, .int (nI rmn), .ref a3, .ref a4, .ref a5, .ref a6, .ref a7, .ref a8, .ref a9, .ref a10, .ref a11, .ref a12, .ref a13, .int (nI rpn), .int rre, .ref a14, .ref a15, .int (nI rrn), .ref a16, .int (nI rfn), .ref a17, .ref a18, .ref a19, .int (nI rkn), .ref a20, .ref a21, .int (nI rcn), .ref a22, .ref a23])), (a23, .inl (cJ, 3, .inr (.inl rba)))] := hD
  refine lv_iload_n hx hb dX9_cleared_5 rfl (lv_at hl 1 rfl) ?_
  refine lv_i2l hx hb dX9_cleared_6 rfl ?_
  refine lv_ldc2 hx hb hown (hts (.constantLong RX9 194 2) (by decide +kernel)) dX9_cleared_7 ?_
  refine rd_call (va_runS (As := [.long k.toInt64, .long 2]) (rest := []) ⟨hx, hb, hml, hown, hts⟩ (kX9_isIn l D cI cJ cZ k.toInt64 2) (va_cwS 2 hts gX9_cleared_X9_isIn rfl rfl rfl (by decide +kernel) ⟨Nat.le_of_ble_eq_true rfl, Nat.le_of_ble_eq_true rfl⟩) ⟨rP_blind, rP_pre (va_P_nil) hK hN⟩ rfl rfl hl.1 rfl (lv_room (Nat.le_of_ble_eq_true rfl)) dX9_cleared_10 ⟨Nat.zero_le _, Nat.zero_le _⟩) ?_
  refine lv_if_eq (tgt := 25) hx hb dX9_cleared_13 (by decide) (fun c_1 => ?_) (fun c_1 => ?_)
  · rw [if_pos c_1] at hE
    refine lv_lconst (v := 0) hx hb dX9_cleared_25 (by decide) ?_
    subst hE
    exact W.lret hx hb hr (fun t ht hW => ⟨rfl, by rw [ht]; exact hP, hD, hS.F ht⟩) hS.2.2 dX9_cleared_26
  · rw [if_neg c_1] at hE
    have hin : vp_in k 3 := isIn_in (K := 2) (by assumption) (by decide)
    refine lv_aload_n hx hb dX9_cleared_16 rfl (lv_at hl 0 rfl) ?_
    refine va_get (D := D) (ci := 9) (v := .ref a23) (C := RX9) (T := TX9) (N := 32) hx hb hts iw_9 hown hK hP 0 rfl rfl 31 (by decide) (hts (.fieldLink RX9 78 "DepositCodesModel" "balances" "[J") (by decide +kernel)) (fun _ h9 => h9) rfl dX9_cleared_17 ?_
    refine lv_iload_n hx hb dX9_cleared_20 rfl (lv_at hl 1 rfl) ?_
    refine va_lald hx hb hK hP 1 1 rfl rfl (by assumption) dX9_cleared_21 ?_
    refine lv_goto (tgt := 26) hx hb dX9_cleared_22 (by decide) ?_
    subst hE
    exact W.lret hx hb hr (fun t ht hW => ⟨rfl, by rw [ht]; exact hP, hD, hS.F ht⟩) hS.2.2 dX9_cleared_26
def FX9_mark (v : Int64) (ky : Int64) (sw : Int64) : Int32 × Int32 := if (FX9_isIn v 999999999999999999) = 0 then (0, 0) else (if (FX9_isIn ky 999999999999999999) = 0 then (0, 0) else (if (FX9_isIn sw 999999999999999999) = 0 then (0, 0) else (if (lg_cmp ((((v - v / 99991 * 99991) + (7 * (ky - ky / 99991 * 99991))) * (((v - v / 99991 * 99991) + (13 * (ky - ky / 99991 * 99991))) + 1)) - (((v - v / 99991 * 99991) + (7 * (ky - ky / 99991 * 99991))) * (((v - v / 99991 * 99991) + (13 * (ky - ky / 99991 * 99991))) + 1)) / 10000 * 10000) sw) = 0 then (1, 0) else (0, 0))))
theorem FX9_mark_b (v : Int64) (ky : Int64) (sw : Int64) : isB ((FX9_mark v ky sw).1) := by
  unfold FX9_mark
  repeat' split
  all_goals first | exact isB_0 | exact isB_1
set_option maxHeartbeats 4000000 in
set_option maxRecDepth 100000 in
theorem kX9_mark (l : Launch) (D : va_G) (cI cJ cZ : ClassId) (w0 : Nat) (a1 : Nat) (a2 : Nat) (a3 : Nat) (a4 : Nat) (a5 : Nat) (a6 : Nat) (a7 : Nat) (a8 : Nat) (a9 : Nat) (a10 : Nat) (a11 : Nat) (a12 : Nat) (a13 : Nat) (a14 : Nat) (a15 : Nat) (a16 : Nat) (a17 : Nat) (a18 : Nat) (a19 : Nat) (a20 : Nat) (a21 : Nat) (a22 : Nat) (a23 : Nat) (rdn : Nat) (rfa : Int32) (rmn : Nat) (rpn : Nat) (rre : Int32) (rrn : Nat) (rfn : Nat) (rkn : Nat) (rcn : Nat) (v : Int64) (ky : Int64) (sw : Int64) (sz : Nat) : Met l yX9_mark wsX9_mark ({ frames := 1, cells := 0, slots := 0, locals := 23 }) (mP D (tz cI cJ cZ) [.ref w0, .long v, .long ky, .long sw] sz [(w0, .inr (9, [.ref a1, .ref a2, .int (nI rdn), .int rfa, .int (nI rmn), .ref a3, .ref a4, .ref a5, .ref a6, .ref a7, .ref a8, .ref a9, .ref a10, .ref a11, .ref a12, .ref a13, .int (nI rpn), .int rre, .ref a14, .ref a15, .int (nI rrn), .ref a16, .int (nI rfn), .ref a17, .ref a18, .ref a19, .int (nI rkn), .ref a20, .ref a21, .int (nI rcn), .ref a22, .ref a23]))]) (mQ D (some (.int ((FX9_mark v ky sw).1))) [(w0, .inr (9, [.ref a1, .ref a2, .int (nI rdn), .int ((FX9_mark v ky sw).2), .int (nI rmn), .ref a3, .ref a4, .ref a5, .ref a6, .ref a7, .ref a8, .ref a9, .ref a10, .ref a11, .ref a12, .ref a13, .int (nI rpn), .int rre, .ref a14, .ref a15, .int (nI rrn), .ref a16, .int (nI rfn), .ref a17, .ref a18, .ref a19, .int (nI rkn), .ref a20, .ref a21, .int (nI rcn), .ref a22, .ref a23]))] (va_A [(w0, .inr (9, [.ref a1, .ref a2, .int (nI rdn), .int rfa, .int (nI rmn), .ref a3, .ref a4, .ref a5, .ref a6, .ref a7, .ref a8, .ref a9, .ref a10, .ref a11, .ref a12, .ref a13, .int (nI rpn), .int rre, .ref a14, .ref a15, .int (nI rrn), .ref a16, .int (nI rfn), .ref a17, .ref a18, .ref a19, .int (nI rkn), .ref a20, .ref a21, .int (nI rcn), .ref a22, .ref a23]))] sz)) 0 0 (va_A [(w0, .inr (9, [.ref a1, .ref a2, .int (nI rdn), .int rfa, .int (nI rmn), .ref a3, .ref a4, .ref a5, .ref a6, .ref a7, .ref a8, .ref a9, .ref a10, .ref a11, .ref a12, .ref a13, .int (nI rpn), .int rre, .ref a14, .ref a15, .int (nI rrn), .ref a16, .int (nI rfn), .ref a17, .ref a18, .ref a19, .int (nI rkn), .ref a20, .ref a21, .int (nI rcn), .ref a22, .ref a23]))] sz) := by
  refine Met.ofW (cc := cX9_mark) (maxL := 11) (ret := (some .boolean)) (by decide) rfl ?_
  intro p e s m args below meth c s₁ B hml hv
  obtain ⟨rfl, hsz, hP, hK, hD0, hN⟩ := hv
  have hx := B.exec
  have hb := B.bytes
  have hr := B.returns
  have hts := atoms_spec (ws := wsX9_mark) B.pre
  have hown : s.vm.findClass RX9 = some m.cls := findClass_of_methodNamed B.named
  have hlocks := B.notSynchronized
  have iw_9 : ∀ w ∈ u_ws RX9 TX9 32, w ∈ wsX9_mark := by decide +kernel
  subst hsz
  have hD := hD0.self (sz := s.heap.size)
  generalize hE : FX9_mark v ky sw = R0
  generalize hAe : va_A [(w0, .inr (9, [.ref a1, .ref a2, .int (nI rdn), .int rfa, .int (nI rmn), .ref a3, .ref a4, .ref a5, .ref a6, .ref a7, .ref a8, .ref a9, .ref a10, .ref a11, .ref a12, .ref a13, .int (nI rpn), .int rre, .ref a14, .ref a15, .int (nI rrn), .ref a16, .int (nI rfn), .ref a17, .ref a18, .ref a19, .int (nI rkn), .ref a20, .ref a21, .int (nI rcn), .ref a22, .ref a23]))] s.heap.size = A at hD ⊢
  have hA : ∀ q : Nat, s.heap.size ≤ q → A q := fun q h => by rw [← hAe]; exact Or.inr h
  have hS : va_S A s.heap s.heap [] := va_S.rf
  rw [FX9_mark] at hE
  have hl := lv_entry ([.ref w0, .long v, .long ky, .long sw]) (n := 11) (Nat.le_of_ble_eq_true rfl)
  rw [lg_entry_eq]
  generalize (lg_sl ([.ref w0, .long v, .long ky, .long sw]) ++ List.replicate (11 - (lg_sl ([.ref w0, .long v, .long ky, .long sw])).length) Slot.unset).toArray = ls at hl ⊢
  have hl : lv_has ls 11 [(0, .ref w0), (1, .long v), (3, .long ky), (5, .long sw)] := hl
  refine lv_aload_n hx hb dX9_mark_0 rfl (lv_at hl 0 rfl) ?_
  refine lv_iconst (v := 0) hx hb dX9_mark_1 (by decide) ?_
  refine va_put (D := D) (ci := 9) (v := .int 0) (ty := .int) (C := RX9) (T := TX9) (N := 32) hx hb hts iw_9 tyX9 tyX9_ok nmX9 hown hK hP hD hS 0 rfl rfl 3 (by decide) (hts (.fieldLink RX9 81 "DepositCodesModel" "fault" "I") (by decide +kernel)) (fun _ h9 => h9) rfl (by decide +kernel) rfl rfl (Nat.le_of_ble_eq_true rfl) dX9_mark_2 (fun H locs hP hD hS => ?_)
  have hP : va_P D vwCl [(w0, .inr (9, [.ref a1, .ref a2, .int (nI rdn), .int 0, .int (nI rmn), .ref a3, .ref a4, .ref a5, .ref a6, .ref a7, .ref a8, .ref a9, .ref a10, .ref a11, .ref a12, .ref a13, .int (nI rpn), .int rre, .ref a14, .ref a15, .int (nI rrn), .ref a16, .int (nI rfn), .ref a17, .ref a18, .ref a19, .int (nI rkn), .ref a20, .ref a21, .int (nI rcn), .ref a22, .ref a23]))] H := hP
  have hD : va_D A [(w0, .inr (9, [.ref a1, .ref a2, .int (nI rdn), .int 0, .int (nI rmn), .ref a3, .ref a4, .ref a5, .ref a6, .ref a7, .ref a8, .ref a9, .ref a10, .ref a11, .ref a12, .ref a13, .int (nI rpn), .int rre, .ref a14, .ref a15, .int (nI rrn), .ref a16, .int (nI rfn), .ref a17, .ref a18, .ref a19, .int (nI rkn), .ref a20, .ref a21, .int (nI rcn), .ref a22, .ref a23]))] := hD
  refine lv_lload_n hx hb dX9_mark_5 rfl (lv_at hl 1 rfl) ?_
  refine lv_ldc2 hx hb hown (hts (.constantLong RX9 117 999999999999999999) (by decide +kernel)) dX9_mark_6 ?_
  refine rd_call (va_runS (As := [.long v, .long 999999999999999999]) (rest := []) ⟨hx, hb, hml, hown, hts⟩ (kX9_isIn l D cI cJ cZ v 999999999999999999) (va_cwS 2 hts gX9_mark_X9_isIn rfl rfl rfl (by decide +kernel) ⟨Nat.le_of_ble_eq_true rfl, Nat.le_of_ble_eq_true rfl⟩) ⟨rP_blind, rP_pre (va_P_nil) hK hN⟩ rfl rfl hl.1 rfl (lv_room (Nat.le_of_ble_eq_true rfl)) dX9_mark_9 ⟨Nat.zero_le _, Nat.zero_le _⟩) ?_
  refine lv_if_eq (tgt := 36) hx hb dX9_mark_12 (by decide) (fun c_1 => ?_) (fun c_1 => ?_)
  · rw [if_pos c_1] at hE
    refine lv_iconst (v := 0) hx hb dX9_mark_36 (by decide) ?_
    subst hE
    exact W.zret hx hb hr narrow_b0 (fun t ht hW => ⟨rfl, by rw [ht]; exact hP, hD, hS.F ht⟩) hS.2.2 dX9_mark_37
  · rw [if_neg c_1] at hE
    refine lv_lload_n hx hb dX9_mark_15 rfl (lv_at hl 2 rfl) ?_
    refine lv_ldc2 hx hb hown (hts (.constantLong RX9 117 999999999999999999) (by decide +kernel)) dX9_mark_16 ?_
    refine rd_call (va_runS (As := [.long ky, .long 999999999999999999]) (rest := []) ⟨hx, hb, hml, hown, hts⟩ (kX9_isIn l D cI cJ cZ ky 999999999999999999) (va_cwS 2 hts gX9_mark_X9_isIn rfl rfl rfl (by decide +kernel) ⟨Nat.le_of_ble_eq_true rfl, Nat.le_of_ble_eq_true rfl⟩) ⟨rP_blind, rP_pre (va_P_nil) hK hN⟩ rfl rfl hl.1 rfl (lv_room (Nat.le_of_ble_eq_true rfl)) dX9_mark_19 ⟨Nat.zero_le _, Nat.zero_le _⟩) ?_
    refine lv_if_eq (tgt := 36) hx hb dX9_mark_22 (by decide) (fun c_2 => ?_) (fun c_2 => ?_)
    · rw [if_pos c_2] at hE
      refine lv_iconst (v := 0) hx hb dX9_mark_36 (by decide) ?_
      subst hE
      exact W.zret hx hb hr narrow_b0 (fun t ht hW => ⟨rfl, by rw [ht]; exact hP, hD, hS.F ht⟩) hS.2.2 dX9_mark_37
    · rw [if_neg c_2] at hE
      refine lv_lload hx hb dX9_mark_25 (lv_at hl 3 rfl) ?_
      refine lv_ldc2 hx hb hown (hts (.constantLong RX9 117 999999999999999999) (by decide +kernel)) dX9_mark_27 ?_
      refine rd_call (va_runS (As := [.long sw, .long 999999999999999999]) (rest := []) ⟨hx, hb, hml, hown, hts⟩ (kX9_isIn l D cI cJ cZ sw 999999999999999999) (va_cwS 2 hts gX9_mark_X9_isIn rfl rfl rfl (by decide +kernel) ⟨Nat.le_of_ble_eq_true rfl, Nat.le_of_ble_eq_true rfl⟩) ⟨rP_blind, rP_pre (va_P_nil) hK hN⟩ rfl rfl hl.1 rfl (lv_room (Nat.le_of_ble_eq_true rfl)) dX9_mark_30 ⟨Nat.zero_le _, Nat.zero_le _⟩) ?_
      refine lv_if_ne (tgt := 38) hx hb dX9_mark_33 (by decide) (fun c_3 => ?_) (fun c_3 => ?_)
      · rw [if_neg c_3] at hE
        refine lv_lload_n hx hb dX9_mark_38 rfl (lv_at hl 1 rfl) ?_
        refine lv_ldc2 hx hb hown (hts (.constantLong RX9 123 99991) (by decide +kernel)) dX9_mark_39 ?_
        refine lv_lrem hx hb dX9_mark_42 (by decide) ?_
        refine lv_lstore (lv' := [(7, .long (v - v / 99991 * 99991)), (0, .ref w0), (1, .long v), (3, .long ky), (5, .long sw)]) hx hb dX9_mark_43 hl (by decide) rfl (fun ls hl => ?_)
        refine lv_lload_n hx hb dX9_mark_45 rfl (lv_at hl 3 rfl) ?_
        refine lv_ldc2 hx hb hown (hts (.constantLong RX9 123 99991) (by decide +kernel)) dX9_mark_46 ?_
        refine lv_lrem hx hb dX9_mark_49 (by decide) ?_
        refine lv_lstore (lv' := [(9, .long (ky - ky / 99991 * 99991)), (7, .long (v - v / 99991 * 99991)), (0, .ref w0), (1, .long v), (3, .long ky), (5, .long sw)]) hx hb dX9_mark_50 hl (by decide) rfl (fun ls hl => ?_)
        refine lv_lload hx hb dX9_mark_52 (lv_at hl 1 rfl) ?_
        refine lv_ldc2 hx hb hown (hts (.constantLong RX9 125 7) (by decide +kernel)) dX9_mark_54 ?_
        refine lv_lload hx hb dX9_mark_57 (lv_at hl 0 rfl) ?_
        refine lv_lmul hx hb dX9_mark_59 ?_
        refine lv_ladd hx hb dX9_mark_60 ?_
        refine lv_lload hx hb dX9_mark_61 (lv_at hl 1 rfl) ?_
        refine lv_ldc2 hx hb hown (hts (.constantLong RX9 127 13) (by decide +kernel)) dX9_mark_63 ?_
        refine lv_lload hx hb dX9_mark_66 (lv_at hl 0 rfl) ?_
        refine lv_lmul hx hb dX9_mark_68 ?_
        refine lv_ladd hx hb dX9_mark_69 ?_
        refine lv_lconst (v := 1) hx hb dX9_mark_70 (by decide) ?_
        refine lv_ladd hx hb dX9_mark_71 ?_
        refine lv_lmul hx hb dX9_mark_72 ?_
        refine lv_ldc2 hx hb hown (hts (.constantLong RX9 129 10000) (by decide +kernel)) dX9_mark_73 ?_
        refine lv_lrem hx hb dX9_mark_76 (by decide) ?_
        refine lv_lload hx hb dX9_mark_77 (lv_at hl 5 rfl) ?_
        refine W.lcmp hx hb dX9_mark_79 ?_
        refine lv_if_ne (tgt := 87) hx hb dX9_mark_80 (by decide) (fun c_4 => ?_) (fun c_4 => ?_)
        · rw [if_neg c_4] at hE
          refine lv_iconst (v := 0) hx hb dX9_mark_87 (by decide) ?_
          subst hE
          exact W.zret hx hb hr narrow_b0 (fun t ht hW => ⟨rfl, by rw [ht]; exact hP, hD, hS.F ht⟩) hS.2.2 dX9_mark_88
        · rw [if_pos c_4] at hE
          refine lv_iconst (v := 1) hx hb dX9_mark_83 (by decide) ?_
          refine lv_goto (tgt := 88) hx hb dX9_mark_84 (by decide) ?_
          subst hE
          exact W.zret hx hb hr narrow_b1 (fun t ht hW => ⟨rfl, by rw [ht]; exact hP, hD, hS.F ht⟩) hS.2.2 dX9_mark_88
      · rw [if_pos c_3] at hE
        refine lv_iconst (v := 0) hx hb dX9_mark_36 (by decide) ?_
        subst hE
        exact W.zret hx hb hr narrow_b0 (fun t ht hW => ⟨rfl, by rw [ht]; exact hP, hD, hS.F ht⟩) hS.2.2 dX9_mark_37
def FX9_redeem (rcn : Nat) (rcp : Nat → Int32) (rrd : Nat → Int32) (rsp : Nat → Int64) (k : Int32) (w : Int32) : Int32 × Int32 × (Nat → Int32) × (Nat → Int64) := if k < 0 then (0, 0, rrd, rsp) else (if (nI rcn) ≤ k then (0, 0, rrd, rsp) else (if (FX9_isIn w.toInt64 99) = 0 then (0, 0, rrd, rsp) else (if (rrd k.toNatClampNeg) = 0 then (1, 0, upd rrd k.toNatClampNeg (vp_nar .boolean 1), vp_updL rsp w.toNatClampNeg ((rsp w.toNatClampNeg) + ((rcp k.toNatClampNeg).toInt64))) else (0, 0, rrd, rsp))))
theorem FX9_redeem_b (rcn : Nat) (rcp : Nat → Int32) (rrd : Nat → Int32) (rsp : Nat → Int64) (k : Int32) (w : Int32) : isB ((FX9_redeem rcn rcp rrd rsp k w).1) := by
  unfold FX9_redeem
  repeat' split
  all_goals first | exact isB_0 | exact isB_1
set_option maxHeartbeats 4000000 in
set_option maxRecDepth 100000 in
theorem kX9_redeem (l : Launch) (D : va_G) (cI cJ cZ : ClassId) (w0 : Nat) (a1 : Nat) (a2 : Nat) (a3 : Nat) (a4 : Nat) (a5 : Nat) (a6 : Nat) (a7 : Nat) (a8 : Nat) (a9 : Nat) (a10 : Nat) (a11 : Nat) (a12 : Nat) (a13 : Nat) (a14 : Nat) (a15 : Nat) (a16 : Nat) (a17 : Nat) (a18 : Nat) (a19 : Nat) (a20 : Nat) (a21 : Nat) (a22 : Nat) (a23 : Nat) (rdn : Nat) (rfa : Int32) (rmn : Nat) (rpn : Nat) (rre : Int32) (rrn : Nat) (rfn : Nat) (rkn : Nat) (rcn : Nat) (rcp : Nat → Int32) (rrd : Nat → Int32) (rsp : Nat → Int64) (k : Int32) (w : Int32) (sz : Nat) (hcn : rcn ≤ 1100) : Met l yX9_redeem wsX9_redeem ({ frames := 1, cells := 0, slots := 0, locals := 23 }) (mP D (tz cI cJ cZ) [.ref w0, .int k, .int w] sz [(w0, .inr (9, [.ref a1, .ref a2, .int (nI rdn), .int rfa, .int (nI rmn), .ref a3, .ref a4, .ref a5, .ref a6, .ref a7, .ref a8, .ref a9, .ref a10, .ref a11, .ref a12, .ref a13, .int (nI rpn), .int rre, .ref a14, .ref a15, .int (nI rrn), .ref a16, .int (nI rfn), .ref a17, .ref a18, .ref a19, .int (nI rkn), .ref a20, .ref a21, .int (nI rcn), .ref a22, .ref a23])), (a20, .inl (cI, 1100, .inl rcp)), (a21, .inl (cZ, 1100, .inl rrd)), (a22, .inl (cJ, 100, .inr (.inl rsp)))]) (mQ D (some (.int ((FX9_redeem rcn rcp rrd rsp k w).1))) [(w0, .inr (9, [.ref a1, .ref a2, .int (nI rdn), .int ((FX9_redeem rcn rcp rrd rsp k w).2.1), .int (nI rmn), .ref a3, .ref a4, .ref a5, .ref a6, .ref a7, .ref a8, .ref a9, .ref a10, .ref a11, .ref a12, .ref a13, .int (nI rpn), .int rre, .ref a14, .ref a15, .int (nI rrn), .ref a16, .int (nI rfn), .ref a17, .ref a18, .ref a19, .int (nI rkn), .ref a20, .ref a21, .int (nI rcn), .ref a22, .ref a23])), (a20, .inl (cI, 1100, .inl rcp)), (a21, .inl (cZ, 1100, .inl ((FX9_redeem rcn rcp rrd rsp k w).2.2.1))), (a22, .inl (cJ, 100, .inr (.inl ((FX9_redeem rcn rcp rrd rsp k w).2.2.2))))] (va_A [(w0, .inr (9, [.ref a1, .ref a2, .int (nI rdn), .int rfa, .int (nI rmn), .ref a3, .ref a4, .ref a5, .ref a6, .ref a7, .ref a8, .ref a9, .ref a10, .ref a11, .ref a12, .ref a13, .int (nI rpn), .int rre, .ref a14, .ref a15, .int (nI rrn), .ref a16, .int (nI rfn), .ref a17, .ref a18, .ref a19, .int (nI rkn), .ref a20, .ref a21, .int (nI rcn), .ref a22, .ref a23])), (a20, .inl (cI, 1100, .inl rcp)), (a21, .inl (cZ, 1100, .inl rrd)), (a22, .inl (cJ, 100, .inr (.inl rsp)))] sz)) 0 0 (va_A [(w0, .inr (9, [.ref a1, .ref a2, .int (nI rdn), .int rfa, .int (nI rmn), .ref a3, .ref a4, .ref a5, .ref a6, .ref a7, .ref a8, .ref a9, .ref a10, .ref a11, .ref a12, .ref a13, .int (nI rpn), .int rre, .ref a14, .ref a15, .int (nI rrn), .ref a16, .int (nI rfn), .ref a17, .ref a18, .ref a19, .int (nI rkn), .ref a20, .ref a21, .int (nI rcn), .ref a22, .ref a23])), (a20, .inl (cI, 1100, .inl rcp)), (a21, .inl (cZ, 1100, .inl rrd)), (a22, .inl (cJ, 100, .inr (.inl rsp)))] sz) := by
  refine Met.ofW (cc := cX9_redeem) (maxL := 3) (ret := (some .boolean)) (by decide) rfl ?_
  intro p e s m args below meth c s₁ B hml hv
  obtain ⟨rfl, hsz, hP, hK, hD0, hN⟩ := hv
  have hx := B.exec
  have hb := B.bytes
  have hr := B.returns
  have hts := atoms_spec (ws := wsX9_redeem) B.pre
  have hown : s.vm.findClass RX9 = some m.cls := findClass_of_methodNamed B.named
  have hlocks := B.notSynchronized
  have iw_9 : ∀ w ∈ u_ws RX9 TX9 32, w ∈ wsX9_redeem := by decide +kernel
  subst hsz
  have hD := hD0.self (sz := s.heap.size)
  generalize hE : FX9_redeem rcn rcp rrd rsp k w = R0
  generalize hAe : va_A [(w0, .inr (9, [.ref a1, .ref a2, .int (nI rdn), .int rfa, .int (nI rmn), .ref a3, .ref a4, .ref a5, .ref a6, .ref a7, .ref a8, .ref a9, .ref a10, .ref a11, .ref a12, .ref a13, .int (nI rpn), .int rre, .ref a14, .ref a15, .int (nI rrn), .ref a16, .int (nI rfn), .ref a17, .ref a18, .ref a19, .int (nI rkn), .ref a20, .ref a21, .int (nI rcn), .ref a22, .ref a23])), (a20, .inl (cI, 1100, .inl rcp)), (a21, .inl (cZ, 1100, .inl rrd)), (a22, .inl (cJ, 100, .inr (.inl rsp)))] s.heap.size = A at hD ⊢
  have hA : ∀ q : Nat, s.heap.size ≤ q → A q := fun q h => by rw [← hAe]; exact Or.inr h
  have hS : va_S A s.heap s.heap [] := va_S.rf
  rw [FX9_redeem] at hE
  have hl := lv_entry ([.ref w0, .int k, .int w]) (n := 3) (Nat.le_of_ble_eq_true rfl)
  rw [lg_entry_eq]
  generalize (lg_sl ([.ref w0, .int k, .int w]) ++ List.replicate (3 - (lg_sl ([.ref w0, .int k, .int w])).length) Slot.unset).toArray = ls at hl ⊢
  have hl : lv_has ls 3 [(0, .ref w0), (1, .int k), (2, .int w)] := hl
  refine lv_aload_n hx hb dX9_redeem_0 rfl (lv_at hl 0 rfl) ?_
  refine lv_iconst (v := 0) hx hb dX9_redeem_1 (by decide) ?_
  refine va_put (D := D) (ci := 9) (v := .int 0) (ty := .int) (C := RX9) (T := TX9) (N := 32) hx hb hts iw_9 tyX9 tyX9_ok nmX9 hown hK hP hD hS 0 rfl rfl 3 (by decide) (hts (.fieldLink RX9 81 "DepositCodesModel" "fault" "I") (by decide +kernel)) (fun _ h9 => h9) rfl (by decide +kernel) rfl rfl (Nat.le_of_ble_eq_true rfl) dX9_redeem_2 (fun H locs hP hD hS => ?_)
  have hP : va_P D vwCl [(w0, .inr (9, [.ref a1, .ref a2, .int (nI rdn), .int 0, .int (nI rmn), .ref a3, .ref a4, .ref a5, .ref a6, .ref a7, .ref a8, .ref a9, .ref a10, .ref a11, .ref a12, .ref a13, .int (nI rpn), .int rre, .ref a14, .ref a15, .int (nI rrn), .ref a16, .int (nI rfn), .ref a17, .ref a18, .ref a19, .int (nI rkn), .ref a20, .ref a21, .int (nI rcn), .ref a22, .ref a23])), (a20, .inl (cI, 1100, .inl rcp)), (a21, .inl (cZ, 1100, .inl rrd)), (a22, .inl (cJ, 100, .inr (.inl rsp)))] H := hP
  have hD : va_D A [(w0, .inr (9, [.ref a1, .ref a2, .int (nI rdn), .int 0, .int (nI rmn), .ref a3, .ref a4, .ref a5, .ref a6, .ref a7, .ref a8, .ref a9, .ref a10, .ref a11, .ref a12, .ref a13, .int (nI rpn), .int rre, .ref a14, .ref a15, .int (nI rrn), .ref a16, .int (nI rfn), .ref a17, .ref a18, .ref a19, .int (nI rkn), .ref a20, .ref a21, .int (nI rcn), .ref a22, .ref a23])), (a20, .inl (cI, 1100, .inl rcp)), (a21, .inl (cZ, 1100, .inl rrd)), (a22, .inl (cJ, 100, .inr (.inl rsp)))] := hD
  refine lv_iload_n hx hb dX9_redeem_5 rfl (lv_at hl 1 rfl) ?_
  refine lv_if_lt (tgt := 37) hx hb dX9_redeem_6 (by decide) (fun c_1 => ?_) (fun c_1 => ?_)
  · rw [if_pos c_1] at hE
    refine lv_iconst (v := 0) hx hb dX9_redeem_37 (by decide) ?_
    subst hE
    exact W.zret hx hb hr narrow_b0 (fun t ht hW => ⟨rfl, by rw [ht]; exact hP, hD, hS.F ht⟩) hS.2.2 dX9_redeem_38
  · rw [if_neg c_1] at hE
    refine lv_iload_n hx hb dX9_redeem_9 rfl (lv_at hl 1 rfl) ?_
    refine lv_aload_n hx hb dX9_redeem_10 rfl (lv_at hl 0 rfl) ?_
    refine va_get (D := D) (ci := 9) (v := .int (nI rcn)) (C := RX9) (T := TX9) (N := 32) hx hb hts iw_9 hown hK hP 0 rfl rfl 29 (by decide) (hts (.fieldLink RX9 183 "DepositCodesModel" "couponCount" "I") (by decide +kernel)) (fun _ h9 => h9) rfl dX9_redeem_11 ?_
    refine lv_icmp_ge (tgt := 37) hx hb dX9_redeem_14 (by decide) (fun c_2 => ?_) (fun c_2 => ?_)
    · rw [if_pos c_2] at hE
      refine lv_iconst (v := 0) hx hb dX9_redeem_37 (by decide) ?_
      subst hE
      exact W.zret hx hb hr narrow_b0 (fun t ht hW => ⟨rfl, by rw [ht]; exact hP, hD, hS.F ht⟩) hS.2.2 dX9_redeem_38
    · rw [if_neg c_2] at hE
      refine lv_iload_n hx hb dX9_redeem_17 rfl (lv_at hl 2 rfl) ?_
      refine lv_i2l hx hb dX9_redeem_18 rfl ?_
      refine lv_ldc2 hx hb hown (hts (.constantLong RX9 186 99) (by decide +kernel)) dX9_redeem_19 ?_
      refine rd_call (va_runS (As := [.long w.toInt64, .long 99]) (rest := []) ⟨hx, hb, hml, hown, hts⟩ (kX9_isIn l D cI cJ cZ w.toInt64 99) (va_cwS 2 hts gX9_redeem_X9_isIn rfl rfl rfl (by decide +kernel) ⟨Nat.le_of_ble_eq_true rfl, Nat.le_of_ble_eq_true rfl⟩) ⟨rP_blind, rP_pre (va_P_nil) hK hN⟩ rfl rfl hl.1 rfl (lv_room (Nat.le_of_ble_eq_true rfl)) dX9_redeem_22 ⟨Nat.zero_le _, Nat.zero_le _⟩) ?_
      refine lv_if_eq (tgt := 37) hx hb dX9_redeem_25 (by decide) (fun c_3 => ?_) (fun c_3 => ?_)
      · rw [if_pos c_3] at hE
        refine lv_iconst (v := 0) hx hb dX9_redeem_37 (by decide) ?_
        subst hE
        exact W.zret hx hb hr narrow_b0 (fun t ht hW => ⟨rfl, by rw [ht]; exact hP, hD, hS.F ht⟩) hS.2.2 dX9_redeem_38
      · rw [if_neg c_3] at hE
        have hin : vp_in k 1100 := nle_in (n := rcn) (by assumption) (by assumption) hcn (by decide)
        have hin2 : vp_in w 100 := isIn_in (K := 99) (by assumption) (by decide)
        refine lv_aload_n hx hb dX9_redeem_28 rfl (lv_at hl 0 rfl) ?_
        refine va_get (D := D) (ci := 9) (v := .ref a21) (C := RX9) (T := TX9) (N := 32) hx hb hts iw_9 hown hK hP 0 rfl rfl 28 (by decide) (hts (.fieldLink RX9 72 "DepositCodesModel" "redeemed" "[Z") (by decide +kernel)) (fun _ h9 => h9) rfl dX9_redeem_29 ?_
        refine lv_iload_n hx hb dX9_redeem_32 rfl (lv_at hl 1 rfl) ?_
        refine va_zald hx hb hK hP 2 2 rfl rfl (by assumption) dX9_redeem_33 ?_
        refine lv_if_eq (tgt := 39) hx hb dX9_redeem_34 (by decide) (fun c_4 => ?_) (fun c_4 => ?_)
        · rw [if_pos c_4] at hE
          refine lv_aload_n hx hb dX9_redeem_39 rfl (lv_at hl 0 rfl) ?_
          refine va_get (D := D) (ci := 9) (v := .ref a21) (C := RX9) (T := TX9) (N := 32) hx hb hts iw_9 hown hK hP 0 rfl rfl 28 (by decide) (hts (.fieldLink RX9 72 "DepositCodesModel" "redeemed" "[Z") (by decide +kernel)) (fun _ h9 => h9) rfl dX9_redeem_40 ?_
          refine lv_iload_n hx hb dX9_redeem_43 rfl (lv_at hl 1 rfl) ?_
          refine lv_iconst (v := 1) hx hb dX9_redeem_44 (by decide) ?_
          refine va_zast hx hb hK hP hD hS 2 2 rfl rfl (by assumption) dX9_redeem_45 (fun H locs hP hD hS => ?_)
          have hP : va_P D vwCl [(w0, .inr (9, [.ref a1, .ref a2, .int (nI rdn), .int 0, .int (nI rmn), .ref a3, .ref a4, .ref a5, .ref a6, .ref a7, .ref a8, .ref a9, .ref a10, .ref a11, .ref a12, .ref a13, .int (nI rpn), .int rre, .ref a14, .ref a15, .int (nI rrn), .ref a16, .int (nI rfn), .ref a17, .ref a18, .ref a19, .int (nI rkn), .ref a20, .ref a21, .int (nI rcn), .ref a22, .ref a23])), (a20, .inl (cI, 1100, .inl rcp)), (a21, .inl (cZ, 1100, .inl (upd rrd k.toNatClampNeg (vp_nar .boolean 1)))), (a22, .inl (cJ, 100, .inr (.inl rsp)))] H := hP
          have hD : va_D A [(w0, .inr (9, [.ref a1, .ref a2, .int (nI rdn), .int 0, .int (nI rmn), .ref a3, .ref a4, .ref a5, .ref a6, .ref a7, .ref a8, .ref a9, .ref a10, .ref a11, .ref a12, .ref a13, .int (nI rpn), .int rre, .ref a14, .ref a15, .int (nI rrn), .ref a16, .int (nI rfn), .ref a17, .ref a18, .ref a19, .int (nI rkn), .ref a20, .ref a21, .int (nI rcn), .ref a22, .ref a23])), (a20, .inl (cI, 1100, .inl rcp)), (a21, .inl (cZ, 1100, .inl (upd rrd k.toNatClampNeg (vp_nar .boolean 1)))), (a22, .inl (cJ, 100, .inr (.inl rsp)))] := hD
          refine lv_aload_n hx hb dX9_redeem_46 rfl (lv_at hl 0 rfl) ?_
          refine va_get (D := D) (ci := 9) (v := .ref a22) (C := RX9) (T := TX9) (N := 32) hx hb hts iw_9 hown hK hP 0 rfl rfl 30 (by decide) (hts (.fieldLink RX9 75 "DepositCodesModel" "shops" "[J") (by decide +kernel)) (fun _ h9 => h9) rfl dX9_redeem_47 ?_
          refine lv_iload_n hx hb dX9_redeem_50 rfl (lv_at hl 2 rfl) ?_
          refine lv_dup2_11 hx hb dX9_redeem_51 rfl rfl ?_
          refine va_lald hx hb hK hP 3 1 rfl rfl (by assumption) dX9_redeem_52 ?_
          refine lv_aload_n hx hb dX9_redeem_53 rfl (lv_at hl 0 rfl) ?_
          refine va_get (D := D) (ci := 9) (v := .ref a20) (C := RX9) (T := TX9) (N := 32) hx hb hts iw_9 hown hK hP 0 rfl rfl 27 (by decide) (hts (.fieldLink RX9 69 "DepositCodesModel" "coupons" "[I") (by decide +kernel)) (fun _ h9 => h9) rfl dX9_redeem_54 ?_
          refine lv_iload_n hx hb dX9_redeem_57 rfl (lv_at hl 1 rfl) ?_
          refine va_iald hx hb hK hP 1 0 rfl rfl (by assumption) dX9_redeem_58 ?_
          refine lv_i2l hx hb dX9_redeem_59 rfl ?_
          refine lv_ladd hx hb dX9_redeem_60 ?_
          refine va_last hx hb hK hP hD hS 3 1 rfl rfl (by assumption) dX9_redeem_61 (fun H locs hP hD hS => ?_)
          have hP : va_P D vwCl [(w0, .inr (9, [.ref a1, .ref a2, .int (nI rdn), .int 0, .int (nI rmn), .ref a3, .ref a4, .ref a5, .ref a6, .ref a7, .ref a8, .ref a9, .ref a10, .ref a11, .ref a12, .ref a13, .int (nI rpn), .int rre, .ref a14, .ref a15, .int (nI rrn), .ref a16, .int (nI rfn), .ref a17, .ref a18, .ref a19, .int (nI rkn), .ref a20, .ref a21, .int (nI rcn), .ref a22, .ref a23])), (a20, .inl (cI, 1100, .inl rcp)), (a21, .inl (cZ, 1100, .inl (upd rrd k.toNatClampNeg (vp_nar .boolean 1)))), (a22, .inl (cJ, 100, .inr (.inl (vp_updL rsp w.toNatClampNeg ((rsp w.toNatClampNeg) + ((rcp k.toNatClampNeg).toInt64))))))] H := hP
          have hD : va_D A [(w0, .inr (9, [.ref a1, .ref a2, .int (nI rdn), .int 0, .int (nI rmn), .ref a3, .ref a4, .ref a5, .ref a6, .ref a7, .ref a8, .ref a9, .ref a10, .ref a11, .ref a12, .ref a13, .int (nI rpn), .int rre, .ref a14, .ref a15, .int (nI rrn), .ref a16, .int (nI rfn), .ref a17, .ref a18, .ref a19, .int (nI rkn), .ref a20, .ref a21, .int (nI rcn), .ref a22, .ref a23])), (a20, .inl (cI, 1100, .inl rcp)), (a21, .inl (cZ, 1100, .inl (upd rrd k.toNatClampNeg (vp_nar .boolean 1)))), (a22, .inl (cJ, 100, .inr (.inl (vp_updL rsp w.toNatClampNeg ((rsp w.toNatClampNeg) + ((rcp k.toNatClampNeg).toInt64))))))] := hD
          refine lv_iconst (v := 1) hx hb dX9_redeem_62 (by decide) ?_
          subst hE
          exact W.zret hx hb hr narrow_b1 (fun t ht hW => ⟨rfl, by rw [ht]; exact hP, hD, hS.F ht⟩) hS.2.2 dX9_redeem_63
        · rw [if_neg c_4] at hE
          refine lv_iconst (v := 0) hx hb dX9_redeem_37 (by decide) ?_
          subst hE
          exact W.zret hx hb hr narrow_b0 (fun t ht hW => ⟨rfl, by rw [ht]; exact hP, hD, hS.F ht⟩) hS.2.2 dX9_redeem_38
