def FX5_checkDigit_l8 (kd : Int32) : Nat → Nat → Int32 → Int64 → Int32
  | 0, _, _, _ => 0
  | n + 1, k, sm, r => if 18 ≤ k then (10 - (sm - sm / 10 * 10)) - (10 - (sm - sm / 10 * 10)) / 10 * 10 else (if (k % 2) = 0 then FX5_checkDigit_l8 kd n (k + 1) (sm + (FX5_weighed kd ((r - r / 10 * 10).toInt32))) (r / 10) else FX5_checkDigit_l8 kd n (k + 1) (sm + ((r - r / 10 * 10).toInt32)) (r / 10))
def FX5_checkDigit (kd : Int32) (v : Int64) : Int32 := FX5_checkDigit_l8 kd 19 0 0 v
set_option maxHeartbeats 4000000 in
set_option maxRecDepth 100000 in
theorem kX5_checkDigit (l : Launch) (D : va_G) (cI cJ cZ : ClassId) (kd : Int32) (v : Int64) : Met l yX5_checkDigit wsX5_checkDigit ({ frames := 1, cells := 0, slots := 0, locals := 21 }) (rP D (tz cI cJ cZ) [.int kd, .long v] []) (k2_QcV (.int (FX5_checkDigit kd v))) 0 0 (fun _ => False) := by
  refine Met.ofW (cc := cX5_checkDigit) (maxL := 8) (ret := (some .int)) (by decide) rfl ?_
  intro p e s m args below meth c s₁ B hml hv
  obtain ⟨rfl, hP, hK, hN⟩ := hv
  have hx := B.exec
  have hb := B.bytes
  have hr := B.returns
  have hts := atoms_spec (ws := wsX5_checkDigit) B.pre
  have hown : s.vm.findClass RX5 = some m.cls := findClass_of_methodNamed B.named
  have hlocks := B.notSynchronized
  generalize hE : FX5_checkDigit kd v = R0
  rw [FX5_checkDigit] at hE
  have hl := lv_entry ([.int kd, .long v]) (n := 8) (Nat.le_of_ble_eq_true rfl)
  rw [lg_entry_eq]
  generalize (lg_sl ([.int kd, .long v]) ++ List.replicate (8 - (lg_sl ([.int kd, .long v])).length) Slot.unset).toArray = ls at hl ⊢
  have hl : lv_has ls 8 [(0, .int kd), (1, .long v)] := hl
  have loop_8 : ∀ (n : Nat) (k : Nat) (sm : Int32) (r : Int64), k ≤ 18 → k + n = 19 → FX5_checkDigit_l8 kd n k sm r = R0 → ∀ ls : Array Slot, lv_has ls 8 [(6, .int (nI k)), (4, .long r), (3, .int sm), (0, .int kd), (1, .long v)] → W p l e (headSpec wsX5_checkDigit ({ frames := 1, cells := 0, slots := 0, locals := 21 })).room s m ([.int kd, .long v] : List Value).toArray below meth c s.heap [] 0 0 (MQ below (k2_QcV (.int R0)) ([.int kd, .long v] : List Value).toArray s 0 0 (fun _ => False)) (F0 m 8 ls []) := by
    intro n
    induction n with
    | zero =>
      intro k sm r i_1 i_2
      exact absurd i_1 (by omega)
    | succ n ih =>
      intro k sm r i_1 i_2 hE ls hl
      rw [FX5_checkDigit_l8] at hE
      refine lv_iload hx hb dX5_checkDigit_8 (lv_at hl 0 rfl) ?_
      refine lv_bipush (v := 18) hx hb dX5_checkDigit_10 (by decide) ?_
      refine lv_icmp_ge (tgt := 59) hx hb dX5_checkDigit_12 (by decide) (fun c_1 => ?_) (fun c_1 => ?_)
      · have c_1 : 18 ≤ k := (nI_leI (a := 18) (b := k) (by omega) (by omega)).mp c_1
        rw [if_pos c_1] at hE
        refine lv_bipush (v := 10) hx hb dX5_checkDigit_59 (by decide) ?_
        refine lv_iload_n hx hb dX5_checkDigit_61 rfl (lv_at hl 2 rfl) ?_
        refine lv_bipush (v := 10) hx hb dX5_checkDigit_62 (by decide) ?_
        refine lv_irem hx hb dX5_checkDigit_64 (by decide) ?_
        refine lv_isub hx hb dX5_checkDigit_65 ?_
        refine lv_bipush (v := 10) hx hb dX5_checkDigit_66 (by decide) ?_
        refine lv_irem hx hb dX5_checkDigit_68 (by decide) ?_
        exact W.iret hx hb hr (fun t ht hW => ⟨by rw [← hE], ht⟩) (fun q h => absurd h List.not_mem_nil) dX5_checkDigit_69
      · have c_1 : ¬ 18 ≤ k := fun h9 => c_1 ((nI_leI (a := 18) (b := k) (by omega) (by omega)).mpr h9)
        rw [if_neg c_1] at hE
        refine lv_lload hx hb dX5_checkDigit_15 (lv_at hl 1 rfl) ?_
        refine lv_ldc2 hx hb hown (hts (.constantLong RX5 17 10) (by decide +kernel)) dX5_checkDigit_17 ?_
        refine lv_lrem hx hb dX5_checkDigit_20 (by decide) ?_
        refine lv_l2i hx hb dX5_checkDigit_21 rfl ?_
        refine lv_istore (lv' := [(7, .int ((r - r / 10 * 10).toInt32)), (6, .int (nI k)), (4, .long r), (3, .int sm), (0, .int kd), (1, .long v)]) hx hb dX5_checkDigit_22 hl (by decide) rfl (fun ls hl => ?_)
        refine lv_iload_n hx hb dX5_checkDigit_24 rfl (lv_at hl 3 rfl) ?_
        refine lv_iload hx hb dX5_checkDigit_25 (lv_at hl 1 rfl) ?_
        refine lv_iconst (v := 2) hx hb dX5_checkDigit_27 (by decide) ?_
        refine lv_irem hx hb dX5_checkDigit_28 (by decide) ?_
        refine na_top (show (nI k) - (nI k) / 2 * 2 = nI (k % 2) from pk_rem (a := k) (d := 2) (by omega) (by decide) (by decide)) ?_
        refine lv_if_ne (tgt := 41) hx hb dX5_checkDigit_29 (by decide) (fun c_2 => ?_) (fun c_2 => ?_)
        · have c_2 : ¬ (k % 2) = 0 := fun h9 => c_2 ((nI_eq (a := (k % 2)) (b := 0) (by omega) (by omega)).mpr h9)
          rw [if_neg c_2] at hE
          refine lv_iload hx hb dX5_checkDigit_41 (lv_at hl 0 rfl) ?_
          refine lv_iadd hx hb dX5_checkDigit_43 ?_
          refine lv_istore_n (lv' := [(3, .int (sm + ((r - r / 10 * 10).toInt32))), (7, .int ((r - r / 10 * 10).toInt32)), (6, .int (nI k)), (4, .long r), (0, .int kd), (1, .long v)]) hx hb dX5_checkDigit_44 rfl hl (by decide) rfl (fun ls hl => ?_)
          refine lv_lload hx hb dX5_checkDigit_45 (lv_at hl 3 rfl) ?_
          refine lv_ldc2 hx hb hown (hts (.constantLong RX5 17 10) (by decide +kernel)) dX5_checkDigit_47 ?_
          refine lv_ldiv hx hb dX5_checkDigit_50 (by decide) ?_
          refine lv_lstore (lv' := [(4, .long (r / 10)), (3, .int (sm + ((r - r / 10 * 10).toInt32))), (7, .int ((r - r / 10 * 10).toInt32)), (6, .int (nI k)), (0, .int kd), (1, .long v)]) hx hb dX5_checkDigit_51 hl (by decide) rfl (fun ls hl => ?_)
          refine lv_iinc (v := nI (k + 1)) (lv' := [(6, .int (nI (k + 1))), (4, .long (r / 10)), (3, .int (sm + ((r - r / 10 * 10).toInt32))), (7, .int ((r - r / 10 * 10).toInt32)), (0, .int kd), (1, .long v)]) hx hb dX5_checkDigit_53 hl (k := 3) rfl (nI_1 k) (by decide) rfl (fun ls hl => ?_)
          refine lv_goto (tgt := 8) hx hb dX5_checkDigit_56 (by decide) ?_
          exact ih (k + 1) (sm + ((r - r / 10 * 10).toInt32)) (r / 10) (by omega) (by omega) hE ls (lv_sub hl [0, 1, 2, 4, 5] rfl)
        · have c_2 : (k % 2) = 0 := (nI_eq (a := (k % 2)) (b := 0) (by omega) (by omega)).mp c_2
          rw [if_pos c_2] at hE
          refine lv_iload_n hx hb dX5_checkDigit_32 rfl (lv_at hl 4 rfl) ?_
          refine lv_iload hx hb dX5_checkDigit_33 (lv_at hl 0 rfl) ?_
          refine rd_call (va_runS (As := [.int kd, .int ((r - r / 10 * 10).toInt32)]) (rest := [.int sm]) ⟨hx, hb, hml, hown, hts⟩ (kX5_weighed l D cI cJ cZ kd ((r - r / 10 * 10).toInt32)) (va_cwS 2 hts gX5_checkDigit_X5_weighed rfl rfl rfl (by decide +kernel) ⟨Nat.le_of_ble_eq_true rfl, Nat.le_of_ble_eq_true rfl⟩) ⟨rP_blind, rP_pre (va_P_nil) hK hN⟩ rfl rfl hl.1 rfl (lv_room (Nat.le_of_ble_eq_true rfl)) dX5_checkDigit_35 ⟨Nat.zero_le _, Nat.zero_le _⟩) ?_
          refine lv_goto (tgt := 43) hx hb dX5_checkDigit_38 (by decide) ?_
          refine lv_iadd hx hb dX5_checkDigit_43 ?_
          refine lv_istore_n (lv' := [(3, .int (sm + (FX5_weighed kd ((r - r / 10 * 10).toInt32)))), (7, .int ((r - r / 10 * 10).toInt32)), (6, .int (nI k)), (4, .long r), (0, .int kd), (1, .long v)]) hx hb dX5_checkDigit_44 rfl hl (by decide) rfl (fun ls hl => ?_)
          refine lv_lload hx hb dX5_checkDigit_45 (lv_at hl 3 rfl) ?_
          refine lv_ldc2 hx hb hown (hts (.constantLong RX5 17 10) (by decide +kernel)) dX5_checkDigit_47 ?_
          refine lv_ldiv hx hb dX5_checkDigit_50 (by decide) ?_
          refine lv_lstore (lv' := [(4, .long (r / 10)), (3, .int (sm + (FX5_weighed kd ((r - r / 10 * 10).toInt32)))), (7, .int ((r - r / 10 * 10).toInt32)), (6, .int (nI k)), (0, .int kd), (1, .long v)]) hx hb dX5_checkDigit_51 hl (by decide) rfl (fun ls hl => ?_)
          refine lv_iinc (v := nI (k + 1)) (lv' := [(6, .int (nI (k + 1))), (4, .long (r / 10)), (3, .int (sm + (FX5_weighed kd ((r - r / 10 * 10).toInt32)))), (7, .int ((r - r / 10 * 10).toInt32)), (0, .int kd), (1, .long v)]) hx hb dX5_checkDigit_53 hl (k := 3) rfl (nI_1 k) (by decide) rfl (fun ls hl => ?_)
          refine lv_goto (tgt := 8) hx hb dX5_checkDigit_56 (by decide) ?_
          exact ih (k + 1) (sm + (FX5_weighed kd ((r - r / 10 * 10).toInt32))) (r / 10) (by omega) (by omega) hE ls (lv_sub hl [0, 1, 2, 4, 5] rfl)
  refine lv_iconst (v := 0) hx hb dX5_checkDigit_0 (by decide) ?_
  refine lv_istore_n (lv' := [(3, .int 0), (0, .int kd), (1, .long v)]) hx hb dX5_checkDigit_1 rfl hl (by decide) rfl (fun ls hl => ?_)
  refine lv_lload_n hx hb dX5_checkDigit_2 rfl (lv_at hl 2 rfl) ?_
  refine lv_lstore (lv' := [(4, .long v), (3, .int 0), (0, .int kd), (1, .long v)]) hx hb dX5_checkDigit_3 hl (by decide) rfl (fun ls hl => ?_)
  refine lv_iconst (v := 0) hx hb dX5_checkDigit_5 (by decide) ?_
  refine lv_istore (lv' := [(6, .int 0), (4, .long v), (3, .int 0), (0, .int kd), (1, .long v)]) hx hb dX5_checkDigit_6 hl (by decide) rfl (fun ls hl => ?_)
  exact loop_8 19 0 0 v (by omega) (by omega) hE ls (lv_sub hl [0, 1, 2, 3, 4] rfl)
def FX5_isGood (kd : Int32) (v : Int64) : Int32 := if (lg_cmp (v - v / 10 * 10) ((FX5_checkDigit kd (v / 10)).toInt64)) = 0 then 1 else 0
theorem FX5_isGood_b (kd : Int32) (v : Int64) : isB (FX5_isGood kd v) := by
  unfold FX5_isGood
  repeat' split
  all_goals first | exact isB_0 | exact isB_1
set_option maxHeartbeats 4000000 in
set_option maxRecDepth 100000 in
theorem kX5_isGood (l : Launch) (D : va_G) (cI cJ cZ : ClassId) (kd : Int32) (v : Int64) : Met l yX5_isGood wsX5_isGood ({ frames := 2, cells := 0, slots := 0, locals := 48 }) (rP D (tz cI cJ cZ) [.int kd, .long v] []) (k2_QcV (.int (FX5_isGood kd v))) 0 0 (fun _ => False) := by
  refine Met.ofW (cc := cX5_isGood) (maxL := 3) (ret := (some .boolean)) (by decide) rfl ?_
  intro p e s m args below meth c s₁ B hml hv
  obtain ⟨rfl, hP, hK, hN⟩ := hv
  have hx := B.exec
  have hb := B.bytes
  have hr := B.returns
  have hts := atoms_spec (ws := wsX5_isGood) B.pre
  have hown : s.vm.findClass RX5 = some m.cls := findClass_of_methodNamed B.named
  have hlocks := B.notSynchronized
  generalize hE : FX5_isGood kd v = R0
  rw [FX5_isGood] at hE
  have hl := lv_entry ([.int kd, .long v]) (n := 3) (Nat.le_of_ble_eq_true rfl)
  rw [lg_entry_eq]
  generalize (lg_sl ([.int kd, .long v]) ++ List.replicate (3 - (lg_sl ([.int kd, .long v])).length) Slot.unset).toArray = ls at hl ⊢
  have hl : lv_has ls 3 [(0, .int kd), (1, .long v)] := hl
  refine lv_lload_n hx hb dX5_isGood_0 rfl (lv_at hl 1 rfl) ?_
  refine lv_ldc2 hx hb hown (hts (.constantLong RX5 17 10) (by decide +kernel)) dX5_isGood_1 ?_
  refine lv_lrem hx hb dX5_isGood_4 (by decide) ?_
  refine lv_iload_n hx hb dX5_isGood_5 rfl (lv_at hl 0 rfl) ?_
  refine lv_lload_n hx hb dX5_isGood_6 rfl (lv_at hl 1 rfl) ?_
  refine lv_ldc2 hx hb hown (hts (.constantLong RX5 17 10) (by decide +kernel)) dX5_isGood_7 ?_
  refine lv_ldiv hx hb dX5_isGood_10 (by decide) ?_
  refine rd_call (va_runS (As := [.int kd, .long (v / 10)]) (rest := [.long (v - v / 10 * 10)]) ⟨hx, hb, hml, hown, hts⟩ (kX5_checkDigit l D cI cJ cZ kd (v / 10)) (va_cwS 2 hts gX5_isGood_X5_checkDigit rfl rfl rfl (by decide +kernel) ⟨Nat.le_of_ble_eq_true rfl, Nat.le_of_ble_eq_true rfl⟩) ⟨rP_blind, rP_pre (va_P_nil) hK hN⟩ rfl rfl hl.1 rfl (lv_room (Nat.le_of_ble_eq_true rfl)) dX5_isGood_11 ⟨Nat.zero_le _, Nat.zero_le _⟩) ?_
  refine lv_i2l hx hb dX5_isGood_14 rfl ?_
  refine W.lcmp hx hb dX5_isGood_15 ?_
  refine lv_if_ne (tgt := 23) hx hb dX5_isGood_16 (by decide) (fun c_1 => ?_) (fun c_1 => ?_)
  · rw [if_neg c_1] at hE
    refine lv_iconst (v := 0) hx hb dX5_isGood_23 (by decide) ?_
    exact W.zret hx hb hr narrow_b0 (fun t ht hW => ⟨by rw [← hE], ht⟩) (fun q h => absurd h List.not_mem_nil) dX5_isGood_24
  · rw [if_pos c_1] at hE
    refine lv_iconst (v := 1) hx hb dX5_isGood_19 (by decide) ?_
    refine lv_goto (tgt := 24) hx hb dX5_isGood_20 (by decide) ?_
    exact W.zret hx hb hr narrow_b1 (fun t ht hW => ⟨by rw [← hE], ht⟩) (fun q h => absurd h List.not_mem_nil) dX5_isGood_24
def FX5_decimals_l8 : Nat → Nat → Int64 → Int32
  | 0, _, _ => 0
  | n + 1, k, r => if (lg_cmp r 0) ≤ 0 then nI k else (if 18 ≤ k then nI k else FX5_decimals_l8 n (k + 1) (r / 10))
def FX5_decimals (v : Int64) : Int32 := FX5_decimals_l8 18 1 (v / 10)
set_option maxHeartbeats 4000000 in
set_option maxRecDepth 100000 in
theorem kX5_decimals (l : Launch) (D : va_G) (cI cJ cZ : ClassId) (v : Int64) : Met l yX5_decimals wsX5_decimals ({ frames := 0, cells := 0, slots := 0, locals := 0 }) (rP D (tz cI cJ cZ) [.long v] []) (k2_QcV (.int (FX5_decimals v))) 0 0 (fun _ => False) := by
  refine Met.ofW (cc := cX5_decimals) (maxL := 5) (ret := (some .int)) (by decide) rfl ?_
  intro p e s m args below meth c s₁ B hml hv
  obtain ⟨rfl, hP, hK, hN⟩ := hv
  have hx := B.exec
  have hb := B.bytes
  have hr := B.returns
  have hts := atoms_spec (ws := wsX5_decimals) B.pre
  have hown : s.vm.findClass RX5 = some m.cls := findClass_of_methodNamed B.named
  have hlocks := B.notSynchronized
  generalize hE : FX5_decimals v = R0
  rw [FX5_decimals] at hE
  have hl := lv_entry ([.long v]) (n := 5) (Nat.le_of_ble_eq_true rfl)
  rw [lg_entry_eq]
  generalize (lg_sl ([.long v]) ++ List.replicate (5 - (lg_sl ([.long v])).length) Slot.unset).toArray = ls at hl ⊢
  have hl : lv_has ls 5 [(0, .long v)] := hl
  have loop_8 : ∀ (n : Nat) (k : Nat) (r : Int64), k ≤ 18 → k + n = 19 → FX5_decimals_l8 n k r = R0 → ∀ ls : Array Slot, lv_has ls 5 [(3, .long r), (2, .int (nI k)), (0, .long v)] → W p l e (headSpec wsX5_decimals ({ frames := 0, cells := 0, slots := 0, locals := 0 })).room s m ([.long v] : List Value).toArray below meth c s.heap [] 0 0 (MQ below (k2_QcV (.int R0)) ([.long v] : List Value).toArray s 0 0 (fun _ => False)) (F0 m 8 ls []) := by
    intro n
    induction n with
    | zero =>
      intro k r i_1 i_2
      exact absurd i_1 (by omega)
    | succ n ih =>
      intro k r i_1 i_2 hE ls hl
      rw [FX5_decimals_l8] at hE
      refine lv_lload_n hx hb dX5_decimals_8 rfl (lv_at hl 0 rfl) ?_
      refine lv_lconst (v := 0) hx hb dX5_decimals_9 (by decide) ?_
      refine W.lcmp hx hb dX5_decimals_10 ?_
      refine lv_if_le (tgt := 32) hx hb dX5_decimals_11 (by decide) (fun c_1 => ?_) (fun c_1 => ?_)
      · rw [if_pos c_1] at hE
        refine lv_iload_n hx hb dX5_decimals_32 rfl (lv_at hl 1 rfl) ?_
        exact W.iret hx hb hr (fun t ht hW => ⟨by rw [← hE], ht⟩) (fun q h => absurd h List.not_mem_nil) dX5_decimals_33
      · rw [if_neg c_1] at hE
        refine lv_iload_n hx hb dX5_decimals_14 rfl (lv_at hl 1 rfl) ?_
        refine lv_bipush (v := 18) hx hb dX5_decimals_15 (by decide) ?_
        refine lv_icmp_ge (tgt := 32) hx hb dX5_decimals_17 (by decide) (fun c_2 => ?_) (fun c_2 => ?_)
        · have c_2 : 18 ≤ k := (nI_leI (a := 18) (b := k) (by omega) (by omega)).mp c_2
          rw [if_pos c_2] at hE
          refine lv_iload_n hx hb dX5_decimals_32 rfl (lv_at hl 1 rfl) ?_
          exact W.iret hx hb hr (fun t ht hW => ⟨by rw [← hE], ht⟩) (fun q h => absurd h List.not_mem_nil) dX5_decimals_33
        · have c_2 : ¬ 18 ≤ k := fun h9 => c_2 ((nI_leI (a := 18) (b := k) (by omega) (by omega)).mpr h9)
          rw [if_neg c_2] at hE
          refine lv_iinc (v := nI (k + 1)) (lv' := [(2, .int (nI (k + 1))), (3, .long r), (0, .long v)]) hx hb dX5_decimals_20 hl (k := 1) rfl (nI_1 k) (by decide) rfl (fun ls hl => ?_)
          refine lv_lload_n hx hb dX5_decimals_23 rfl (lv_at hl 1 rfl) ?_
          refine lv_ldc2 hx hb hown (hts (.constantLong RX5 17 10) (by decide +kernel)) dX5_decimals_24 ?_
          refine lv_ldiv hx hb dX5_decimals_27 (by decide) ?_
          refine lv_lstore_n (lv' := [(3, .long (r / 10)), (2, .int (nI (k + 1))), (0, .long v)]) hx hb dX5_decimals_28 rfl hl (by decide) rfl (fun ls hl => ?_)
          refine lv_goto (tgt := 8) hx hb dX5_decimals_29 (by decide) ?_
          exact ih (k + 1) (r / 10) (by omega) (by omega) hE ls (lv_sub hl [0, 1, 2] rfl)
  refine lv_iconst (v := 1) hx hb dX5_decimals_0 (by decide) ?_
  refine lv_istore_n (lv' := [(2, .int 1), (0, .long v)]) hx hb dX5_decimals_1 rfl hl (by decide) rfl (fun ls hl => ?_)
  refine lv_lload_n hx hb dX5_decimals_2 rfl (lv_at hl 1 rfl) ?_
  refine lv_ldc2 hx hb hown (hts (.constantLong RX5 17 10) (by decide +kernel)) dX5_decimals_3 ?_
  refine lv_ldiv hx hb dX5_decimals_6 (by decide) ?_
  refine lv_lstore_n (lv' := [(3, .long (v / 10)), (2, .int 1), (0, .long v)]) hx hb dX5_decimals_7 rfl hl (by decide) rfl (fun ls hl => ?_)
  exact loop_8 18 1 (v / 10) (by omega) (by omega) hE ls (lv_sub hl [0, 1, 2] rfl)
theorem FX5_decimals_l8_le (n : Nat) : ∀ (k : Nat) (r : Int64), 1 ≤ k → k ≤ 18 → k + n = 19 → ∃ j : Nat, 1 ≤ j ∧ j ≤ 18 ∧ FX5_decimals_l8 n k r = nI j := by
  induction n with
  | zero => intro k r h0 h1 h2; omega
  | succ n ih =>
    intro k r h0 h1 h2
    rw [FX5_decimals_l8]
    split
    · exact ⟨k, h0, h1, rfl⟩
    · split
      · exact ⟨k, h0, h1, rfl⟩
      · exact ih (k + 1) _ (by omega) (by omega) (by omega)
theorem FX5_decimals_le (v : Int64) : ∃ j : Nat, 1 ≤ j ∧ j ≤ 18 ∧ FX5_decimals v = nI j := FX5_decimals_l8_le 18 1 _ (by omega) (by omega) (by omega)
theorem beh_le {x y w : Int32} {k j : Nat} (hx : x = nI j) (hj : j ≤ 18) (hj1 : 1 ≤ j) (hw : ¬ w < 0) (hy : y = x - 1 - w) (h0 : 0 ≤ y) (hk : k ≤ 17) (h : ¬ y ≤ nI k) : k + 1 ≤ 17 := by
  subst hx
  have e1 : (nI j).toInt = (j : Int) := nI_toInt (by omega)
  have e2 : (nI k).toInt = (k : Int) := nI_toInt (by omega)
  obtain ⟨i, hi, rfl⟩ := nI_of hw
  have e3 : (nI i).toInt = (i : Int) := nI_toInt hi
  have e4 : nI j - 1 - nI i = nI (j - 1) - nI i := by rw [show (1 : Int32) = nI 1 from rfl, pk_sub (a := j) (b := 1) hj1]
  rw [e4] at hy
  have e5 : y.toInt = ((j - 1 : Nat) : Int) - i := by
    rw [hy, Int32.toInt_sub, nI_toInt (by omega), e3, Int.bmod_def]
    omega
  rw [Int32.le_iff_toInt_le, e2] at h
  omega
def FX5_decimalAt_l25 (v : Int64) (w : Int32) : Nat → Nat → Int64 → Int32
  | 0, _, _ => 0
  | n + 1, k, r => if (((FX5_decimals v) - 1) - w) ≤ (nI k) then (r - r / 10 * 10).toInt32 else FX5_decimalAt_l25 v w n (k + 1) (r / 10)
def FX5_decimalAt (v : Int64) (w : Int32) : Int32 := if w < 0 then (-1) else (if 0 ≤ (((FX5_decimals v) - 1) - w) then FX5_decimalAt_l25 v w 18 0 v else (-1))
set_option maxHeartbeats 4000000 in
set_option maxRecDepth 100000 in
theorem kX5_decimalAt (l : Launch) (D : va_G) (cI cJ cZ : ClassId) (v : Int64) (w : Int32) : Met l yX5_decimalAt wsX5_decimalAt ({ frames := 1, cells := 0, slots := 0, locals := 24 }) (rP D (tz cI cJ cZ) [.long v, .int w] []) (k2_QcV (.int (FX5_decimalAt v w))) 0 0 (fun _ => False) := by
  refine Met.ofW (cc := cX5_decimalAt) (maxL := 7) (ret := (some .int)) (by decide) rfl ?_
  intro p e s m args below meth c s₁ B hml hv
  obtain ⟨rfl, hP, hK, hN⟩ := hv
  have hx := B.exec
  have hb := B.bytes
  have hr := B.returns
  have hts := atoms_spec (ws := wsX5_decimalAt) B.pre
  have hown : s.vm.findClass RX5 = some m.cls := findClass_of_methodNamed B.named
  have hlocks := B.notSynchronized
  generalize hE : FX5_decimalAt v w = R0
  rw [FX5_decimalAt] at hE
  have hl := lv_entry ([.long v, .int w]) (n := 7) (Nat.le_of_ble_eq_true rfl)
  rw [lg_entry_eq]
  generalize (lg_sl ([.long v, .int w]) ++ List.replicate (7 - (lg_sl ([.long v, .int w])).length) Slot.unset).toArray = ls at hl ⊢
  have hl : lv_has ls 7 [(0, .long v), (2, .int w)] := hl
  obtain ⟨j, hj1, hj2, hj3⟩ := FX5_decimals_le v
  have loop_25 : ∀ (n : Nat) (k : Nat) (r : Int64), k ≤ 17 → k + n = 18 → ¬ w < 0 → 0 ≤ FX5_decimals v - 1 - w → FX5_decimalAt_l25 v w n k r = R0 → ∀ ls : Array Slot, lv_has ls 7 [(6, .int (nI k)), (4, .long r), (3, .int (((FX5_decimals v) - 1) - w)), (0, .long v), (2, .int w)] → W p l e (headSpec wsX5_decimalAt ({ frames := 1, cells := 0, slots := 0, locals := 24 })).room s m ([.long v, .int w] : List Value).toArray below meth c s.heap [] 0 0 (MQ below (k2_QcV (.int R0)) ([.long v, .int w] : List Value).toArray s 0 0 (fun _ => False)) (F0 m 25 ls []) := by
    intro n
    induction n with
    | zero =>
      intro k r i_1 i_2 i_3 i_4
      exact absurd i_1 (by omega)
    | succ n ih =>
      intro k r i_1 i_2 i_3 i_4 hE ls hl
      rw [FX5_decimalAt_l25] at hE
      refine lv_iload hx hb dX5_decimalAt_25 (lv_at hl 0 rfl) ?_
      refine lv_iload_n hx hb dX5_decimalAt_27 rfl (lv_at hl 2 rfl) ?_
      refine lv_icmp_ge (tgt := 45) hx hb dX5_decimalAt_28 (by decide) (fun c_3 => ?_) (fun c_3 => ?_)
      · rw [if_pos c_3] at hE
        refine lv_lload hx hb dX5_decimalAt_45 (lv_at hl 1 rfl) ?_
        refine lv_ldc2 hx hb hown (hts (.constantLong RX5 17 10) (by decide +kernel)) dX5_decimalAt_47 ?_
        refine lv_lrem hx hb dX5_decimalAt_50 (by decide) ?_
        refine lv_l2i hx hb dX5_decimalAt_51 rfl ?_
        exact W.iret hx hb hr (fun t ht hW => ⟨by rw [← hE], ht⟩) (fun q h => absurd h List.not_mem_nil) dX5_decimalAt_52
      · rw [if_neg c_3] at hE
        refine lv_lload hx hb dX5_decimalAt_31 (lv_at hl 1 rfl) ?_
        refine lv_ldc2 hx hb hown (hts (.constantLong RX5 17 10) (by decide +kernel)) dX5_decimalAt_33 ?_
        refine lv_ldiv hx hb dX5_decimalAt_36 (by decide) ?_
        refine lv_lstore (lv' := [(4, .long (r / 10)), (6, .int (nI k)), (3, .int (((FX5_decimals v) - 1) - w)), (0, .long v), (2, .int w)]) hx hb dX5_decimalAt_37 hl (by decide) rfl (fun ls hl => ?_)
        refine lv_iinc (v := nI (k + 1)) (lv' := [(6, .int (nI (k + 1))), (4, .long (r / 10)), (3, .int (((FX5_decimals v) - 1) - w)), (0, .long v), (2, .int w)]) hx hb dX5_decimalAt_39 hl (k := 1) rfl (nI_1 k) (by decide) rfl (fun ls hl => ?_)
        refine lv_goto (tgt := 25) hx hb dX5_decimalAt_42 (by decide) ?_
        exact ih (k + 1) (r / 10) (beh_le hj3 hj2 hj1 i_3 rfl i_4 i_1 (by assumption)) (by omega) i_3 i_4 hE ls (lv_sub hl [0, 1, 2, 3, 4] rfl)
  refine lv_lload_n hx hb dX5_decimalAt_0 rfl (lv_at hl 0 rfl) ?_
  refine rd_call (va_runS (As := [.long v]) (rest := []) ⟨hx, hb, hml, hown, hts⟩ (kX5_decimals l D cI cJ cZ v) (va_cwS 1 hts gX5_decimalAt_X5_decimals rfl rfl rfl (by decide +kernel) ⟨Nat.le_of_ble_eq_true rfl, Nat.le_of_ble_eq_true rfl⟩) ⟨rP_blind, rP_pre (va_P_nil) hK hN⟩ rfl rfl hl.1 rfl (lv_room (Nat.le_of_ble_eq_true rfl)) dX5_decimalAt_1 ⟨Nat.zero_le _, Nat.zero_le _⟩) ?_
  refine lv_iconst (v := 1) hx hb dX5_decimalAt_4 (by decide) ?_
  refine lv_isub hx hb dX5_decimalAt_5 ?_
  refine lv_iload_n hx hb dX5_decimalAt_6 rfl (lv_at hl 1 rfl) ?_
  refine lv_isub hx hb dX5_decimalAt_7 ?_
  refine lv_istore_n (lv' := [(3, .int (((FX5_decimals v) - 1) - w)), (0, .long v), (2, .int w)]) hx hb dX5_decimalAt_8 rfl hl (by decide) rfl (fun ls hl => ?_)
  refine lv_iload_n hx hb dX5_decimalAt_9 rfl (lv_at hl 2 rfl) ?_
  refine lv_if_lt (tgt := 17) hx hb dX5_decimalAt_10 (by decide) (fun c_1 => ?_) (fun c_1 => ?_)
  · rw [if_pos c_1] at hE
    refine lv_iconst (v := (-1)) hx hb dX5_decimalAt_17 (by decide) ?_
    exact W.iret hx hb hr (fun t ht hW => ⟨by rw [← hE], ht⟩) (fun q h => absurd h List.not_mem_nil) dX5_decimalAt_18
  · rw [if_neg c_1] at hE
    refine lv_iload_n hx hb dX5_decimalAt_13 rfl (lv_at hl 0 rfl) ?_
    refine lv_if_ge (tgt := 19) hx hb dX5_decimalAt_14 (by decide) (fun c_2 => ?_) (fun c_2 => ?_)
    · rw [if_pos c_2] at hE
      refine lv_lload_n hx hb dX5_decimalAt_19 rfl (lv_at hl 1 rfl) ?_
      refine lv_lstore (lv' := [(4, .long v), (3, .int (((FX5_decimals v) - 1) - w)), (0, .long v), (2, .int w)]) hx hb dX5_decimalAt_20 hl (by decide) rfl (fun ls hl => ?_)
      refine lv_iconst (v := 0) hx hb dX5_decimalAt_22 (by decide) ?_
      refine lv_istore (lv' := [(6, .int 0), (4, .long v), (3, .int (((FX5_decimals v) - 1) - w)), (0, .long v), (2, .int w)]) hx hb dX5_decimalAt_23 hl (by decide) rfl (fun ls hl => ?_)
      exact loop_25 18 0 v (by omega) (by omega) (by assumption) (by assumption) hE ls (lv_sub hl [0, 1, 2, 3, 4] rfl)
    · rw [if_neg c_2] at hE
      refine lv_iconst (v := (-1)) hx hb dX5_decimalAt_17 (by decide) ?_
      exact W.iret hx hb hr (fun t ht hW => ⟨by rw [← hE], ht⟩) (fun q h => absurd h List.not_mem_nil) dX5_decimalAt_18
