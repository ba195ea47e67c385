def FX2_size (dn : Nat) : Int32 := nI dn
set_option maxHeartbeats 4000000 in
set_option maxRecDepth 100000 in
theorem kX2_size (l : Launch) (D : va_G) (cI cJ cZ : ClassId) (qd : Nat) (d1 : Nat) (d2 : Nat) (d3 : Nat) (dz : Nat → Int64) (da : Nat → Int32) (db : Nat → Int32) (dn : Nat) : Met l yX2_size wsX2_size ({ frames := 0, cells := 0, slots := 0, locals := 0 }) (rP D (tz cI cJ cZ) [.ref qd] [(qd, .inr (3, [.ref d1, .ref d2, .ref d3, .int (nI dn)])), (d1, .inl (cJ, 200, .inr (.inl dz))), (d2, .inl (cI, 200, .inl da)), (d3, .inl (cI, 200, .inl db))]) (k2_QcV (.int (FX2_size dn))) 0 0 (fun _ => False) := by
  refine Met.ofW (cc := cX2_size) (maxL := 1) (ret := (some .int)) (by decide) rfl ?_
  intro p e s m args below meth c s₁ B hml hv
  obtain ⟨rfl, hP, hK, hN⟩ := hv
  have hx := B.exec
  have hb := B.bytes
  have hr := B.returns
  have hts := atoms_spec (ws := wsX2_size) B.pre
  have hown : s.vm.findClass RX2 = some m.cls := findClass_of_methodNamed B.named
  have hlocks := B.notSynchronized
  have iw_3 : ∀ w ∈ u_ws RX2 TX2 4, w ∈ wsX2_size := by decide +kernel
  generalize hE : FX2_size dn = R0
  rw [FX2_size] at hE
  have hl := lv_entry ([.ref qd]) (n := 1) (Nat.le_of_ble_eq_true rfl)
  rw [lg_entry_eq]
  generalize (lg_sl ([.ref qd]) ++ List.replicate (1 - (lg_sl ([.ref qd])).length) Slot.unset).toArray = ls at hl ⊢
  have hl : lv_has ls 1 [(0, .ref qd)] := hl
  refine lv_aload_n hx hb dX2_size_0 rfl (lv_at hl 0 rfl) ?_
  refine va_get (D := D) (ci := 3) (v := .int (nI dn)) (C := RX2) (T := TX2) (N := 4) hx hb hts iw_3 hown hK hP 0 rfl rfl 3 (by decide) (hts (.fieldLink RX2 24 "DepositCodes$Doubles" "size" "I") (by decide +kernel)) (fun _ h9 => h9) rfl dX2_size_1 ?_
  exact W.iret hx hb hr (fun t ht hW => ⟨by rw [← hE], ht⟩) (fun q h => absurd h List.not_mem_nil) dX2_size_4
def FX2_part (dz : Nat → Int64) (da : Nat → Int32) (db : Nat → Int32) (dn : Nat) (k : Int32) (w : Int32) : Int32 := if (FX8_isIndex k (nI dn)) = 0 then (-1) else (if 0 ≤ w then (if w = 0 then da k.toNatClampNeg else (if w = 1 then db k.toNatClampNeg else (if w = 2 then FX5_decimals (dz k.toNatClampNeg) else FX5_decimalAt (dz k.toNatClampNeg) (w - 3)))) else (-1))
set_option maxHeartbeats 4000000 in
set_option maxRecDepth 100000 in
theorem kX2_part (l : Launch) (D : va_G) (cI cJ cZ : ClassId) (qd : Nat) (d1 : Nat) (d2 : Nat) (d3 : Nat) (dz : Nat → Int64) (da : Nat → Int32) (db : Nat → Int32) (dn : Nat) (k : Int32) (w : Int32) (hdn : dn ≤ 200) : Met l yX2_part wsX2_part ({ frames := 2, cells := 0, slots := 0, locals := 50 }) (rP D (tz cI cJ cZ) [.ref qd, .int k, .int w] [(qd, .inr (3, [.ref d1, .ref d2, .ref d3, .int (nI dn)])), (d1, .inl (cJ, 200, .inr (.inl dz))), (d2, .inl (cI, 200, .inl da)), (d3, .inl (cI, 200, .inl db))]) (k2_QcV (.int (FX2_part dz da db dn k w))) 0 0 (fun _ => False) := by
  refine Met.ofW (cc := cX2_part) (maxL := 3) (ret := (some .int)) (by decide) rfl ?_
  intro p e s m args below meth c s₁ B hml hv
  obtain ⟨rfl, hP, hK, hN⟩ := hv
  have hx := B.exec
  have hb := B.bytes
  have hr := B.returns
  have hts := atoms_spec (ws := wsX2_part) B.pre
  have hown : s.vm.findClass RX2 = some m.cls := findClass_of_methodNamed B.named
  have hlocks := B.notSynchronized
  have iw_3 : ∀ w ∈ u_ws RX2 TX2 4, w ∈ wsX2_part := by decide +kernel
  generalize hE : FX2_part dz da db dn k w = R0
  rw [FX2_part] at hE
  have hl := lv_entry ([.ref qd, .int k, .int w]) (n := 3) (Nat.le_of_ble_eq_true rfl)
  rw [lg_entry_eq]
  generalize (lg_sl ([.ref qd, .int k, .int w]) ++ List.replicate (3 - (lg_sl ([.ref qd, .int k, .int w])).length) Slot.unset).toArray = ls at hl ⊢
  have hl : lv_has ls 3 [(0, .ref qd), (1, .int k), (2, .int w)] := hl
  refine lv_iload_n hx hb dX2_part_0 rfl (lv_at hl 1 rfl) ?_
  refine lv_aload_n hx hb dX2_part_1 rfl (lv_at hl 0 rfl) ?_
  refine va_get (D := D) (ci := 3) (v := .int (nI dn)) (C := RX2) (T := TX2) (N := 4) hx hb hts iw_3 hown hK hP 0 rfl rfl 3 (by decide) (hts (.fieldLink RX2 24 "DepositCodes$Doubles" "size" "I") (by decide +kernel)) (fun _ h9 => h9) rfl dX2_part_2 ?_
  refine rd_call (va_runSN (As := [.int k, .int (nI dn)]) (rest := []) ⟨hx, hb, hml, hown, hts⟩ (kX8_isIndex l D cI cJ cZ k (nI dn)) ⟨va_cnB 2 hts gX2_part_X8_isIndex_n28 rfl rfl rfl hN.2.2.1 (hts (.initialized RX8) (by decide +kernel)) (by decide +kernel) ⟨Nat.le_of_ble_eq_true rfl, Nat.le_of_ble_eq_true rfl⟩, hts (.static yX8_isIndex) (by decide +kernel), trivial⟩ ⟨rP_blind, rP_pre (va_P_nil) hK hN⟩ rfl rfl hl.1 rfl (lv_room (Nat.le_of_ble_eq_true rfl)) dX2_part_5 ⟨Nat.zero_le _, Nat.zero_le _⟩) ?_
  refine lv_if_eq (tgt := 15) hx hb dX2_part_8 (by decide) (fun c_1 => ?_) (fun c_1 => ?_)
  · rw [if_pos c_1] at hE
    refine lv_iconst (v := (-1)) hx hb dX2_part_15 (by decide) ?_
    exact W.iret hx hb hr (fun t ht hW => ⟨by rw [← hE], ht⟩) (fun q h => absurd h List.not_mem_nil) dX2_part_16
  · rw [if_neg c_1] at hE
    refine lv_iload_n hx hb dX2_part_11 rfl (lv_at hl 2 rfl) ?_
    refine lv_if_ge (tgt := 17) hx hb dX2_part_12 (by decide) (fun c_2 => ?_) (fun c_2 => ?_)
    · rw [if_pos c_2] at hE
      refine lv_iload_n hx hb dX2_part_17 rfl (lv_at hl 2 rfl) ?_
      by_cases n_0 : w = 0
      · rw [if_pos n_0] at hE
        refine lv_tableIn (tgt := 44) (off := 26) hx hb dX2_part_18 (by rw [n_0]; decide) (by rw [n_0]; decide) (by rw [n_0]; decide) (by decide) ?_
        have hin : vp_in k 200 := isIx_in (k := k) (n := dn) (by assumption) hdn (by decide)
        refine lv_aload_n hx hb dX2_part_44 rfl (lv_at hl 0 rfl) ?_
        refine va_get (D := D) (ci := 3) (v := .ref d2) (C := RX2) (T := TX2) (N := 4) hx hb hts iw_3 hown hK hP 0 rfl rfl 1 (by decide) (hts (.fieldLink RX2 17 "DepositCodes$Doubles" "payersA" "[I") (by decide +kernel)) (fun _ h9 => h9) rfl dX2_part_45 ?_
        refine lv_iload_n hx hb dX2_part_48 rfl (lv_at hl 1 rfl) ?_
        refine va_iald hx hb hK hP 2 0 rfl rfl (by assumption) dX2_part_49 ?_
        exact W.iret hx hb hr (fun t ht hW => ⟨by rw [← hE], ht⟩) (fun q h => absurd h List.not_mem_nil) dX2_part_50
      · rw [if_neg n_0] at hE
        by_cases n_1 : w = 1
        · rw [if_pos n_1] at hE
          refine lv_tableIn (tgt := 51) (off := 33) hx hb dX2_part_18 (by rw [n_1]; decide) (by rw [n_1]; decide) (by rw [n_1]; decide) (by decide) ?_
          have hin : vp_in k 200 := isIx_in (k := k) (n := dn) (by assumption) hdn (by decide)
          refine lv_aload_n hx hb dX2_part_51 rfl (lv_at hl 0 rfl) ?_
          refine va_get (D := D) (ci := 3) (v := .ref d3) (C := RX2) (T := TX2) (N := 4) hx hb hts iw_3 hown hK hP 0 rfl rfl 2 (by decide) (hts (.fieldLink RX2 21 "DepositCodes$Doubles" "payersB" "[I") (by decide +kernel)) (fun _ h9 => h9) rfl dX2_part_52 ?_
          refine lv_iload_n hx hb dX2_part_55 rfl (lv_at hl 1 rfl) ?_
          refine va_iald hx hb hK hP 3 0 rfl rfl (by assumption) dX2_part_56 ?_
          exact W.iret hx hb hr (fun t ht hW => ⟨by rw [← hE], ht⟩) (fun q h => absurd h List.not_mem_nil) dX2_part_57
        · rw [if_neg n_1] at hE
          by_cases n_2 : w = 2
          · rw [if_pos n_2] at hE
            refine lv_tableIn (tgt := 58) (off := 40) hx hb dX2_part_18 (by rw [n_2]; decide) (by rw [n_2]; decide) (by rw [n_2]; decide) (by decide) ?_
            have hin : vp_in k 200 := isIx_in (k := k) (n := dn) (by assumption) hdn (by decide)
            refine lv_aload_n hx hb dX2_part_58 rfl (lv_at hl 0 rfl) ?_
            refine va_get (D := D) (ci := 3) (v := .ref d1) (C := RX2) (T := TX2) (N := 4) hx hb hts iw_3 hown hK hP 0 rfl rfl 0 (by decide) (hts (.fieldLink RX2 11 "DepositCodes$Doubles" "serials" "[J") (by decide +kernel)) (fun _ h9 => h9) rfl dX2_part_59 ?_
            refine lv_iload_n hx hb dX2_part_62 rfl (lv_at hl 1 rfl) ?_
            refine va_lald hx hb hK hP 1 1 rfl rfl (by assumption) dX2_part_63 ?_
            refine rd_call (va_runS (As := [.long (dz k.toNatClampNeg)]) (rest := []) ⟨hx, hb, hml, hown, hts⟩ (kX5_decimals l D cI cJ cZ (dz k.toNatClampNeg)) (va_cwS 1 hts gX2_part_X5_decimals rfl rfl rfl (by decide +kernel) ⟨Nat.le_of_ble_eq_true rfl, Nat.le_of_ble_eq_true rfl⟩) ⟨rP_blind, rP_pre (va_P_nil) hK hN⟩ rfl rfl hl.1 rfl (lv_room (Nat.le_of_ble_eq_true rfl)) dX2_part_64 ⟨Nat.zero_le _, Nat.zero_le _⟩) ?_
            exact W.iret hx hb hr (fun t ht hW => ⟨by rw [← hE], ht⟩) (fun q h => absurd h List.not_mem_nil) dX2_part_67
          · rw [if_neg n_2] at hE
            refine lv_tableOut (tgt := 68) hx hb dX2_part_18 (sw_out3 n_0 n_1 n_2) (by decide) ?_
            have hin : vp_in k 200 := isIx_in (k := k) (n := dn) (by assumption) hdn (by decide)
            refine lv_aload_n hx hb dX2_part_68 rfl (lv_at hl 0 rfl) ?_
            refine va_get (D := D) (ci := 3) (v := .ref d1) (C := RX2) (T := TX2) (N := 4) hx hb hts iw_3 hown hK hP 0 rfl rfl 0 (by decide) (hts (.fieldLink RX2 11 "DepositCodes$Doubles" "serials" "[J") (by decide +kernel)) (fun _ h9 => h9) rfl dX2_part_69 ?_
            refine lv_iload_n hx hb dX2_part_72 rfl (lv_at hl 1 rfl) ?_
            refine va_lald hx hb hK hP 1 1 rfl rfl (by assumption) dX2_part_73 ?_
            refine lv_iload_n hx hb dX2_part_74 rfl (lv_at hl 2 rfl) ?_
            refine lv_iconst (v := 3) hx hb dX2_part_75 (by decide) ?_
            refine lv_isub hx hb dX2_part_76 ?_
            refine rd_call (va_runS (As := [.long (dz k.toNatClampNeg), .int (w - 3)]) (rest := []) ⟨hx, hb, hml, hown, hts⟩ (kX5_decimalAt l D cI cJ cZ (dz k.toNatClampNeg) (w - 3)) (va_cwS 2 hts gX2_part_X5_decimalAt rfl rfl rfl (by decide +kernel) ⟨Nat.le_of_ble_eq_true rfl, Nat.le_of_ble_eq_true rfl⟩) ⟨rP_blind, rP_pre (va_P_nil) hK hN⟩ rfl rfl hl.1 rfl (lv_room (Nat.le_of_ble_eq_true rfl)) dX2_part_77 ⟨Nat.zero_le _, Nat.zero_le _⟩) ?_
            exact W.iret hx hb hr (fun t ht hW => ⟨by rw [← hE], ht⟩) (fun q h => absurd h List.not_mem_nil) dX2_part_80
    · rw [if_neg c_2] at hE
      refine lv_iconst (v := (-1)) hx hb dX2_part_15 (by decide) ?_
      exact W.iret hx hb hr (fun t ht hW => ⟨by rw [← hE], ht⟩) (fun q h => absurd h List.not_mem_nil) dX2_part_16
