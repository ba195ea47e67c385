def FX2_size (dn : Nat) : Nat := dn
set_option maxHeartbeats 4000000 in
set_option maxRecDepth 100000 in
theorem kX2_size (l : Launch) (D : va_G) (cI cJ cZ : ClassId) (qd : Nat) (d1 : Nat) (d2 : Nat) (d3 : Nat) (dz : Nat → Int64) (da : Nat → Int32) (db : Nat → Int32) (dn : Nat) : Met l yX2_size wsX2_size ({ frames := 0, cells := 0, slots := 0, locals := 0 }) (rP D (tz cI cJ cZ) [.ref qd] [(qd, .inr (3, [.ref d1, .ref d2, .ref d3, .int (nI dn)])), (d1, .inl (cJ, 200, .inr (.inl dz))), (d2, .inl (cI, 200, .inl da)), (d3, .inl (cI, 200, .inl db))]) (k2_QcV (.int (nI dn))) 0 0 (fun _ => False) := by
  refine Met.ofW (cc := cX2_size) (maxL := 1) (ret := (some .int)) (by decide) rfl ?_
  intro p e s m args below meth c s₁ B hml hv
  obtain ⟨rfl, hP, hK, hN⟩ := hv
  have hx := B.exec
  have hb := B.bytes
  have hr := B.returns
  have hts := atoms_spec (ws := wsX2_size) B.pre
  have hown : s.vm.findClass RX2 = some m.cls := findClass_of_methodNamed B.named
  have hlocks := B.notSynchronized
  have iw_3 : ∀ w ∈ u_ws RX2 TX2 4, w ∈ wsX2_size := by decide +kernel
  generalize hE : dn = R0
  skip
  have hl := lv_entry ([.ref qd]) (n := 1) (Nat.le_of_ble_eq_true rfl)
  rw [lg_entry_eq]
  generalize (lg_sl ([.ref qd]) ++ List.replicate (1 - (lg_sl ([.ref qd])).length) Slot.unset).toArray = ls at hl ⊢
  have hl : lv_has ls 1 [(0, .ref qd)] := hl
  refine lv_aload_n hx hb dX2_size_0 rfl (lv_at hl 0 rfl) ?_
  refine va_get (D := D) (ci := 3) (v := .int (nI dn)) (C := RX2) (T := TX2) (N := 4) hx hb hts iw_3 hown hK hP 0 rfl rfl 3 (by decide) (hts (.fieldLink RX2 24 "DepositCodes$Doubles" "size" "I") (by decide +kernel)) (fun _ h9 => h9) rfl dX2_size_1 ?_
  exact W.iret (v := nI dn) hx hb hr (fun t ht hW => ⟨by rw [← hE], ht⟩) (fun q h => absurd h List.not_mem_nil) dX2_size_4
def FX2_part (dz : Nat → Int64) (da : Nat → Int32) (db : Nat → Int32) (dn : Nat) (k : Int32) (w : Int32) : Int32 := if (FX8_isIndex k (nI dn)) = 0 then (-1) else (if 0 ≤ w then (if w = 0 then da k.toNatClampNeg else (if w = 1 then db k.toNatClampNeg else (if w = 2 then FX5_decimals (dz k.toNatClampNeg) else FX5_decimalAt (dz k.toNatClampNeg) (w - 3)))) else (-1))
set_option maxHeartbeats 4000000 in
set_option maxRecDepth 100000 in
theorem kX2_part (l : Launch) (D : va_G) (cI cJ cZ : ClassId) (qd : Nat) (d1 : Nat) (d2 : Nat) (d3 : Nat) (dz : Nat → Int64) (da : Nat → Int32) (db : Nat → Int32) (dn : Nat) (k : Int32) (w : Int32) (hdn : dn ≤ 200) : Met l yX2_part wsX2_part ({ frames := 2, cells := 0, slots := 0, locals := 50 }) (rP D (tz cI cJ cZ) [.ref qd, .int k, .int w] [(qd, .inr (3, [.ref d1, .ref d2, .ref d3, .int (nI dn)])), (d1, .inl (cJ, 200, .inr (.inl dz))), (d2, .inl (cI, 200, .inl da)), (d3, .inl (cI, 200, .inl db))]) (k2_QcV (.int (FX2_part dz da db dn k w))) 0 0 (fun _ => False) := by
  refine Met.ofW (cc := cX2_part) (maxL := 3) (ret := (some .int)) (by decide) rfl ?_
  intro p e s m args below meth c s₁ B hml hv
  obtain ⟨rfl, hP, hK, hN⟩ := hv
  have hx := B.exec
  have hb := B.bytes
  have hr := B.returns
  have hts := atoms_spec (ws := wsX2_part) B.pre
  have hown : s.vm.findClass RX2 = some m.cls := findClass_of_methodNamed B.named
  have hlocks := B.notSynchronized
  have iw_3 : ∀ w ∈ u_ws RX2 TX2 4, w ∈ wsX2_part := by decide +kernel
  generalize hE : FX2_part dz da db dn k w = R0
  rw [FX2_part] at hE
  have hl := lv_entry ([.ref qd, .int k, .int w]) (n := 3) (Nat.le_of_ble_eq_true rfl)
  rw [lg_entry_eq]
  generalize (lg_sl ([.ref qd, .int k, .int w]) ++ List.replicate (3 - (lg_sl ([.ref qd, .int k, .int w])).length) Slot.unset).toArray = ls at hl ⊢
  have hl : lv_has ls 3 [(0, .ref qd), (1, .int k), (2, .int w)] := hl
  refine lv_iload_n hx hb dX2_part_0 rfl (lv_at hl 1 rfl) ?_
  refine lv_aload_n hx hb dX2_part_1 rfl (lv_at hl 0 rfl) ?_
  refine va_get (D := D) (ci := 3) (v := .int (nI dn)) (C := RX2) (T := TX2) (N := 4) hx hb hts iw_3 hown hK hP 0 rfl rfl 3 (by decide) (hts (.fieldLink RX2 24 "DepositCodes$Doubles" "size" "I") (by decide +kernel)) (fun _ h9 => h9) rfl dX2_part_2 ?_
  refine rd_call (va_runSN (As := [.int k, .int (nI dn)]) (rest := []) ⟨hx, hb, hml, hown, hts⟩ (kX8_isIndex l D cI cJ cZ k (nI dn)) ⟨va_cnB 2 hts gX2_part_X8_isIndex_n28 rfl rfl rfl hN.2.2.1 (hts (.initialized RX8) (by decide +kernel)) (by decide +kernel) ⟨Nat.le_of_ble_eq_true rfl, Nat.le_of_ble_eq_true rfl⟩, hts (.static yX8_isIndex) (by decide +kernel), trivial⟩ ⟨rP_blind, rP_pre (va_P_nil) hK hN⟩ rfl rfl hl.1 rfl (lv_room (Nat.le_of_ble_eq_true rfl)) dX2_part_5 ⟨Nat.zero_le _, Nat.zero_le _⟩) ?_
  refine lv_if_eq (tgt := 15) hx hb dX2_part_8 (by decide) (fun c_1 => ?_) (fun c_1 => ?_)
  · rw [if_pos c_1] at hE
    refine lv_iconst (v := (-1)) hx hb dX2_part_15 (by decide) ?_
    exact W.iret hx hb hr (fun t ht hW => ⟨by rw [← hE], ht⟩) (fun q h => absurd h List.not_mem_nil) dX2_part_16
  · rw [if_neg c_1] at hE
    refine lv_iload_n hx hb dX2_part_11 rfl (lv_at hl 2 rfl) ?_
    refine lv_if_ge (tgt := 17) hx hb dX2_part_12 (by decide) (fun c_2 => ?_) (fun c_2 => ?_)
    · rw [if_pos c_2] at hE
      refine lv_iload_n hx hb dX2_part_17 rfl (lv_at hl 2 rfl) ?_
      by_cases n_0 : w = 0
      · rw [if_pos n_0] at hE
        refine lv_tableIn (tgt := 44) (off := 26) hx hb dX2_part_18 (by rw [n_0]; decide) (by rw [n_0]; decide) (by rw [n_0]; decide) (by decide) ?_
        have hin : vp_in k 200 := isIx_in (k := k) (n := dn) (by assumption) hdn (by decide)
        refine lv_aload_n hx hb dX2_part_44 rfl (lv_at hl 0 rfl) ?_
        refine va_get (D := D) (ci := 3) (v := .ref d2) (C := RX2) (T := TX2) (N := 4) hx hb hts iw_3 hown hK hP 0 rfl rfl 1 (by decide) (hts (.fieldLink RX2 17 "DepositCodes$Doubles" "payersA" "[I") (by decide +kernel)) (fun _ h9 => h9) rfl dX2_part_45 ?_
        refine lv_iload_n hx hb dX2_part_48 rfl (lv_at hl 1 rfl) ?_
        refine va_iald hx hb hK hP 2 0 rfl rfl (by assumption) dX2_part_49 ?_
        exact W.iret hx hb hr (fun t ht hW => ⟨by rw [← hE], ht⟩) (fun q h => absurd h List.not_mem_nil) dX2_part_50
      · rw [if_neg n_0] at hE
        by_cases n_1 : w = 1
        · rw [if_pos n_1] at hE
          refine lv_tableIn (tgt := 51) (off := 33) hx hb dX2_part_18 (by rw [n_1]; decide) (by rw [n_1]; decide) (by rw [n_1]; decide) (by decide) ?_
          have hin : vp_in k 200 := isIx_in (k := k) (n := dn) (by assumption) hdn (by decide)
          refine lv_aload_n hx hb dX2_part_51 rfl (lv_at hl 0 rfl) ?_
          refine va_get (D := D) (ci := 3) (v := .ref d3) (C := RX2) (T := TX2) (N := 4) hx hb hts iw_3 hown hK hP 0 rfl rfl 2 (by decide) (hts (.fieldLink RX2 21 "DepositCodes$Doubles" "payersB" "[I") (by decide +kernel)) (fun _ h9 => h9) rfl dX2_part_52 ?_
          refine lv_iload_n hx hb dX2_part_55 rfl (lv_at hl 1 rfl) ?_
          refine va_iald hx hb hK hP 3 0 rfl rfl (by assumption) dX2_part_56 ?_
          exact W.iret hx hb hr (fun t ht hW => ⟨by rw [← hE], ht⟩) (fun q h => absurd h List.not_mem_nil) dX2_part_57
        · rw [if_neg n_1] at hE
          by_cases n_2 : w = 2
          · rw [if_pos n_2] at hE
            refine lv_tableIn (tgt := 58) (off := 40) hx hb dX2_part_18 (by rw [n_2]; decide) (by rw [n_2]; decide) (by rw [n_2]; decide) (by decide) ?_
            have hin : vp_in k 200 := isIx_in (k := k) (n := dn) (by assumption) hdn (by decide)
            refine lv_aload_n hx hb dX2_part_58 rfl (lv_at hl 0 rfl) ?_
            refine va_get (D := D) (ci := 3) (v := .ref d1) (C := RX2) (T := TX2) (N := 4) hx hb hts iw_3 hown hK hP 0 rfl rfl 0 (by decide) (hts (.fieldLink RX2 11 "DepositCodes$Doubles" "serials" "[J") (by decide +kernel)) (fun _ h9 => h9) rfl dX2_part_59 ?_
            refine lv_iload_n hx hb dX2_part_62 rfl (lv_at hl 1 rfl) ?_
            refine va_lald hx hb hK hP 1 1 rfl rfl (by assumption) dX2_part_63 ?_
            refine rd_call (va_runS (As := [.long (dz k.toNatClampNeg)]) (rest := []) ⟨hx, hb, hml, hown, hts⟩ (kX5_decimals l D cI cJ cZ (dz k.toNatClampNeg)) (va_cwS 1 hts gX2_part_X5_decimals rfl rfl rfl (by decide +kernel) ⟨Nat.le_of_ble_eq_true rfl, Nat.le_of_ble_eq_true rfl⟩) ⟨rP_blind, rP_pre (va_P_nil) hK hN⟩ rfl rfl hl.1 rfl (lv_room (Nat.le_of_ble_eq_true rfl)) dX2_part_64 ⟨Nat.zero_le _, Nat.zero_le _⟩) ?_
            exact W.iret hx hb hr (fun t ht hW => ⟨by rw [← hE], ht⟩) (fun q h => absurd h List.not_mem_nil) dX2_part_67
          · rw [if_neg n_2] at hE
            refine lv_tableOut (tgt := 68) hx hb dX2_part_18 (sw_out3 n_0 n_1 n_2) (by decide) ?_
            have hin : vp_in k 200 := isIx_in (k := k) (n := dn) (by assumption) hdn (by decide)
            refine lv_aload_n hx hb dX2_part_68 rfl (lv_at hl 0 rfl) ?_
            refine va_get (D := D) (ci := 3) (v := .ref d1) (C := RX2) (T := TX2) (N := 4) hx hb hts iw_3 hown hK hP 0 rfl rfl 0 (by decide) (hts (.fieldLink RX2 11 "DepositCodes$Doubles" "serials" "[J") (by decide +kernel)) (fun _ h9 => h9) rfl dX2_part_69 ?_
            refine lv_iload_n hx hb dX2_part_72 rfl (lv_at hl 1 rfl) ?_
            refine va_lald hx hb hK hP 1 1 rfl rfl (by assumption) dX2_part_73 ?_
            refine lv_iload_n hx hb dX2_part_74 rfl (lv_at hl 2 rfl) ?_
            refine lv_iconst (v := 3) hx hb dX2_part_75 (by decide) ?_
            refine lv_isub hx hb dX2_part_76 ?_
            refine rd_call (va_runS (As := [.long (dz k.toNatClampNeg), .int (w - 3)]) (rest := []) ⟨hx, hb, hml, hown, hts⟩ (kX5_decimalAt l D cI cJ cZ (dz k.toNatClampNeg) (w - 3)) (va_cwS 2 hts gX2_part_X5_decimalAt rfl rfl rfl (by decide +kernel) ⟨Nat.le_of_ble_eq_true rfl, Nat.le_of_ble_eq_true rfl⟩) ⟨rP_blind, rP_pre (va_P_nil) hK hN⟩ rfl rfl hl.1 rfl (lv_room (Nat.le_of_ble_eq_true rfl)) dX2_part_77 ⟨Nat.zero_le _, Nat.zero_le _⟩) ?_
            exact W.iret hx hb hr (fun t ht hW => ⟨by rw [← hE], ht⟩) (fun q h => absurd h List.not_mem_nil) dX2_part_80
    · rw [if_neg c_2] at hE
      refine lv_iconst (v := (-1)) hx hb dX2_part_15 (by decide) ?_
      exact W.iret hx hb hr (fun t ht hW => ⟨by rw [← hE], ht⟩) (fun q h => absurd h List.not_mem_nil) dX2_part_16
def FX2_insert_l21 (dn : Nat) (fi : Nat) (v : Int64) (pa : Int32) (pb : Int32) : Nat → Nat → (Nat → Int64) → (Nat → Int32) → (Nat → Int32) → (Nat → Int64) × (Nat → Int32) × (Nat → Int32) × Nat
  | 0, _, _, _, _ => (fun _ => 0, fun _ => 0, fun _ => 0, 0)
  | n + 1, pq, dzx, dax, dbx => if pq ≤ fi then (vp_updL dzx pq v, upd dax pq pa, upd dbx pq pb, dn + 1) else (if (lg_cmp (dzx (pq - 1)) v) ≤ 0 then (vp_updL dzx pq v, upd dax pq pa, upd dbx pq pb, dn + 1) else FX2_insert_l21 dn fi v pa pb n (pq - 1) (vp_updL dzx pq (dzx (pq - 1))) (upd dax pq (dax (pq - 1))) (upd dbx pq (dbx (pq - 1))))
def FX2_insert (dz : Nat → Int64) (da : Nat → Int32) (db : Nat → Int32) (dn : Nat) (fi : Nat) (v : Int64) (pa : Int32) (pb : Int32) : (Nat → Int64) × (Nat → Int32) × (Nat → Int32) × Nat := if 200 ≤ dn then (dz, da, db, dn) else (if 0 ≤ fi then FX2_insert_l21 dn fi v pa pb (dn + 1) dn dz da db else (dz, da, db, dn))
set_option maxHeartbeats 4000000 in
set_option maxRecDepth 100000 in
theorem kX2_insert (l : Launch) (D : va_G) (cI cJ cZ : ClassId) (qd : Nat) (d1 : Nat) (d2 : Nat) (d3 : Nat) (dz : Nat → Int64) (da : Nat → Int32) (db : Nat → Int32) (dn : Nat) (fi : Nat) (v : Int64) (pa : Int32) (pb : Int32) (sz : Nat) (hdn : dn ≤ 200) (hfi : fi ≤ 200) : Met l yX2_insert wsX2_insert ({ frames := 0, cells := 0, slots := 0, locals := 0 }) (mP D (tz cI cJ cZ) [.ref qd, .int (nI fi), .long v, .int pa, .int pb] sz [(qd, .inr (3, [.ref d1, .ref d2, .ref d3, .int (nI dn)])), (d1, .inl (cJ, 200, .inr (.inl dz))), (d2, .inl (cI, 200, .inl da)), (d3, .inl (cI, 200, .inl db))]) (mQ D none [(qd, .inr (3, [.ref d1, .ref d2, .ref d3, .int (nI ((FX2_insert dz da db dn fi v pa pb).2.2.2))])), (d1, .inl (cJ, 200, .inr (.inl ((FX2_insert dz da db dn fi v pa pb).1)))), (d2, .inl (cI, 200, .inl ((FX2_insert dz da db dn fi v pa pb).2.1))), (d3, .inl (cI, 200, .inl ((FX2_insert dz da db dn fi v pa pb).2.2.1)))] (va_A [(qd, .inr (3, [.ref d1, .ref d2, .ref d3, .int (nI dn)])), (d1, .inl (cJ, 200, .inr (.inl dz))), (d2, .inl (cI, 200, .inl da)), (d3, .inl (cI, 200, .inl db))] sz)) 0 0 (va_A [(qd, .inr (3, [.ref d1, .ref d2, .ref d3, .int (nI dn)])), (d1, .inl (cJ, 200, .inr (.inl dz))), (d2, .inl (cI, 200, .inl da)), (d3, .inl (cI, 200, .inl db))] sz) := by
  refine Met.ofW (cc := cX2_insert) (maxL := 7) (ret := none) (by decide) rfl ?_
  intro p e s m args below meth c s₁ B hml hv
  obtain ⟨rfl, hsz, hP, hK, hD0, hN⟩ := hv
  have hx := B.exec
  have hb := B.bytes
  have hr := B.returns
  have hts := atoms_spec (ws := wsX2_insert) B.pre
  have hown : s.vm.findClass RX2 = some m.cls := findClass_of_methodNamed B.named
  have hlocks := B.notSynchronized
  have iw_3 : ∀ w ∈ u_ws RX2 TX2 4, w ∈ wsX2_insert := by decide +kernel
  subst hsz
  have hD := hD0.self (sz := s.heap.size)
  generalize hE : FX2_insert dz da db dn fi v pa pb = R0
  generalize hAe : va_A [(qd, .inr (3, [.ref d1, .ref d2, .ref d3, .int (nI dn)])), (d1, .inl (cJ, 200, .inr (.inl dz))), (d2, .inl (cI, 200, .inl da)), (d3, .inl (cI, 200, .inl db))] s.heap.size = A at hD ⊢
  have hA : ∀ q : Nat, s.heap.size ≤ q → A q := fun q h => by rw [← hAe]; exact Or.inr h
  have hS : va_S A s.heap s.heap [] := va_S.rf
  rw [FX2_insert] at hE
  have hl := lv_entry ([.ref qd, .int (nI fi), .long v, .int pa, .int pb]) (n := 7) (Nat.le_of_ble_eq_true rfl)
  rw [lg_entry_eq]
  generalize (lg_sl ([.ref qd, .int (nI fi), .long v, .int pa, .int pb]) ++ List.replicate (7 - (lg_sl ([.ref qd, .int (nI fi), .long v, .int pa, .int pb])).length) Slot.unset).toArray = ls at hl ⊢
  have hl : lv_has ls 7 [(0, .ref qd), (1, .int (nI fi)), (2, .long v), (4, .int pa), (5, .int pb)] := hl
  have loop_21 : ∀ (n : Nat) (pq : Nat) (dzx : Nat → Int64) (dax : Nat → Int32) (dbx : Nat → Int32), pq ≤ dn → pq < n → dn < 200 → FX2_insert_l21 dn fi v pa pb n pq dzx dax dbx = R0 → ∀ (H : Heap) (locs : List Loc), va_P D vwCl [(qd, .inr (3, [.ref d1, .ref d2, .ref d3, .int (nI dn)])), (d1, .inl (cJ, 200, .inr (.inl dzx))), (d2, .inl (cI, 200, .inl dax)), (d3, .inl (cI, 200, .inl dbx))] H → va_D A [(qd, .inr (3, [.ref d1, .ref d2, .ref d3, .int (nI dn)])), (d1, .inl (cJ, 200, .inr (.inl dzx))), (d2, .inl (cI, 200, .inl dax)), (d3, .inl (cI, 200, .inl dbx))] → va_S A s.heap H locs → ∀ ls : Array Slot, lv_has ls 7 [(6, .int (nI pq)), (0, .ref qd), (1, .int (nI fi)), (2, .long v), (4, .int pa), (5, .int pb)] → W p l e (headSpec wsX2_insert ({ frames := 0, cells := 0, slots := 0, locals := 0 })).room s m ([.ref qd, .int (nI fi), .long v, .int pa, .int pb] : List Value).toArray below meth c H locs 0 0 (MQ below (mQ D none [(qd, .inr (3, [.ref d1, .ref d2, .ref d3, .int (nI R0.2.2.2)])), (d1, .inl (cJ, 200, .inr (.inl R0.1))), (d2, .inl (cI, 200, .inl R0.2.1)), (d3, .inl (cI, 200, .inl R0.2.2.1))] A) ([.ref qd, .int (nI fi), .long v, .int pa, .int pb] : List Value).toArray s 0 0 A) (F0 m 21 ls []) := by
    intro n
    induction n with
    | zero =>
      intro pq dzx dax dbx i_1 i_2 i_3
      exact absurd i_1 (by omega)
    | succ n ih =>
      intro pq dzx dax dbx i_1 i_2 i_3 hE H locs hP hD hS ls hl
      rw [FX2_insert_l21] at hE
      refine lv_iload hx hb dX2_insert_21 (lv_at hl 0 rfl) ?_
      refine lv_iload_n hx hb dX2_insert_23 rfl (lv_at hl 2 rfl) ?_
      refine lv_icmp_le (tgt := 95) hx hb dX2_insert_24 (by decide) (fun c_3 => ?_) (fun c_3 => ?_)
      · have c_3 : pq ≤ fi := (nI_leI (a := pq) (b := fi) (by omega) (by omega)).mp c_3
        rw [if_pos c_3] at hE
        refine lv_aload_n hx hb dX2_insert_95 rfl (lv_at hl 1 rfl) ?_
        refine va_get (D := D) (ci := 3) (v := .ref d1) (C := RX2) (T := TX2) (N := 4) hx hb hts iw_3 hown hK hP 0 rfl rfl 0 (by decide) (hts (.fieldLink RX2 11 "DepositCodes$Doubles" "serials" "[J") (by decide +kernel)) (fun _ h9 => h9) rfl dX2_insert_96 ?_
        refine lv_iload hx hb dX2_insert_99 (lv_at hl 0 rfl) ?_
        refine lv_lload_n hx hb dX2_insert_101 rfl (lv_at hl 3 rfl) ?_
        refine na_last hx hb hK hP hD hS 1 1 rfl rfl (by omega) (by decide) dX2_insert_102 (fun H locs hP hD hS => ?_)
        have hP : va_P D vwCl [(qd, .inr (3, [.ref d1, .ref d2, .ref d3, .int (nI dn)])), (d1, .inl (cJ, 200, .inr (.inl (vp_updL dzx pq v)))), (d2, .inl (cI, 200, .inl dax)), (d3, .inl (cI, 200, .inl dbx))] H := hP
        have hD : va_D A [(qd, .inr (3, [.ref d1, .ref d2, .ref d3, .int (nI dn)])), (d1, .inl (cJ, 200, .inr (.inl (vp_updL dzx pq v)))), (d2, .inl (cI, 200, .inl dax)), (d3, .inl (cI, 200, .inl dbx))] := hD
        refine lv_aload_n hx hb dX2_insert_103 rfl (lv_at hl 1 rfl) ?_
        refine va_get (D := D) (ci := 3) (v := .ref d2) (C := RX2) (T := TX2) (N := 4) hx hb hts iw_3 hown hK hP 0 rfl rfl 1 (by decide) (hts (.fieldLink RX2 17 "DepositCodes$Doubles" "payersA" "[I") (by decide +kernel)) (fun _ h9 => h9) rfl dX2_insert_104 ?_
        refine lv_iload hx hb dX2_insert_107 (lv_at hl 0 rfl) ?_
        refine lv_iload hx hb dX2_insert_109 (lv_at hl 4 rfl) ?_
        refine na_iast hx hb hK hP hD hS 2 0 rfl rfl (by omega) (by decide) dX2_insert_111 (fun H locs hP hD hS => ?_)
        have hP : va_P D vwCl [(qd, .inr (3, [.ref d1, .ref d2, .ref d3, .int (nI dn)])), (d1, .inl (cJ, 200, .inr (.inl (vp_updL dzx pq v)))), (d2, .inl (cI, 200, .inl (upd dax pq pa))), (d3, .inl (cI, 200, .inl dbx))] H := hP
        have hD : va_D A [(qd, .inr (3, [.ref d1, .ref d2, .ref d3, .int (nI dn)])), (d1, .inl (cJ, 200, .inr (.inl (vp_updL dzx pq v)))), (d2, .inl (cI, 200, .inl (upd dax pq pa))), (d3, .inl (cI, 200, .inl dbx))] := hD
        refine lv_aload_n hx hb dX2_insert_112 rfl (lv_at hl 1 rfl) ?_
        refine va_get (D := D) (ci := 3) (v := .ref d3) (C := RX2) (T := TX2) (N := 4) hx hb hts iw_3 hown hK hP 0 rfl rfl 2 (by decide) (hts (.fieldLink RX2 21 "DepositCodes$Doubles" "payersB" "[I") (by decide +kernel)) (fun _ h9 => h9) rfl dX2_insert_113 ?_
        refine lv_iload hx hb dX2_insert_116 (lv_at hl 0 rfl) ?_
        refine lv_iload hx hb dX2_insert_118 (lv_at hl 5 rfl) ?_
        refine na_iast hx hb hK hP hD hS 3 0 rfl rfl (by omega) (by decide) dX2_insert_120 (fun H locs hP hD hS => ?_)
        have hP : va_P D vwCl [(qd, .inr (3, [.ref d1, .ref d2, .ref d3, .int (nI dn)])), (d1, .inl (cJ, 200, .inr (.inl (vp_updL dzx pq v)))), (d2, .inl (cI, 200, .inl (upd dax pq pa))), (d3, .inl (cI, 200, .inl (upd dbx pq pb)))] H := hP
        have hD : va_D A [(qd, .inr (3, [.ref d1, .ref d2, .ref d3, .int (nI dn)])), (d1, .inl (cJ, 200, .inr (.inl (vp_updL dzx pq v)))), (d2, .inl (cI, 200, .inl (upd dax pq pa))), (d3, .inl (cI, 200, .inl (upd dbx pq pb)))] := hD
        refine lv_aload_n hx hb dX2_insert_121 rfl (lv_at hl 1 rfl) ?_
        refine lv_dup hx hb dX2_insert_122 rfl ?_
        refine va_get (D := D) (ci := 3) (v := .int (nI dn)) (C := RX2) (T := TX2) (N := 4) hx hb hts iw_3 hown hK hP 0 rfl rfl 3 (by decide) (hts (.fieldLink RX2 24 "DepositCodes$Doubles" "size" "I") (by decide +kernel)) (fun _ h9 => h9) rfl dX2_insert_123 ?_
        refine lv_iconst (v := 1) hx hb dX2_insert_126 (by decide) ?_
        refine lv_iadd hx hb dX2_insert_127 ?_
        refine na_top (show (nI dn) + 1 = nI (dn + 1) from nI_add dn 1) ?_
        refine va_put (D := D) (ci := 3) (v := .int (nI (dn + 1))) (ty := .int) (C := RX2) (T := TX2) (N := 4) hx hb hts iw_3 tyX2 tyX2_ok nmX2 hown hK hP hD hS 0 rfl rfl 3 (by decide) (hts (.fieldLink RX2 24 "DepositCodes$Doubles" "size" "I") (by decide +kernel)) (fun _ h9 => h9) rfl (by decide +kernel) rfl rfl (Nat.le_of_ble_eq_true rfl) dX2_insert_128 (fun H locs hP hD hS => ?_)
        have hP : va_P D vwCl [(qd, .inr (3, [.ref d1, .ref d2, .ref d3, .int (nI (dn + 1))])), (d1, .inl (cJ, 200, .inr (.inl (vp_updL dzx pq v)))), (d2, .inl (cI, 200, .inl (upd dax pq pa))), (d3, .inl (cI, 200, .inl (upd dbx pq pb)))] H := hP
        have hD : va_D A [(qd, .inr (3, [.ref d1, .ref d2, .ref d3, .int (nI (dn + 1))])), (d1, .inl (cJ, 200, .inr (.inl (vp_updL dzx pq v)))), (d2, .inl (cI, 200, .inl (upd dax pq pa))), (d3, .inl (cI, 200, .inl (upd dbx pq pb)))] := hD
        subst hE
        exact W.vret hx hb hr (fun t ht hW => ⟨rfl, by rw [ht]; exact hP, hD, hS.F ht⟩) hS.2.2 dX2_insert_131
      · have c_3 : ¬ pq ≤ fi := fun h9 => c_3 ((nI_leI (a := pq) (b := fi) (by omega) (by omega)).mpr h9)
        rw [if_neg c_3] at hE
        refine lv_aload_n hx hb dX2_insert_27 rfl (lv_at hl 1 rfl) ?_
        refine va_get (D := D) (ci := 3) (v := .ref d1) (C := RX2) (T := TX2) (N := 4) hx hb hts iw_3 hown hK hP 0 rfl rfl 0 (by decide) (hts (.fieldLink RX2 11 "DepositCodes$Doubles" "serials" "[J") (by decide +kernel)) (fun _ h9 => h9) rfl dX2_insert_28 ?_
        refine lv_iload hx hb dX2_insert_31 (lv_at hl 0 rfl) ?_
        refine lv_iconst (v := 1) hx hb dX2_insert_33 (by decide) ?_
        refine lv_isub hx hb dX2_insert_34 ?_
        refine na_top (show (nI pq) - 1 = nI (pq - 1) from pk_sub (a := pq) (b := 1) (by omega)) ?_
        refine na_lald hx hb hK hP 1 1 rfl rfl (by omega) (by decide) dX2_insert_35 ?_
        refine lv_lload_n hx hb dX2_insert_36 rfl (lv_at hl 3 rfl) ?_
        refine W.lcmp hx hb dX2_insert_37 ?_
        refine lv_if_le (tgt := 95) hx hb dX2_insert_38 (by decide) (fun c_4 => ?_) (fun c_4 => ?_)
        · rw [if_pos c_4] at hE
          refine lv_aload_n hx hb dX2_insert_95 rfl (lv_at hl 1 rfl) ?_
          refine va_get (D := D) (ci := 3) (v := .ref d1) (C := RX2) (T := TX2) (N := 4) hx hb hts iw_3 hown hK hP 0 rfl rfl 0 (by decide) (hts (.fieldLink RX2 11 "DepositCodes$Doubles" "serials" "[J") (by decide +kernel)) (fun _ h9 => h9) rfl dX2_insert_96 ?_
          refine lv_iload hx hb dX2_insert_99 (lv_at hl 0 rfl) ?_
          refine lv_lload_n hx hb dX2_insert_101 rfl (lv_at hl 3 rfl) ?_
          refine na_last hx hb hK hP hD hS 1 1 rfl rfl (by omega) (by decide) dX2_insert_102 (fun H locs hP hD hS => ?_)
          have hP : va_P D vwCl [(qd, .inr (3, [.ref d1, .ref d2, .ref d3, .int (nI dn)])), (d1, .inl (cJ, 200, .inr (.inl (vp_updL dzx pq v)))), (d2, .inl (cI, 200, .inl dax)), (d3, .inl (cI, 200, .inl dbx))] H := hP
          have hD : va_D A [(qd, .inr (3, [.ref d1, .ref d2, .ref d3, .int (nI dn)])), (d1, .inl (cJ, 200, .inr (.inl (vp_updL dzx pq v)))), (d2, .inl (cI, 200, .inl dax)), (d3, .inl (cI, 200, .inl dbx))] := hD
          refine lv_aload_n hx hb dX2_insert_103 rfl (lv_at hl 1 rfl) ?_
          refine va_get (D := D) (ci := 3) (v := .ref d2) (C := RX2) (T := TX2) (N := 4) hx hb hts iw_3 hown hK hP 0 rfl rfl 1 (by decide) (hts (.fieldLink RX2 17 "DepositCodes$Doubles" "payersA" "[I") (by decide +kernel)) (fun _ h9 => h9) rfl dX2_insert_104 ?_
          refine lv_iload hx hb dX2_insert_107 (lv_at hl 0 rfl) ?_
          refine lv_iload hx hb dX2_insert_109 (lv_at hl 4 rfl) ?_
          refine na_iast hx hb hK hP hD hS 2 0 rfl rfl (by omega) (by decide) dX2_insert_111 (fun H locs hP hD hS => ?_)
          have hP : va_P D vwCl [(qd, .inr (3, [.ref d1, .ref d2, .ref d3, .int (nI dn)])), (d1, .inl (cJ, 200, .inr (.inl (vp_updL dzx pq v)))), (d2, .inl (cI, 200, .inl (upd dax pq pa))), (d3, .inl (cI, 200, .inl dbx))] H := hP
          have hD : va_D A [(qd, .inr (3, [.ref d1, .ref d2, .ref d3, .int (nI dn)])), (d1, .inl (cJ, 200, .inr (.inl (vp_updL dzx pq v)))), (d2, .inl (cI, 200, .inl (upd dax pq pa))), (d3, .inl (cI, 200, .inl dbx))] := hD
          refine lv_aload_n hx hb dX2_insert_112 rfl (lv_at hl 1 rfl) ?_
          refine va_get (D := D) (ci := 3) (v := .ref d3) (C := RX2) (T := TX2) (N := 4) hx hb hts iw_3 hown hK hP 0 rfl rfl 2 (by decide) (hts (.fieldLink RX2 21 "DepositCodes$Doubles" "payersB" "[I") (by decide +kernel)) (fun _ h9 => h9) rfl dX2_insert_113 ?_
          refine lv_iload hx hb dX2_insert_116 (lv_at hl 0 rfl) ?_
          refine lv_iload hx hb dX2_insert_118 (lv_at hl 5 rfl) ?_
          refine na_iast hx hb hK hP hD hS 3 0 rfl rfl (by omega) (by decide) dX2_insert_120 (fun H locs hP hD hS => ?_)
          have hP : va_P D vwCl [(qd, .inr (3, [.ref d1, .ref d2, .ref d3, .int (nI dn)])), (d1, .inl (cJ, 200, .inr (.inl (vp_updL dzx pq v)))), (d2, .inl (cI, 200, .inl (upd dax pq pa))), (d3, .inl (cI, 200, .inl (upd dbx pq pb)))] H := hP
          have hD : va_D A [(qd, .inr (3, [.ref d1, .ref d2, .ref d3, .int (nI dn)])), (d1, .inl (cJ, 200, .inr (.inl (vp_updL dzx pq v)))), (d2, .inl (cI, 200, .inl (upd dax pq pa))), (d3, .inl (cI, 200, .inl (upd dbx pq pb)))] := hD
          refine lv_aload_n hx hb dX2_insert_121 rfl (lv_at hl 1 rfl) ?_
          refine lv_dup hx hb dX2_insert_122 rfl ?_
          refine va_get (D := D) (ci := 3) (v := .int (nI dn)) (C := RX2) (T := TX2) (N := 4) hx hb hts iw_3 hown hK hP 0 rfl rfl 3 (by decide) (hts (.fieldLink RX2 24 "DepositCodes$Doubles" "size" "I") (by decide +kernel)) (fun _ h9 => h9) rfl dX2_insert_123 ?_
          refine lv_iconst (v := 1) hx hb dX2_insert_126 (by decide) ?_
          refine lv_iadd hx hb dX2_insert_127 ?_
          refine na_top (show (nI dn) + 1 = nI (dn + 1) from nI_add dn 1) ?_
          refine va_put (D := D) (ci := 3) (v := .int (nI (dn + 1))) (ty := .int) (C := RX2) (T := TX2) (N := 4) hx hb hts iw_3 tyX2 tyX2_ok nmX2 hown hK hP hD hS 0 rfl rfl 3 (by decide) (hts (.fieldLink RX2 24 "DepositCodes$Doubles" "size" "I") (by decide +kernel)) (fun _ h9 => h9) rfl (by decide +kernel) rfl rfl (Nat.le_of_ble_eq_true rfl) dX2_insert_128 (fun H locs hP hD hS => ?_)
          have hP : va_P D vwCl [(qd, .inr (3, [.ref d1, .ref d2, .ref d3, .int (nI (dn + 1))])), (d1, .inl (cJ, 200, .inr (.inl (vp_updL dzx pq v)))), (d2, .inl (cI, 200, .inl (upd dax pq pa))), (d3, .inl (cI, 200, .inl (upd dbx pq pb)))] H := hP
          have hD : va_D A [(qd, .inr (3, [.ref d1, .ref d2, .ref d3, .int (nI (dn + 1))])), (d1, .inl (cJ, 200, .inr (.inl (vp_updL dzx pq v)))), (d2, .inl (cI, 200, .inl (upd dax pq pa))), (d3, .inl (cI, 200, .inl (upd dbx pq pb)))] := hD
          subst hE
          exact W.vret hx hb hr (fun t ht hW => ⟨rfl, by rw [ht]; exact hP, hD, hS.F ht⟩) hS.2.2 dX2_insert_131
        · rw [if_neg c_4] at hE
          refine lv_aload_n hx hb dX2_insert_41 rfl (lv_at hl 1 rfl) ?_
          refine va_get (D := D) (ci := 3) (v := .ref d1) (C := RX2) (T := TX2) (N := 4) hx hb hts iw_3 hown hK hP 0 rfl rfl 0 (by decide) (hts (.fieldLink RX2 11 "DepositCodes$Doubles" "serials" "[J") (by decide +kernel)) (fun _ h9 => h9) rfl dX2_insert_42 ?_
          refine lv_iload hx hb dX2_insert_45 (lv_at hl 0 rfl) ?_
          refine lv_aload_n hx hb dX2_insert_47 rfl (lv_at hl 1 rfl) ?_
          refine va_get (D := D) (ci := 3) (v := .ref d1) (C := RX2) (T := TX2) (N := 4) hx hb hts iw_3 hown hK hP 0 rfl rfl 0 (by decide) (hts (.fieldLink RX2 11 "DepositCodes$Doubles" "serials" "[J") (by decide +kernel)) (fun _ h9 => h9) rfl dX2_insert_48 ?_
          refine lv_iload hx hb dX2_insert_51 (lv_at hl 0 rfl) ?_
          refine lv_iconst (v := 1) hx hb dX2_insert_53 (by decide) ?_
          refine lv_isub hx hb dX2_insert_54 ?_
          refine na_top (show (nI pq) - 1 = nI (pq - 1) from pk_sub (a := pq) (b := 1) (by omega)) ?_
          refine na_lald hx hb hK hP 1 1 rfl rfl (by omega) (by decide) dX2_insert_55 ?_
          refine na_last hx hb hK hP hD hS 1 1 rfl rfl (by omega) (by decide) dX2_insert_56 (fun H locs hP hD hS => ?_)
          have hP : va_P D vwCl [(qd, .inr (3, [.ref d1, .ref d2, .ref d3, .int (nI dn)])), (d1, .inl (cJ, 200, .inr (.inl (vp_updL dzx pq (dzx (pq - 1)))))), (d2, .inl (cI, 200, .inl dax)), (d3, .inl (cI, 200, .inl dbx))] H := hP
          have hD : va_D A [(qd, .inr (3, [.ref d1, .ref d2, .ref d3, .int (nI dn)])), (d1, .inl (cJ, 200, .inr (.inl (vp_updL dzx pq (dzx (pq - 1)))))), (d2, .inl (cI, 200, .inl dax)), (d3, .inl (cI, 200, .inl dbx))] := hD
          refine lv_aload_n hx hb dX2_insert_57 rfl (lv_at hl 1 rfl) ?_
          refine va_get (D := D) (ci := 3) (v := .ref d2) (C := RX2) (T := TX2) (N := 4) hx hb hts iw_3 hown hK hP 0 rfl rfl 1 (by decide) (hts (.fieldLink RX2 17 "DepositCodes$Doubles" "payersA" "[I") (by decide +kernel)) (fun _ h9 => h9) rfl dX2_insert_58 ?_
          refine lv_iload hx hb dX2_insert_61 (lv_at hl 0 rfl) ?_
          refine lv_aload_n hx hb dX2_insert_63 rfl (lv_at hl 1 rfl) ?_
          refine va_get (D := D) (ci := 3) (v := .ref d2) (C := RX2) (T := TX2) (N := 4) hx hb hts iw_3 hown hK hP 0 rfl rfl 1 (by decide) (hts (.fieldLink RX2 17 "DepositCodes$Doubles" "payersA" "[I") (by decide +kernel)) (fun _ h9 => h9) rfl dX2_insert_64 ?_
          refine lv_iload hx hb dX2_insert_67 (lv_at hl 0 rfl) ?_
          refine lv_iconst (v := 1) hx hb dX2_insert_69 (by decide) ?_
          refine lv_isub hx hb dX2_insert_70 ?_
          refine na_top (show (nI pq) - 1 = nI (pq - 1) from pk_sub (a := pq) (b := 1) (by omega)) ?_
          refine na_iald hx hb hK hP 2 0 rfl rfl (by omega) (by decide) dX2_insert_71 ?_
          refine na_iast hx hb hK hP hD hS 2 0 rfl rfl (by omega) (by decide) dX2_insert_72 (fun H locs hP hD hS => ?_)
          have hP : va_P D vwCl [(qd, .inr (3, [.ref d1, .ref d2, .ref d3, .int (nI dn)])), (d1, .inl (cJ, 200, .inr (.inl (vp_updL dzx pq (dzx (pq - 1)))))), (d2, .inl (cI, 200, .inl (upd dax pq (dax (pq - 1))))), (d3, .inl (cI, 200, .inl dbx))] H := hP
          have hD : va_D A [(qd, .inr (3, [.ref d1, .ref d2, .ref d3, .int (nI dn)])), (d1, .inl (cJ, 200, .inr (.inl (vp_updL dzx pq (dzx (pq - 1)))))), (d2, .inl (cI, 200, .inl (upd dax pq (dax (pq - 1))))), (d3, .inl (cI, 200, .inl dbx))] := hD
          refine lv_aload_n hx hb dX2_insert_73 rfl (lv_at hl 1 rfl) ?_
          refine va_get (D := D) (ci := 3) (v := .ref d3) (C := RX2) (T := TX2) (N := 4) hx hb hts iw_3 hown hK hP 0 rfl rfl 2 (by decide) (hts (.fieldLink RX2 21 "DepositCodes$Doubles" "payersB" "[I") (by decide +kernel)) (fun _ h9 => h9) rfl dX2_insert_74 ?_
          refine lv_iload hx hb dX2_insert_77 (lv_at hl 0 rfl) ?_
          refine lv_aload_n hx hb dX2_insert_79 rfl (lv_at hl 1 rfl) ?_
          refine va_get (D := D) (ci := 3) (v := .ref d3) (C := RX2) (T := TX2) (N := 4) hx hb hts iw_3 hown hK hP 0 rfl rfl 2 (by decide) (hts (.fieldLink RX2 21 "DepositCodes$Doubles" "payersB" "[I") (by decide +kernel)) (fun _ h9 => h9) rfl dX2_insert_80 ?_
          refine lv_iload hx hb dX2_insert_83 (lv_at hl 0 rfl) ?_
          refine lv_iconst (v := 1) hx hb dX2_insert_85 (by decide) ?_
          refine lv_isub hx hb dX2_insert_86 ?_
          refine na_top (show (nI pq) - 1 = nI (pq - 1) from pk_sub (a := pq) (b := 1) (by omega)) ?_
          refine na_iald hx hb hK hP 3 0 rfl rfl (by omega) (by decide) dX2_insert_87 ?_
          refine na_iast hx hb hK hP hD hS 3 0 rfl rfl (by omega) (by decide) dX2_insert_88 (fun H locs hP hD hS => ?_)
          have hP : va_P D vwCl [(qd, .inr (3, [.ref d1, .ref d2, .ref d3, .int (nI dn)])), (d1, .inl (cJ, 200, .inr (.inl (vp_updL dzx pq (dzx (pq - 1)))))), (d2, .inl (cI, 200, .inl (upd dax pq (dax (pq - 1))))), (d3, .inl (cI, 200, .inl (upd dbx pq (dbx (pq - 1)))))] H := hP
          have hD : va_D A [(qd, .inr (3, [.ref d1, .ref d2, .ref d3, .int (nI dn)])), (d1, .inl (cJ, 200, .inr (.inl (vp_updL dzx pq (dzx (pq - 1)))))), (d2, .inl (cI, 200, .inl (upd dax pq (dax (pq - 1))))), (d3, .inl (cI, 200, .inl (upd dbx pq (dbx (pq - 1)))))] := hD
          refine lv_iinc (v := nI (pq - 1)) (lv' := [(6, .int (nI (pq - 1))), (0, .ref qd), (1, .int (nI fi)), (2, .long v), (4, .int pa), (5, .int pb)]) hx hb dX2_insert_89 hl (k := 0) rfl (sb_m1 (p := pq) (by omega)) (by decide) rfl (fun ls hl => ?_)
          refine lv_goto (tgt := 21) hx hb dX2_insert_92 (by decide) ?_
          exact ih (pq - 1) (vp_updL dzx pq (dzx (pq - 1))) (upd dax pq (dax (pq - 1))) (upd dbx pq (dbx (pq - 1))) (by omega) (by omega) (by omega) hE _ _ hP hD hS ls (lv_sub hl [0, 1, 2, 3, 4, 5] rfl)
  refine lv_aload_n hx hb dX2_insert_0 rfl (lv_at hl 0 rfl) ?_
  refine va_get (D := D) (ci := 3) (v := .int (nI dn)) (C := RX2) (T := TX2) (N := 4) hx hb hts iw_3 hown hK hP 0 rfl rfl 3 (by decide) (hts (.fieldLink RX2 24 "DepositCodes$Doubles" "size" "I") (by decide +kernel)) (fun _ h9 => h9) rfl dX2_insert_1 ?_
  refine lv_sipush (v := 200) hx hb dX2_insert_4 (by decide) ?_
  refine lv_icmp_ge (tgt := 14) hx hb dX2_insert_7 (by decide) (fun c_1 => ?_) (fun c_1 => ?_)
  · have c_1 : 200 ≤ dn := (nI_leI (a := 200) (b := dn) (by omega) (by omega)).mp c_1
    rw [if_pos c_1] at hE
    subst hE
    exact W.vret hx hb hr (fun t ht hW => ⟨rfl, by rw [ht]; exact hP, hD, hS.F ht⟩) hS.2.2 dX2_insert_14
  · have c_1 : ¬ 200 ≤ dn := fun h9 => c_1 ((nI_leI (a := 200) (b := dn) (by omega) (by omega)).mpr h9)
    rw [if_neg c_1] at hE
    refine lv_iload_n hx hb dX2_insert_10 rfl (lv_at hl 1 rfl) ?_
    refine lv_if_ge (tgt := 15) hx hb dX2_insert_11 (by decide) (fun c_2 => ?_) (fun c_2 => ?_)
    · have c_2 : 0 ≤ fi := (nI_leI (a := 0) (b := fi) (by omega) (by omega)).mp c_2
      rw [if_pos c_2] at hE
      refine lv_aload_n hx hb dX2_insert_15 rfl (lv_at hl 0 rfl) ?_
      refine va_get (D := D) (ci := 3) (v := .int (nI dn)) (C := RX2) (T := TX2) (N := 4) hx hb hts iw_3 hown hK hP 0 rfl rfl 3 (by decide) (hts (.fieldLink RX2 24 "DepositCodes$Doubles" "size" "I") (by decide +kernel)) (fun _ h9 => h9) rfl dX2_insert_16 ?_
      refine lv_istore (lv' := [(6, .int (nI dn)), (0, .ref qd), (1, .int (nI fi)), (2, .long v), (4, .int pa), (5, .int pb)]) hx hb dX2_insert_19 hl (by decide) rfl (fun ls hl => ?_)
      exact loop_21 (dn + 1) dn dz da db (by omega) (by omega) (by omega) hE _ _ hP hD hS ls (lv_sub hl [0, 1, 2, 3, 4, 5] rfl)
    · have c_2 : ¬ 0 ≤ fi := fun h9 => c_2 ((nI_leI (a := 0) (b := fi) (by omega) (by omega)).mpr h9)
      rw [if_neg c_2] at hE
      subst hE
      exact W.vret hx hb hr (fun t ht hW => ⟨rfl, by rw [ht]; exact hP, hD, hS.F ht⟩) hS.2.2 dX2_insert_14
theorem FX2_insert_l21_n (dn fi : Nat) (v : Int64) (pa pb : Int32) (n : Nat) : ∀ (pq : Nat) (dz : Nat → Int64) (da db : Nat → Int32), pq < n → (FX2_insert_l21 dn fi v pa pb n pq dz da db).2.2.2 = dn + 1 := by
  induction n with
  | zero => intro pq dz da db h; omega
  | succ n ih =>
    intro pq dz da db h
    rw [FX2_insert_l21]
    split
    · rfl
    · split
      · rfl
      · exact ih _ _ _ _ (by omega)
theorem FX2_insert_le {dz : Nat → Int64} {da db : Nat → Int32} {dn fi : Nat} {v : Int64} {pa pb : Int32} (h : dn ≤ 200) : (FX2_insert dz da db dn fi v pa pb).2.2.2 ≤ 200 := by
  unfold FX2_insert
  split
  · exact h
  · split
    · rw [FX2_insert_l21_n _ _ _ _ _ _ _ _ _ _ (by omega)]; omega
    · exact h
