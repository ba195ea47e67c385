def FX8_tellDoubles_l11 (ys : Nat → Int64) (yp : Nat → Int32) (yn : Nat) (dn : Nat) (sa : Int32) (sb : Int32) : Nat → Nat → (Nat → Int32) → (Nat → Int64) → (Nat → Int32) → (Nat → Int32) → Nat → Int32 × (Nat → Int32) × (Nat → Int64) × (Nat → Int32) × (Nat → Int32) × Nat
  | 0, _, _, _, _, _, _ => (0, fun _ => 0, fun _ => 0, fun _ => 0, fun _ => 0, 0)
  | n + 1, k, ytx, dzx, dax, dbx, dnx => if yn ≤ k then ((nI dnx) - (nI dn), ytx, dzx, dax, dbx, dnx) else (if (FX6_isOf ytx yn (nI k) sb) = 0 then FX8_tellDoubles_l11 ys yp yn dn sa sb n (k + 1) ytx dzx dax dbx dnx else (if (FX6_find ys ytx yn (FX6_serialOf ys yn (nI k)) sa) = (-1) then FX8_tellDoubles_l11 ys yp yn dn sa sb n (k + 1) ytx dzx dax dbx dnx else FX8_tellDoubles_l11 ys yp yn dn sa sb n (k + 1) (FX6_leaveSet ytx yn (nI k)) ((FX2_insert dzx dax dbx dnx dn (FX6_serialOf ys yn (nI k)) (FX6_payerOf yp yn (FX6_find ys ytx yn (FX6_serialOf ys yn (nI k)) sa)) (FX6_payerOf yp yn (nI k))).1) ((FX2_insert dzx dax dbx dnx dn (FX6_serialOf ys yn (nI k)) (FX6_payerOf yp yn (FX6_find ys ytx yn (FX6_serialOf ys yn (nI k)) sa)) (FX6_payerOf yp yn (nI k))).2.1) ((FX2_insert dzx dax dbx dnx dn (FX6_serialOf ys yn (nI k)) (FX6_payerOf yp yn (FX6_find ys ytx yn (FX6_serialOf ys yn (nI k)) sa)) (FX6_payerOf yp yn (nI k))).2.2.1) ((FX2_insert dzx dax dbx dnx dn (FX6_serialOf ys yn (nI k)) (FX6_payerOf yp yn (FX6_find ys ytx yn (FX6_serialOf ys yn (nI k)) sa)) (FX6_payerOf yp yn (nI k))).2.2.2)))
def FX8_tellDoubles (ys : Nat → Int64) (yp : Nat → Int32) (yt : Nat → Int32) (yn : Nat) (dz : Nat → Int64) (da : Nat → Int32) (db : Nat → Int32) (dn : Nat) (sa : Int32) (sb : Int32) : Int32 × (Nat → Int32) × (Nat → Int64) × (Nat → Int32) × (Nat → Int32) × Nat := FX8_tellDoubles_l11 ys yp yn dn sa sb (yn + 1) 0 yt dz da db dn
set_option maxHeartbeats 4000000 in
set_option maxRecDepth 100000 in
theorem kX8_tellDoubles (l : Launch) (D : va_G) (cI cJ cZ : ClassId) (q0 : Nat) (qb : Nat) (qm : Nat) (qp : Nat) (qy : Nat) (qd : Nat) (qc : Nat) (qf : Nat) (qv : Nat) (lr : Int32) (y1 : Nat) (y2 : Nat) (y3 : Nat) (y4 : Nat) (y5 : Nat) (y6 : Nat) (ys : Nat → Int64) (yp : Nat → Int32) (yt : Nat → Int32) (yh : Nat → Int32) (ym : Nat → Int32) (yr : Nat → Int32) (yn : Nat) (d1 : Nat) (d2 : Nat) (d3 : Nat) (dz : Nat → Int64) (da : Nat → Int32) (db : Nat → Int32) (dn : Nat) (sa : Int32) (sb : Int32) (sz : Nat) (hyn : yn ≤ 200) (hdn : dn ≤ 200) : Met l yX8_tellDoubles wsX8_tellDoubles ({ frames := 2, cells := 0, slots := 0, locals := 43 }) (mP D (tz cI cJ cZ) [.ref q0, .int sa, .int sb] sz [(q0, .inr (8, [.ref qb, .ref qm, .ref qp, .ref qy, .ref qd, .ref qc, .ref qf, .ref qv, .int lr])), (qy, .inr (6, [.ref y1, .ref y2, .ref y3, .ref y4, .ref y5, .ref y6, .int (nI yn)])), (y1, .inl (cJ, 200, .inr (.inl ys))), (y2, .inl (cI, 200, .inl yp)), (y3, .inl (cI, 200, .inl yt)), (y4, .inl (cI, 200, .inl yh)), (y5, .inl (cI, 200, .inl ym)), (y6, .inl (cI, 200, .inl yr)), (qd, .inr (3, [.ref d1, .ref d2, .ref d3, .int (nI dn)])), (d1, .inl (cJ, 200, .inr (.inl dz))), (d2, .inl (cI, 200, .inl da)), (d3, .inl (cI, 200, .inl db))]) (mQ D (some (.int ((FX8_tellDoubles ys yp yt yn dz da db dn sa sb).1))) [(q0, .inr (8, [.ref qb, .ref qm, .ref qp, .ref qy, .ref qd, .ref qc, .ref qf, .ref qv, .int lr])), (qy, .inr (6, [.ref y1, .ref y2, .ref y3, .ref y4, .ref y5, .ref y6, .int (nI yn)])), (y1, .inl (cJ, 200, .inr (.inl ys))), (y2, .inl (cI, 200, .inl yp)), (y3, .inl (cI, 200, .inl ((FX8_tellDoubles ys yp yt yn dz da db dn sa sb).2.1))), (y4, .inl (cI, 200, .inl yh)), (y5, .inl (cI, 200, .inl ym)), (y6, .inl (cI, 200, .inl yr)), (qd, .inr (3, [.ref d1, .ref d2, .ref d3, .int (nI ((FX8_tellDoubles ys yp yt yn dz da db dn sa sb).2.2.2.2.2))])), (d1, .inl (cJ, 200, .inr (.inl ((FX8_tellDoubles ys yp yt yn dz da db dn sa sb).2.2.1)))), (d2, .inl (cI, 200, .inl ((FX8_tellDoubles ys yp yt yn dz da db dn sa sb).2.2.2.1))), (d3, .inl (cI, 200, .inl ((FX8_tellDoubles ys yp yt yn dz da db dn sa sb).2.2.2.2.1)))] (va_A [(q0, .inr (8, [.ref qb, .ref qm, .ref qp, .ref qy, .ref qd, .ref qc, .ref qf, .ref qv, .int lr])), (qy, .inr (6, [.ref y1, .ref y2, .ref y3, .ref y4, .ref y5, .ref y6, .int (nI yn)])), (y1, .inl (cJ, 200, .inr (.inl ys))), (y2, .inl (cI, 200, .inl yp)), (y3, .inl (cI, 200, .inl yt)), (y4, .inl (cI, 200, .inl yh)), (y5, .inl (cI, 200, .inl ym)), (y6, .inl (cI, 200, .inl yr)), (qd, .inr (3, [.ref d1, .ref d2, .ref d3, .int (nI dn)])), (d1, .inl (cJ, 200, .inr (.inl dz))), (d2, .inl (cI, 200, .inl da)), (d3, .inl (cI, 200, .inl db))] sz)) 0 0 (va_A [(q0, .inr (8, [.ref qb, .ref qm, .ref qp, .ref qy, .ref qd, .ref qc, .ref qf, .ref qv, .int lr])), (qy, .inr (6, [.ref y1, .ref y2, .ref y3, .ref y4, .ref y5, .ref y6, .int (nI yn)])), (y1, .inl (cJ, 200, .inr (.inl ys))), (y2, .inl (cI, 200, .inl yp)), (y3, .inl (cI, 200, .inl yt)), (y4, .inl (cI, 200, .inl yh)), (y5, .inl (cI, 200, .inl ym)), (y6, .inl (cI, 200, .inl yr)), (qd, .inr (3, [.ref d1, .ref d2, .ref d3, .int (nI dn)])), (d1, .inl (cJ, 200, .inr (.inl dz))), (d2, .inl (cI, 200, .inl da)), (d3, .inl (cI, 200, .inl db))] sz) := by
  refine Met.ofW (cc := cX8_tellDoubles) (maxL := 6) (ret := (some .int)) (by decide) rfl ?_
  intro p e s m args below meth c s₁ B hml hv
  obtain ⟨rfl, hsz, hP, hK, hD0, hN⟩ := hv
  have hx := B.exec
  have hb := B.bytes
  have hr := B.returns
  have hts := atoms_spec (ws := wsX8_tellDoubles) B.pre
  have hown : s.vm.findClass RX8 = some m.cls := findClass_of_methodNamed B.named
  have hlocks := B.notSynchronized
  have iw_8 : ∀ w ∈ u_ws RX8 TX8 9, w ∈ wsX8_tellDoubles := by decide +kernel
  subst hsz
  have hD := hD0.self (sz := s.heap.size)
  generalize hE : FX8_tellDoubles ys yp yt yn dz da db dn sa sb = R0
  generalize hAe : va_A [(q0, .inr (8, [.ref qb, .ref qm, .ref qp, .ref qy, .ref qd, .ref qc, .ref qf, .ref qv, .int lr])), (qy, .inr (6, [.ref y1, .ref y2, .ref y3, .ref y4, .ref y5, .ref y6, .int (nI yn)])), (y1, .inl (cJ, 200, .inr (.inl ys))), (y2, .inl (cI, 200, .inl yp)), (y3, .inl (cI, 200, .inl yt)), (y4, .inl (cI, 200, .inl yh)), (y5, .inl (cI, 200, .inl ym)), (y6, .inl (cI, 200, .inl yr)), (qd, .inr (3, [.ref d1, .ref d2, .ref d3, .int (nI dn)])), (d1, .inl (cJ, 200, .inr (.inl dz))), (d2, .inl (cI, 200, .inl da)), (d3, .inl (cI, 200, .inl db))] s.heap.size = A at hD ⊢
  have hA : ∀ q : Nat, s.heap.size ≤ q → A q := fun q h => by rw [← hAe]; exact Or.inr h
  have hS : va_S A s.heap s.heap [] := va_S.rf
  rw [FX8_tellDoubles] at hE
  have hl := lv_entry ([.ref q0, .int sa, .int sb]) (n := 6) (Nat.le_of_ble_eq_true rfl)
  rw [lg_entry_eq]
  generalize (lg_sl ([.ref q0, .int sa, .int sb]) ++ List.replicate (6 - (lg_sl ([.ref q0, .int sa, .int sb])).length) Slot.unset).toArray = ls at hl ⊢
  have hl : lv_has ls 6 [(0, .ref q0), (1, .int sa), (2, .int sb)] := hl
  have loop_11 : ∀ (n : Nat) (k : Nat) (ytx : Nat → Int32) (dzx : Nat → Int64) (dax : Nat → Int32) (dbx : Nat → Int32) (dnx : Nat), k ≤ yn → k + n = yn + 1 → dnx ≤ 200 → FX8_tellDoubles_l11 ys yp yn dn sa sb n k ytx dzx dax dbx dnx = R0 → ∀ (H : Heap) (locs : List Loc), va_P D vwCl [(q0, .inr (8, [.ref qb, .ref qm, .ref qp, .ref qy, .ref qd, .ref qc, .ref qf, .ref qv, .int lr])), (qy, .inr (6, [.ref y1, .ref y2, .ref y3, .ref y4, .ref y5, .ref y6, .int (nI yn)])), (y1, .inl (cJ, 200, .inr (.inl ys))), (y2, .inl (cI, 200, .inl yp)), (y3, .inl (cI, 200, .inl ytx)), (y4, .inl (cI, 200, .inl yh)), (y5, .inl (cI, 200, .inl ym)), (y6, .inl (cI, 200, .inl yr)), (qd, .inr (3, [.ref d1, .ref d2, .ref d3, .int (nI dnx)])), (d1, .inl (cJ, 200, .inr (.inl dzx))), (d2, .inl (cI, 200, .inl dax)), (d3, .inl (cI, 200, .inl dbx))] H → va_D A [(q0, .inr (8, [.ref qb, .ref qm, .ref qp, .ref qy, .ref qd, .ref qc, .ref qf, .ref qv, .int lr])), (qy, .inr (6, [.ref y1, .ref y2, .ref y3, .ref y4, .ref y5, .ref y6, .int (nI yn)])), (y1, .inl (cJ, 200, .inr (.inl ys))), (y2, .inl (cI, 200, .inl yp)), (y3, .inl (cI, 200, .inl ytx)), (y4, .inl (cI, 200, .inl yh)), (y5, .inl (cI, 200, .inl ym)), (y6, .inl (cI, 200, .inl yr)), (qd, .inr (3, [.ref d1, .ref d2, .ref d3, .int (nI dnx)])), (d1, .inl (cJ, 200, .inr (.inl dzx))), (d2, .inl (cI, 200, .inl dax)), (d3, .inl (cI, 200, .inl dbx))] → va_S A s.heap H locs → ∀ ls : Array Slot, lv_has ls 6 [(4, .int (nI k)), (3, .int (nI dn)), (0, .ref q0), (1, .int sa), (2, .int sb)] → W p l e (headSpec wsX8_tellDoubles ({ frames := 2, cells := 0, slots := 0, locals := 43 })).room s m ([.ref q0, .int sa, .int sb] : List Value).toArray below meth c H locs 0 0 (MQ below (mQ D (some (.int R0.1)) [(q0, .inr (8, [.ref qb, .ref qm, .ref qp, .ref qy, .ref qd, .ref qc, .ref qf, .ref qv, .int lr])), (qy, .inr (6, [.ref y1, .ref y2, .ref y3, .ref y4, .ref y5, .ref y6, .int (nI yn)])), (y1, .inl (cJ, 200, .inr (.inl ys))), (y2, .inl (cI, 200, .inl yp)), (y3, .inl (cI, 200, .inl R0.2.1)), (y4, .inl (cI, 200, .inl yh)), (y5, .inl (cI, 200, .inl ym)), (y6, .inl (cI, 200, .inl yr)), (qd, .inr (3, [.ref d1, .ref d2, .ref d3, .int (nI R0.2.2.2.2.2)])), (d1, .inl (cJ, 200, .inr (.inl R0.2.2.1))), (d2, .inl (cI, 200, .inl R0.2.2.2.1)), (d3, .inl (cI, 200, .inl R0.2.2.2.2.1))] A) ([.ref q0, .int sa, .int sb] : List Value).toArray s 0 0 A) (F0 m 11 ls []) := by
    intro n
    induction n with
    | zero =>
      intro k ytx dzx dax dbx dnx i_1 i_2 i_3
      exact absurd i_1 (by omega)
    | succ n ih =>
      intro k ytx dzx dax dbx dnx i_1 i_2 i_3 hE H locs hP hD hS ls hl
      rw [FX8_tellDoubles_l11] at hE
      refine lv_iload hx hb dX8_tellDoubles_11 (lv_at hl 0 rfl) ?_
      refine lv_aload_n hx hb dX8_tellDoubles_13 rfl (lv_at hl 2 rfl) ?_
      refine va_get (D := D) (ci := 8) (v := .ref qy) (C := RX8) (T := TX8) (N := 9) hx hb hts iw_8 hown hK hP 0 rfl rfl 3 (by decide) (hts (.fieldLink RX8 33 "DepositCodes" "payments" "LDepositCodes$Payments;") (by decide +kernel)) (fun _ h9 => h9) rfl dX8_tellDoubles_14 ?_
      refine rd_call (va_runV (As := []) (rest := [.int (nI k)]) ⟨hx, hb, hml, hown, hts⟩ (kX6_size l D cI cJ cZ qy y1 y2 y3 y4 y5 y6 ys yp ytx yh ym yr yn) (cwV 0 hts gX8_tellDoubles_X6_size rfl rfl rfl (by decide +kernel) ⟨Nat.le_of_ble_eq_true rfl, Nat.le_of_ble_eq_true rfl⟩) ⟨rP_blind, va_recv hK hP (ci := 6) (q0 := 1) rfl rfl, rP_pre (hP.sub [1, 2, 3, 4, 5, 6, 7] rfl) hK hN⟩ rfl rfl hl.1 rfl (lv_room (Nat.le_of_ble_eq_true rfl)) dX8_tellDoubles_17 ⟨Nat.zero_le _, Nat.zero_le _⟩) ?_
      refine lv_icmp_ge (tgt := 111) hx hb dX8_tellDoubles_20 (by decide) (fun c_1 => ?_) (fun c_1 => ?_)
      · have c_1 : yn ≤ k := (nI_leI (a := yn) (b := k) (by omega) (by omega)).mp c_1
        rw [if_pos c_1] at hE
        refine lv_aload_n hx hb dX8_tellDoubles_111 rfl (lv_at hl 2 rfl) ?_
        refine va_get (D := D) (ci := 8) (v := .ref qd) (C := RX8) (T := TX8) (N := 9) hx hb hts iw_8 hown hK hP 0 rfl rfl 4 (by decide) (hts (.fieldLink RX8 40 "DepositCodes" "doubles" "LDepositCodes$Doubles;") (by decide +kernel)) (fun _ h9 => h9) rfl dX8_tellDoubles_112 ?_
        refine rd_call (va_runV (As := []) (rest := []) ⟨hx, hb, hml, hown, hts⟩ (kX2_size l D cI cJ cZ qd d1 d2 d3 dzx dax dbx dnx) (cwV 0 hts gX8_tellDoubles_X2_size rfl rfl rfl (by decide +kernel) ⟨Nat.le_of_ble_eq_true rfl, Nat.le_of_ble_eq_true rfl⟩) ⟨rP_blind, va_recv hK hP (ci := 3) (q0 := 8) rfl rfl, rP_pre (hP.sub [8, 9, 10, 11] rfl) hK hN⟩ rfl rfl hl.1 rfl (lv_room (Nat.le_of_ble_eq_true rfl)) dX8_tellDoubles_115 ⟨Nat.zero_le _, Nat.zero_le _⟩) ?_
        refine lv_iload_n hx hb dX8_tellDoubles_118 rfl (lv_at hl 1 rfl) ?_
        refine lv_isub hx hb dX8_tellDoubles_119 ?_
        subst hE
        exact W.iret hx hb hr (fun t ht hW => ⟨rfl, by rw [ht]; exact hP, hD, hS.F ht⟩) hS.2.2 dX8_tellDoubles_120
      · have c_1 : ¬ yn ≤ k := fun h9 => c_1 ((nI_leI (a := yn) (b := k) (by omega) (by omega)).mpr h9)
        rw [if_neg c_1] at hE
        refine lv_aload_n hx hb dX8_tellDoubles_23 rfl (lv_at hl 2 rfl) ?_
        refine va_get (D := D) (ci := 8) (v := .ref qy) (C := RX8) (T := TX8) (N := 9) hx hb hts iw_8 hown hK hP 0 rfl rfl 3 (by decide) (hts (.fieldLink RX8 33 "DepositCodes" "payments" "LDepositCodes$Payments;") (by decide +kernel)) (fun _ h9 => h9) rfl dX8_tellDoubles_24 ?_
        refine lv_iload hx hb dX8_tellDoubles_27 (lv_at hl 0 rfl) ?_
        refine lv_iload_n hx hb dX8_tellDoubles_29 rfl (lv_at hl 4 rfl) ?_
        refine rd_call (va_runV (As := [.int (nI k), .int sb]) (rest := []) ⟨hx, hb, hml, hown, hts⟩ (kX6_isOf l D cI cJ cZ qy y1 y2 y3 y4 y5 y6 ys yp ytx yh ym yr yn (nI k) sb (by first | assumption | omega)) (cwV 2 hts gX8_tellDoubles_X6_isOf rfl rfl rfl (by decide +kernel) ⟨Nat.le_of_ble_eq_true rfl, Nat.le_of_ble_eq_true rfl⟩) ⟨rP_blind, va_recv hK hP (ci := 6) (q0 := 1) rfl rfl, rP_pre (hP.sub [1, 2, 3, 4, 5, 6, 7] rfl) hK hN⟩ rfl rfl hl.1 rfl (lv_room (Nat.le_of_ble_eq_true rfl)) dX8_tellDoubles_30 ⟨Nat.zero_le _, Nat.zero_le _⟩) ?_
        refine lv_if_eq (tgt := 105) hx hb dX8_tellDoubles_33 (by decide) (fun c_2 => ?_) (fun c_2 => ?_)
        · rw [if_pos c_2] at hE
          refine lv_iinc (v := nI (k + 1)) (lv' := [(4, .int (nI (k + 1))), (3, .int (nI dn)), (0, .ref q0), (1, .int sa), (2, .int sb)]) hx hb dX8_tellDoubles_105 hl (k := 0) rfl (nI_1 k) (by decide) rfl (fun ls hl => ?_)
          refine lv_goto (tgt := 11) hx hb dX8_tellDoubles_108 (by decide) ?_
          exact ih (k + 1) ytx dzx dax dbx dnx (by omega) (by omega) (by first | assumption | exact FX2_insert_le i_3) hE _ _ hP hD hS ls (lv_sub hl [0, 1, 2, 3, 4] rfl)
        · rw [if_neg c_2] at hE
          refine lv_aload_n hx hb dX8_tellDoubles_36 rfl (lv_at hl 2 rfl) ?_
          refine va_get (D := D) (ci := 8) (v := .ref qy) (C := RX8) (T := TX8) (N := 9) hx hb hts iw_8 hown hK hP 0 rfl rfl 3 (by decide) (hts (.fieldLink RX8 33 "DepositCodes" "payments" "LDepositCodes$Payments;") (by decide +kernel)) (fun _ h9 => h9) rfl dX8_tellDoubles_37 ?_
          refine lv_aload_n hx hb dX8_tellDoubles_40 rfl (lv_at hl 2 rfl) ?_
          refine va_get (D := D) (ci := 8) (v := .ref qy) (C := RX8) (T := TX8) (N := 9) hx hb hts iw_8 hown hK hP 0 rfl rfl 3 (by decide) (hts (.fieldLink RX8 33 "DepositCodes" "payments" "LDepositCodes$Payments;") (by decide +kernel)) (fun _ h9 => h9) rfl dX8_tellDoubles_41 ?_
          refine lv_iload hx hb dX8_tellDoubles_44 (lv_at hl 0 rfl) ?_
          refine rd_call (va_runV (As := [.int (nI k)]) (rest := [.ref qy]) ⟨hx, hb, hml, hown, hts⟩ (kX6_serialOf l D cI cJ cZ qy y1 y2 y3 y4 y5 y6 ys yp ytx yh ym yr yn (nI k) (by first | assumption | omega)) (cwV 1 hts gX8_tellDoubles_X6_serialOf rfl rfl rfl (by decide +kernel) ⟨Nat.le_of_ble_eq_true rfl, Nat.le_of_ble_eq_true rfl⟩) ⟨rP_blind, va_recv hK hP (ci := 6) (q0 := 1) rfl rfl, rP_pre (hP.sub [1, 2, 3, 4, 5, 6, 7] rfl) hK hN⟩ rfl rfl hl.1 rfl (lv_room (Nat.le_of_ble_eq_true rfl)) dX8_tellDoubles_46 ⟨Nat.zero_le _, Nat.zero_le _⟩) ?_
          refine lv_iload_n hx hb dX8_tellDoubles_49 rfl (lv_at hl 3 rfl) ?_
          refine rd_call (va_runV (As := [.long (FX6_serialOf ys yn (nI k)), .int sa]) (rest := []) ⟨hx, hb, hml, hown, hts⟩ (kX6_find l D cI cJ cZ qy y1 y2 y3 y4 y5 y6 ys yp ytx yh ym yr yn (FX6_serialOf ys yn (nI k)) sa (by first | assumption | omega)) (cwV 2 hts gX8_tellDoubles_X6_find rfl rfl rfl (by decide +kernel) ⟨Nat.le_of_ble_eq_true rfl, Nat.le_of_ble_eq_true rfl⟩) ⟨rP_blind, va_recv hK hP (ci := 6) (q0 := 1) rfl rfl, rP_pre (hP.sub [1, 2, 3, 4, 5, 6, 7] rfl) hK hN⟩ rfl rfl hl.1 rfl (lv_room (Nat.le_of_ble_eq_true rfl)) dX8_tellDoubles_50 ⟨Nat.zero_le _, Nat.zero_le _⟩) ?_
          refine lv_istore (lv' := [(5, .int (FX6_find ys ytx yn (FX6_serialOf ys yn (nI k)) sa)), (4, .int (nI k)), (3, .int (nI dn)), (0, .ref q0), (1, .int sa), (2, .int sb)]) hx hb dX8_tellDoubles_53 hl (by decide) rfl (fun ls hl => ?_)
          refine lv_iload hx hb dX8_tellDoubles_55 (lv_at hl 0 rfl) ?_
          refine lv_iconst (v := (-1)) hx hb dX8_tellDoubles_57 (by decide) ?_
          refine lv_icmp_eq (tgt := 105) hx hb dX8_tellDoubles_58 (by decide) (fun c_3 => ?_) (fun c_3 => ?_)
          · rw [if_pos c_3] at hE
            refine lv_iinc (v := nI (k + 1)) (lv' := [(4, .int (nI (k + 1))), (5, .int (FX6_find ys ytx yn (FX6_serialOf ys yn (nI k)) sa)), (3, .int (nI dn)), (0, .ref q0), (1, .int sa), (2, .int sb)]) hx hb dX8_tellDoubles_105 hl (k := 1) rfl (nI_1 k) (by decide) rfl (fun ls hl => ?_)
            refine lv_goto (tgt := 11) hx hb dX8_tellDoubles_108 (by decide) ?_
            exact ih (k + 1) ytx dzx dax dbx dnx (by omega) (by omega) (by first | assumption | exact FX2_insert_le i_3) hE _ _ hP hD hS ls (lv_sub hl [0, 2, 3, 4, 5] rfl)
          · rw [if_neg c_3] at hE
            refine lv_aload_n hx hb dX8_tellDoubles_61 rfl (lv_at hl 3 rfl) ?_
            refine va_get (D := D) (ci := 8) (v := .ref qd) (C := RX8) (T := TX8) (N := 9) hx hb hts iw_8 hown hK hP 0 rfl rfl 4 (by decide) (hts (.fieldLink RX8 40 "DepositCodes" "doubles" "LDepositCodes$Doubles;") (by decide +kernel)) (fun _ h9 => h9) rfl dX8_tellDoubles_62 ?_
            refine lv_iload_n hx hb dX8_tellDoubles_65 rfl (lv_at hl 2 rfl) ?_
            refine lv_aload_n hx hb dX8_tellDoubles_66 rfl (lv_at hl 3 rfl) ?_
            refine va_get (D := D) (ci := 8) (v := .ref qy) (C := RX8) (T := TX8) (N := 9) hx hb hts iw_8 hown hK hP 0 rfl rfl 3 (by decide) (hts (.fieldLink RX8 33 "DepositCodes" "payments" "LDepositCodes$Payments;") (by decide +kernel)) (fun _ h9 => h9) rfl dX8_tellDoubles_67 ?_
            refine lv_iload hx hb dX8_tellDoubles_70 (lv_at hl 1 rfl) ?_
            refine rd_call (va_runV (As := [.int (nI k)]) (rest := [.int (nI dn), .ref qd]) ⟨hx, hb, hml, hown, hts⟩ (kX6_serialOf l D cI cJ cZ qy y1 y2 y3 y4 y5 y6 ys yp ytx yh ym yr yn (nI k) (by first | assumption | omega)) (cwV 1 hts gX8_tellDoubles_X6_serialOf rfl rfl rfl (by decide +kernel) ⟨Nat.le_of_ble_eq_true rfl, Nat.le_of_ble_eq_true rfl⟩) ⟨rP_blind, va_recv hK hP (ci := 6) (q0 := 1) rfl rfl, rP_pre (hP.sub [1, 2, 3, 4, 5, 6, 7] rfl) hK hN⟩ rfl rfl hl.1 rfl (lv_room (Nat.le_of_ble_eq_true rfl)) dX8_tellDoubles_72 ⟨Nat.zero_le _, Nat.zero_le _⟩) ?_
            refine lv_aload_n hx hb dX8_tellDoubles_75 rfl (lv_at hl 3 rfl) ?_
            refine va_get (D := D) (ci := 8) (v := .ref qy) (C := RX8) (T := TX8) (N := 9) hx hb hts iw_8 hown hK hP 0 rfl rfl 3 (by decide) (hts (.fieldLink RX8 33 "DepositCodes" "payments" "LDepositCodes$Payments;") (by decide +kernel)) (fun _ h9 => h9) rfl dX8_tellDoubles_76 ?_
            refine lv_iload hx hb dX8_tellDoubles_79 (lv_at hl 0 rfl) ?_
            refine rd_call (va_runV (As := [.int (FX6_find ys ytx yn (FX6_serialOf ys yn (nI k)) sa)]) (rest := [.long (FX6_serialOf ys yn (nI k)), .int (nI dn), .ref qd]) ⟨hx, hb, hml, hown, hts⟩ (kX6_payerOf l D cI cJ cZ qy y1 y2 y3 y4 y5 y6 ys yp ytx yh ym yr yn (FX6_find ys ytx yn (FX6_serialOf ys yn (nI k)) sa) (by first | assumption | omega)) (cwV 1 hts gX8_tellDoubles_X6_payerOf rfl rfl rfl (by decide +kernel) ⟨Nat.le_of_ble_eq_true rfl, Nat.le_of_ble_eq_true rfl⟩) ⟨rP_blind, va_recv hK hP (ci := 6) (q0 := 1) rfl rfl, rP_pre (hP.sub [1, 2, 3, 4, 5, 6, 7] rfl) hK hN⟩ rfl rfl hl.1 rfl (lv_room (Nat.le_of_ble_eq_true rfl)) dX8_tellDoubles_81 ⟨Nat.zero_le _, Nat.zero_le _⟩) ?_
            refine lv_aload_n hx hb dX8_tellDoubles_84 rfl (lv_at hl 3 rfl) ?_
            refine va_get (D := D) (ci := 8) (v := .ref qy) (C := RX8) (T := TX8) (N := 9) hx hb hts iw_8 hown hK hP 0 rfl rfl 3 (by decide) (hts (.fieldLink RX8 33 "DepositCodes" "payments" "LDepositCodes$Payments;") (by decide +kernel)) (fun _ h9 => h9) rfl dX8_tellDoubles_85 ?_
            refine lv_iload hx hb dX8_tellDoubles_88 (lv_at hl 1 rfl) ?_
            refine rd_call (va_runV (As := [.int (nI k)]) (rest := [.int (FX6_payerOf yp yn (FX6_find ys ytx yn (FX6_serialOf ys yn (nI k)) sa)), .long (FX6_serialOf ys yn (nI k)), .int (nI dn), .ref qd]) ⟨hx, hb, hml, hown, hts⟩ (kX6_payerOf l D cI cJ cZ qy y1 y2 y3 y4 y5 y6 ys yp ytx yh ym yr yn (nI k) (by first | assumption | omega)) (cwV 1 hts gX8_tellDoubles_X6_payerOf rfl rfl rfl (by decide +kernel) ⟨Nat.le_of_ble_eq_true rfl, Nat.le_of_ble_eq_true rfl⟩) ⟨rP_blind, va_recv hK hP (ci := 6) (q0 := 1) rfl rfl, rP_pre (hP.sub [1, 2, 3, 4, 5, 6, 7] rfl) hK hN⟩ rfl rfl hl.1 rfl (lv_room (Nat.le_of_ble_eq_true rfl)) dX8_tellDoubles_90 ⟨Nat.zero_le _, Nat.zero_le _⟩) ?_
            refine mt_call0 (wr := [(q0, .inr (8, [.ref qb, .ref qm, .ref qp, .ref qy, .ref qd, .ref qc, .ref qf, .ref qv, .int lr])), (qy, .inr (6, [.ref y1, .ref y2, .ref y3, .ref y4, .ref y5, .ref y6, .int (nI yn)])), (y1, .inl (cJ, 200, .inr (.inl ys))), (y2, .inl (cI, 200, .inl yp)), (y3, .inl (cI, 200, .inl ytx)), (y4, .inl (cI, 200, .inl yh)), (y5, .inl (cI, 200, .inl ym)), (y6, .inl (cI, 200, .inl yr))]) (ws' := [(q0, .inr (8, [.ref qb, .ref qm, .ref qp, .ref qy, .ref qd, .ref qc, .ref qf, .ref qv, .int lr])), (qy, .inr (6, [.ref y1, .ref y2, .ref y3, .ref y4, .ref y5, .ref y6, .int (nI yn)])), (y1, .inl (cJ, 200, .inr (.inl ys))), (y2, .inl (cI, 200, .inl yp)), (y3, .inl (cI, 200, .inl ytx)), (y4, .inl (cI, 200, .inl yh)), (y5, .inl (cI, 200, .inl ym)), (y6, .inl (cI, 200, .inl yr)), (qd, .inr (3, [.ref d1, .ref d2, .ref d3, .int (nI ((FX2_insert dzx dax dbx dnx dn (FX6_serialOf ys yn (nI k)) (FX6_payerOf yp yn (FX6_find ys ytx yn (FX6_serialOf ys yn (nI k)) sa)) (FX6_payerOf yp yn (nI k))).2.2.2))])), (d1, .inl (cJ, 200, .inr (.inl ((FX2_insert dzx dax dbx dnx dn (FX6_serialOf ys yn (nI k)) (FX6_payerOf yp yn (FX6_find ys ytx yn (FX6_serialOf ys yn (nI k)) sa)) (FX6_payerOf yp yn (nI k))).1)))), (d2, .inl (cI, 200, .inl ((FX2_insert dzx dax dbx dnx dn (FX6_serialOf ys yn (nI k)) (FX6_payerOf yp yn (FX6_find ys ytx yn (FX6_serialOf ys yn (nI k)) sa)) (FX6_payerOf yp yn (nI k))).2.1))), (d3, .inl (cI, 200, .inl ((FX2_insert dzx dax dbx dnx dn (FX6_serialOf ys yn (nI k)) (FX6_payerOf yp yn (FX6_find ys ytx yn (FX6_serialOf ys yn (nI k)) sa)) (FX6_payerOf yp yn (nI k))).2.2.1)))]) (st1 := []) (va_runV (As := [.int (nI dn), .long (FX6_serialOf ys yn (nI k)), .int (FX6_payerOf yp yn (FX6_find ys ytx yn (FX6_serialOf ys yn (nI k)) sa)), .int (FX6_payerOf yp yn (nI k))]) (rest := []) ⟨hx, hb, hml, hown, hts⟩ (kX2_insert l D cI cJ cZ qd d1 d2 d3 dzx dax dbx dnx dn (FX6_serialOf ys yn (nI k)) (FX6_payerOf yp yn (FX6_find ys ytx yn (FX6_serialOf ys yn (nI k)) sa)) (FX6_payerOf yp yn (nI k)) _ (by first | assumption | omega) (by first | assumption | omega)) (cwV 4 hts gX8_tellDoubles_X2_insert rfl rfl rfl (by decide +kernel) ⟨Nat.le_of_ble_eq_true rfl, Nat.le_of_ble_eq_true rfl⟩) ⟨mP_blind, va_recv hK hP (ci := 3) (q0 := 8) rfl rfl, mP_pre (hP.sub [8, 9, 10, 11] rfl) (hD.sub [8, 9, 10, 11] (by decide) rfl) hK hN⟩ rfl rfl hl.1 rfl (lv_room (Nat.le_of_ble_eq_true rfl)) dX8_tellDoubles_93 ⟨Nat.zero_le _, Nat.zero_le _⟩) hP hD hS hA [8, 9, 10, 11] [0, 1, 2, 3, 4, 5, 6, 7] [0, 1, 2, 3, 4, 5, 6, 7, 8, 9, 10, 11] rfl rfl (by decide) (by decide) (by decide) rfl rfl (fun H locs hP hD hS => ?_)
            refine lv_aload_n hx hb dX8_tellDoubles_96 rfl (lv_at hl 3 rfl) ?_
            refine va_get (D := D) (ci := 8) (v := .ref qy) (C := RX8) (T := TX8) (N := 9) hx hb hts iw_8 hown hK hP 0 rfl rfl 3 (by decide) (hts (.fieldLink RX8 33 "DepositCodes" "payments" "LDepositCodes$Payments;") (by decide +kernel)) (fun _ h9 => h9) rfl dX8_tellDoubles_97 ?_
            refine lv_iload hx hb dX8_tellDoubles_100 (lv_at hl 1 rfl) ?_
            refine mt_call0 (wr := [(q0, .inr (8, [.ref qb, .ref qm, .ref qp, .ref qy, .ref qd, .ref qc, .ref qf, .ref qv, .int lr])), (qd, .inr (3, [.ref d1, .ref d2, .ref d3, .int (nI ((FX2_insert dzx dax dbx dnx dn (FX6_serialOf ys yn (nI k)) (FX6_payerOf yp yn (FX6_find ys ytx yn (FX6_serialOf ys yn (nI k)) sa)) (FX6_payerOf yp yn (nI k))).2.2.2))])), (d1, .inl (cJ, 200, .inr (.inl ((FX2_insert dzx dax dbx dnx dn (FX6_serialOf ys yn (nI k)) (FX6_payerOf yp yn (FX6_find ys ytx yn (FX6_serialOf ys yn (nI k)) sa)) (FX6_payerOf yp yn (nI k))).1)))), (d2, .inl (cI, 200, .inl ((FX2_insert dzx dax dbx dnx dn (FX6_serialOf ys yn (nI k)) (FX6_payerOf yp yn (FX6_find ys ytx yn (FX6_serialOf ys yn (nI k)) sa)) (FX6_payerOf yp yn (nI k))).2.1))), (d3, .inl (cI, 200, .inl ((FX2_insert dzx dax dbx dnx dn (FX6_serialOf ys yn (nI k)) (FX6_payerOf yp yn (FX6_find ys ytx yn (FX6_serialOf ys yn (nI k)) sa)) (FX6_payerOf yp yn (nI k))).2.2.1)))]) (ws' := [(q0, .inr (8, [.ref qb, .ref qm, .ref qp, .ref qy, .ref qd, .ref qc, .ref qf, .ref qv, .int lr])), (qy, .inr (6, [.ref y1, .ref y2, .ref y3, .ref y4, .ref y5, .ref y6, .int (nI yn)])), (y1, .inl (cJ, 200, .inr (.inl ys))), (y2, .inl (cI, 200, .inl yp)), (y3, .inl (cI, 200, .inl (FX6_leaveSet ytx yn (nI k)))), (y4, .inl (cI, 200, .inl yh)), (y5, .inl (cI, 200, .inl ym)), (y6, .inl (cI, 200, .inl yr)), (qd, .inr (3, [.ref d1, .ref d2, .ref d3, .int (nI ((FX2_insert dzx dax dbx dnx dn (FX6_serialOf ys yn (nI k)) (FX6_payerOf yp yn (FX6_find ys ytx yn (FX6_serialOf ys yn (nI k)) sa)) (FX6_payerOf yp yn (nI k))).2.2.2))])), (d1, .inl (cJ, 200, .inr (.inl ((FX2_insert dzx dax dbx dnx dn (FX6_serialOf ys yn (nI k)) (FX6_payerOf yp yn (FX6_find ys ytx yn (FX6_serialOf ys yn (nI k)) sa)) (FX6_payerOf yp yn (nI k))).1)))), (d2, .inl (cI, 200, .inl ((FX2_insert dzx dax dbx dnx dn (FX6_serialOf ys yn (nI k)) (FX6_payerOf yp yn (FX6_find ys ytx yn (FX6_serialOf ys yn (nI k)) sa)) (FX6_payerOf yp yn (nI k))).2.1))), (d3, .inl (cI, 200, .inl ((FX2_insert dzx dax dbx dnx dn (FX6_serialOf ys yn (nI k)) (FX6_payerOf yp yn (FX6_find ys ytx yn (FX6_serialOf ys yn (nI k)) sa)) (FX6_payerOf yp yn (nI k))).2.2.1)))]) (st1 := []) (va_runV (As := [.int (nI k)]) (rest := []) ⟨hx, hb, hml, hown, hts⟩ (kX6_leaveSet l D cI cJ cZ qy y1 y2 y3 y4 y5 y6 ys yp ytx yh ym yr yn (nI k) _ (by first | assumption | omega)) (cwV 1 hts gX8_tellDoubles_X6_leaveSet rfl rfl rfl (by decide +kernel) ⟨Nat.le_of_ble_eq_true rfl, Nat.le_of_ble_eq_true rfl⟩) ⟨mP_blind, va_recv hK hP (ci := 6) (q0 := 1) rfl rfl, mP_pre (hP.sub [1, 2, 3, 4, 5, 6, 7] rfl) (hD.sub [1, 2, 3, 4, 5, 6, 7] (by decide) rfl) hK hN⟩ rfl rfl hl.1 rfl (lv_room (Nat.le_of_ble_eq_true rfl)) dX8_tellDoubles_102 ⟨Nat.zero_le _, Nat.zero_le _⟩) hP hD hS hA [1, 2, 3, 4, 5, 6, 7] [0, 8, 9, 10, 11] [0, 5, 6, 7, 8, 9, 10, 11, 1, 2, 3, 4] rfl rfl (by decide) (by decide) (by decide) rfl rfl (fun H locs hP hD hS => ?_)
            refine lv_iinc (v := nI (k + 1)) (lv' := [(4, .int (nI (k + 1))), (5, .int (FX6_find ys ytx yn (FX6_serialOf ys yn (nI k)) sa)), (3, .int (nI dn)), (0, .ref q0), (1, .int sa), (2, .int sb)]) hx hb dX8_tellDoubles_105 hl (k := 1) rfl (nI_1 k) (by decide) rfl (fun ls hl => ?_)
            refine lv_goto (tgt := 11) hx hb dX8_tellDoubles_108 (by decide) ?_
            exact ih (k + 1) (FX6_leaveSet ytx yn (nI k)) ((FX2_insert dzx dax dbx dnx dn (FX6_serialOf ys yn (nI k)) (FX6_payerOf yp yn (FX6_find ys ytx yn (FX6_serialOf ys yn (nI k)) sa)) (FX6_payerOf yp yn (nI k))).1) ((FX2_insert dzx dax dbx dnx dn (FX6_serialOf ys yn (nI k)) (FX6_payerOf yp yn (FX6_find ys ytx yn (FX6_serialOf ys yn (nI k)) sa)) (FX6_payerOf yp yn (nI k))).2.1) ((FX2_insert dzx dax dbx dnx dn (FX6_serialOf ys yn (nI k)) (FX6_payerOf yp yn (FX6_find ys ytx yn (FX6_serialOf ys yn (nI k)) sa)) (FX6_payerOf yp yn (nI k))).2.2.1) ((FX2_insert dzx dax dbx dnx dn (FX6_serialOf ys yn (nI k)) (FX6_payerOf yp yn (FX6_find ys ytx yn (FX6_serialOf ys yn (nI k)) sa)) (FX6_payerOf yp yn (nI k))).2.2.2) (by omega) (by omega) (by first | assumption | exact FX2_insert_le i_3) hE _ _ hP hD hS ls (lv_sub hl [0, 2, 3, 4, 5] rfl)
  refine lv_aload_n hx hb dX8_tellDoubles_0 rfl (lv_at hl 0 rfl) ?_
  refine va_get (D := D) (ci := 8) (v := .ref qd) (C := RX8) (T := TX8) (N := 9) hx hb hts iw_8 hown hK hP 0 rfl rfl 4 (by decide) (hts (.fieldLink RX8 40 "DepositCodes" "doubles" "LDepositCodes$Doubles;") (by decide +kernel)) (fun _ h9 => h9) rfl dX8_tellDoubles_1 ?_
  refine rd_call (va_runV (As := []) (rest := []) ⟨hx, hb, hml, hown, hts⟩ (kX2_size l D cI cJ cZ qd d1 d2 d3 dz da db dn) (cwV 0 hts gX8_tellDoubles_X2_size rfl rfl rfl (by decide +kernel) ⟨Nat.le_of_ble_eq_true rfl, Nat.le_of_ble_eq_true rfl⟩) ⟨rP_blind, va_recv hK hP (ci := 3) (q0 := 8) rfl rfl, rP_pre (hP.sub [8, 9, 10, 11] rfl) hK hN⟩ rfl rfl hl.1 rfl (lv_room (Nat.le_of_ble_eq_true rfl)) dX8_tellDoubles_4 ⟨Nat.zero_le _, Nat.zero_le _⟩) ?_
  refine lv_istore_n (lv' := [(3, .int (nI dn)), (0, .ref q0), (1, .int sa), (2, .int sb)]) hx hb dX8_tellDoubles_7 rfl hl (by decide) rfl (fun ls hl => ?_)
  refine lv_iconst (v := 0) hx hb dX8_tellDoubles_8 (by decide) ?_
  refine lv_istore (lv' := [(4, .int 0), (3, .int (nI dn)), (0, .ref q0), (1, .int sa), (2, .int sb)]) hx hb dX8_tellDoubles_9 hl (by decide) rfl (fun ls hl => ?_)
  exact loop_11 (yn + 1) 0 yt dz da db dn (by omega) (by omega) (by omega) hE _ _ hP hD hS ls (lv_sub hl [0, 1, 2, 3, 4] rfl)
def FX8_join (ms : Nat → Int32) (mn : Nat) (ys : Nat → Int64) (yp : Nat → Int32) (yt : Nat → Int32) (yn : Nat) (dz : Nat → Int64) (da : Nat → Int32) (db : Nat → Int32) (dn : Nat) (ka : Int32) (kb : Int32) : Int32 × (Nat → Int32) × (Nat → Int32) × (Nat → Int64) × (Nat → Int32) × (Nat → Int32) × Nat := if (FX4_exists mn ka) = 0 then ((-1), ms, yt, dz, da, db, dn) else (if (FX4_exists mn kb) = 0 then ((-1), ms, yt, dz, da, db, dn) else (if (FX4_setOf ms mn ka) = (FX4_setOf ms mn kb) then (0, ms, yt, dz, da, db, dn) else ((FX8_tellDoubles ys yp yt yn dz da db dn (FX4_setOf ms mn ka) (FX4_setOf ms mn kb)).1, (FX4_moveSet ms mn (FX4_setOf ms mn kb) (FX4_setOf ms mn ka)), (FX6_moveSet ((FX8_tellDoubles ys yp yt yn dz da db dn (FX4_setOf ms mn ka) (FX4_setOf ms mn kb)).2.1) yn (FX4_setOf ms mn kb) (FX4_setOf ms mn ka)), (FX8_tellDoubles ys yp yt yn dz da db dn (FX4_setOf ms mn ka) (FX4_setOf ms mn kb)).2.2.1, (FX8_tellDoubles ys yp yt yn dz da db dn (FX4_setOf ms mn ka) (FX4_setOf ms mn kb)).2.2.2.1, (FX8_tellDoubles ys yp yt yn dz da db dn (FX4_setOf ms mn ka) (FX4_setOf ms mn kb)).2.2.2.2.1, (FX8_tellDoubles ys yp yt yn dz da db dn (FX4_setOf ms mn ka) (FX4_setOf ms mn kb)).2.2.2.2.2)))
set_option maxHeartbeats 4000000 in
set_option maxRecDepth 100000 in
theorem kX8_join (l : Launch) (D : va_G) (cI cJ cZ : ClassId) (q0 : Nat) (qb : Nat) (qm : Nat) (qp : Nat) (qy : Nat) (qd : Nat) (qc : Nat) (qf : Nat) (qv : Nat) (lr : Int32) (m1 : Nat) (m2 : Nat) (m3 : Nat) (m4 : Nat) (mf : Nat → Int32) (mp : Nat → Int32) (ms : Nat → Int32) (mu : Nat → Int32) (mn : Nat) (y1 : Nat) (y2 : Nat) (y3 : Nat) (y4 : Nat) (y5 : Nat) (y6 : Nat) (ys : Nat → Int64) (yp : Nat → Int32) (yt : Nat → Int32) (yh : Nat → Int32) (ym : Nat → Int32) (yr : Nat → Int32) (yn : Nat) (d1 : Nat) (d2 : Nat) (d3 : Nat) (dz : Nat → Int64) (da : Nat → Int32) (db : Nat → Int32) (dn : Nat) (ka : Int32) (kb : Int32) (sz : Nat) (hmn : mn ≤ 6) (hyn : yn ≤ 200) (hdn : dn ≤ 200) : Met l yX8_join wsX8_join ({ frames := 3, cells := 0, slots := 0, locals := 68 }) (mP D (tz cI cJ cZ) [.ref q0, .int ka, .int kb] sz [(q0, .inr (8, [.ref qb, .ref qm, .ref qp, .ref qy, .ref qd, .ref qc, .ref qf, .ref qv, .int lr])), (qm, .inr (5, [.ref m1, .ref m2, .ref m3, .ref m4, .int (nI mn)])), (m1, .inl (cZ, 6, .inl mf)), (m2, .inl (cZ, 6, .inl mp)), (m3, .inl (cI, 6, .inl ms)), (m4, .inl (cI, 6, .inl mu)), (qy, .inr (6, [.ref y1, .ref y2, .ref y3, .ref y4, .ref y5, .ref y6, .int (nI yn)])), (y1, .inl (cJ, 200, .inr (.inl ys))), (y2, .inl (cI, 200, .inl yp)), (y3, .inl (cI, 200, .inl yt)), (y4, .inl (cI, 200, .inl yh)), (y5, .inl (cI, 200, .inl ym)), (y6, .inl (cI, 200, .inl yr)), (qd, .inr (3, [.ref d1, .ref d2, .ref d3, .int (nI dn)])), (d1, .inl (cJ, 200, .inr (.inl dz))), (d2, .inl (cI, 200, .inl da)), (d3, .inl (cI, 200, .inl db))]) (mQ D (some (.int ((FX8_join ms mn ys yp yt yn dz da db dn ka kb).1))) [(q0, .inr (8, [.ref qb, .ref qm, .ref qp, .ref qy, .ref qd, .ref qc, .ref qf, .ref qv, .int lr])), (qm, .inr (5, [.ref m1, .ref m2, .ref m3, .ref m4, .int (nI mn)])), (m1, .inl (cZ, 6, .inl mf)), (m2, .inl (cZ, 6, .inl mp)), (m3, .inl (cI, 6, .inl ((FX8_join ms mn ys yp yt yn dz da db dn ka kb).2.1))), (m4, .inl (cI, 6, .inl mu)), (qy, .inr (6, [.ref y1, .ref y2, .ref y3, .ref y4, .ref y5, .ref y6, .int (nI yn)])), (y1, .inl (cJ, 200, .inr (.inl ys))), (y2, .inl (cI, 200, .inl yp)), (y3, .inl (cI, 200, .inl ((FX8_join ms mn ys yp yt yn dz da db dn ka kb).2.2.1))), (y4, .inl (cI, 200, .inl yh)), (y5, .inl (cI, 200, .inl ym)), (y6, .inl (cI, 200, .inl yr)), (qd, .inr (3, [.ref d1, .ref d2, .ref d3, .int (nI ((FX8_join ms mn ys yp yt yn dz da db dn ka kb).2.2.2.2.2.2))])), (d1, .inl (cJ, 200, .inr (.inl ((FX8_join ms mn ys yp yt yn dz da db dn ka kb).2.2.2.1)))), (d2, .inl (cI, 200, .inl ((FX8_join ms mn ys yp yt yn dz da db dn ka kb).2.2.2.2.1))), (d3, .inl (cI, 200, .inl ((FX8_join ms mn ys yp yt yn dz da db dn ka kb).2.2.2.2.2.1)))] (va_A [(q0, .inr (8, [.ref qb, .ref qm, .ref qp, .ref qy, .ref qd, .ref qc, .ref qf, .ref qv, .int lr])), (qm, .inr (5, [.ref m1, .ref m2, .ref m3, .ref m4, .int (nI mn)])), (m1, .inl (cZ, 6, .inl mf)), (m2, .inl (cZ, 6, .inl mp)), (m3, .inl (cI, 6, .inl ms)), (m4, .inl (cI, 6, .inl mu)), (qy, .inr (6, [.ref y1, .ref y2, .ref y3, .ref y4, .ref y5, .ref y6, .int (nI yn)])), (y1, .inl (cJ, 200, .inr (.inl ys))), (y2, .inl (cI, 200, .inl yp)), (y3, .inl (cI, 200, .inl yt)), (y4, .inl (cI, 200, .inl yh)), (y5, .inl (cI, 200, .inl ym)), (y6, .inl (cI, 200, .inl yr)), (qd, .inr (3, [.ref d1, .ref d2, .ref d3, .int (nI dn)])), (d1, .inl (cJ, 200, .inr (.inl dz))), (d2, .inl (cI, 200, .inl da)), (d3, .inl (cI, 200, .inl db))] sz)) 0 0 (va_A [(q0, .inr (8, [.ref qb, .ref qm, .ref qp, .ref qy, .ref qd, .ref qc, .ref qf, .ref qv, .int lr])), (qm, .inr (5, [.ref m1, .ref m2, .ref m3, .ref m4, .int (nI mn)])), (m1, .inl (cZ, 6, .inl mf)), (m2, .inl (cZ, 6, .inl mp)), (m3, .inl (cI, 6, .inl ms)), (m4, .inl (cI, 6, .inl mu)), (qy, .inr (6, [.ref y1, .ref y2, .ref y3, .ref y4, .ref y5, .ref y6, .int (nI yn)])), (y1, .inl (cJ, 200, .inr (.inl ys))), (y2, .inl (cI, 200, .inl yp)), (y3, .inl (cI, 200, .inl yt)), (y4, .inl (cI, 200, .inl yh)), (y5, .inl (cI, 200, .inl ym)), (y6, .inl (cI, 200, .inl yr)), (qd, .inr (3, [.ref d1, .ref d2, .ref d3, .int (nI dn)])), (d1, .inl (cJ, 200, .inr (.inl dz))), (d2, .inl (cI, 200, .inl da)), (d3, .inl (cI, 200, .inl db))] sz) := by
  refine Met.ofW (cc := cX8_join) (maxL := 6) (ret := (some .int)) (by decide) rfl ?_
  intro p e s m args below meth c s₁ B hml hv
  obtain ⟨rfl, hsz, hP, hK, hD0, hN⟩ := hv
  have hx := B.exec
  have hb := B.bytes
  have hr := B.returns
  have hts := atoms_spec (ws := wsX8_join) B.pre
  have hown : s.vm.findClass RX8 = some m.cls := findClass_of_methodNamed B.named
  have hlocks := B.notSynchronized
  have iw_8 : ∀ w ∈ u_ws RX8 TX8 9, w ∈ wsX8_join := by decide +kernel
  subst hsz
  have hD := hD0.self (sz := s.heap.size)
  generalize hE : FX8_join ms mn ys yp yt yn dz da db dn ka kb = R0
  generalize hAe : va_A [(q0, .inr (8, [.ref qb, .ref qm, .ref qp, .ref qy, .ref qd, .ref qc, .ref qf, .ref qv, .int lr])), (qm, .inr (5, [.ref m1, .ref m2, .ref m3, .ref m4, .int (nI mn)])), (m1, .inl (cZ, 6, .inl mf)), (m2, .inl (cZ, 6, .inl mp)), (m3, .inl (cI, 6, .inl ms)), (m4, .inl (cI, 6, .inl mu)), (qy, .inr (6, [.ref y1, .ref y2, .ref y3, .ref y4, .ref y5, .ref y6, .int (nI yn)])), (y1, .inl (cJ, 200, .inr (.inl ys))), (y2, .inl (cI, 200, .inl yp)), (y3, .inl (cI, 200, .inl yt)), (y4, .inl (cI, 200, .inl yh)), (y5, .inl (cI, 200, .inl ym)), (y6, .inl (cI, 200, .inl yr)), (qd, .inr (3, [.ref d1, .ref d2, .ref d3, .int (nI dn)])), (d1, .inl (cJ, 200, .inr (.inl dz))), (d2, .inl (cI, 200, .inl da)), (d3, .inl (cI, 200, .inl db))] s.heap.size = A at hD ⊢
  have hA : ∀ q : Nat, s.heap.size ≤ q → A q := fun q h => by rw [← hAe]; exact Or.inr h
  have hS : va_S A s.heap s.heap [] := va_S.rf
  rw [FX8_join] at hE
  have hl := lv_entry ([.ref q0, .int ka, .int kb]) (n := 6) (Nat.le_of_ble_eq_true rfl)
  rw [lg_entry_eq]
  generalize (lg_sl ([.ref q0, .int ka, .int kb]) ++ List.replicate (6 - (lg_sl ([.ref q0, .int ka, .int kb])).length) Slot.unset).toArray = ls at hl ⊢
  have hl : lv_has ls 6 [(0, .ref q0), (1, .int ka), (2, .int kb)] := hl
  refine lv_aload_n hx hb dX8_join_0 rfl (lv_at hl 0 rfl) ?_
  refine va_get (D := D) (ci := 8) (v := .ref qm) (C := RX8) (T := TX8) (N := 9) hx hb hts iw_8 hown hK hP 0 rfl rfl 1 (by decide) (hts (.fieldLink RX8 19 "DepositCodes" "machines" "LDepositCodes$Machines;") (by decide +kernel)) (fun _ h9 => h9) rfl dX8_join_1 ?_
  refine lv_iload_n hx hb dX8_join_4 rfl (lv_at hl 1 rfl) ?_
  refine rd_call (va_runV (As := [.int ka]) (rest := []) ⟨hx, hb, hml, hown, hts⟩ (kX4_exists l D cI cJ cZ qm m1 m2 m3 m4 mf mp ms mu mn ka) (cwV 1 hts gX8_join_X4_exists rfl rfl rfl (by decide +kernel) ⟨Nat.le_of_ble_eq_true rfl, Nat.le_of_ble_eq_true rfl⟩) ⟨rP_blind, va_recv hK hP (ci := 5) (q0 := 1) rfl rfl, rP_pre (hP.sub [1, 2, 3, 4, 5] rfl) hK hN⟩ rfl rfl hl.1 rfl (lv_room (Nat.le_of_ble_eq_true rfl)) dX8_join_5 ⟨Nat.zero_le _, Nat.zero_le _⟩) ?_
  refine lv_if_eq (tgt := 22) hx hb dX8_join_8 (by decide) (fun c_1 => ?_) (fun c_1 => ?_)
  · rw [if_pos c_1] at hE
    refine lv_iconst (v := (-1)) hx hb dX8_join_22 (by decide) ?_
    subst hE
    exact W.iret hx hb hr (fun t ht hW => ⟨rfl, by rw [ht]; exact hP, hD, hS.F ht⟩) hS.2.2 dX8_join_23
  · rw [if_neg c_1] at hE
    refine lv_aload_n hx hb dX8_join_11 rfl (lv_at hl 0 rfl) ?_
    refine va_get (D := D) (ci := 8) (v := .ref qm) (C := RX8) (T := TX8) (N := 9) hx hb hts iw_8 hown hK hP 0 rfl rfl 1 (by decide) (hts (.fieldLink RX8 19 "DepositCodes" "machines" "LDepositCodes$Machines;") (by decide +kernel)) (fun _ h9 => h9) rfl dX8_join_12 ?_
    refine lv_iload_n hx hb dX8_join_15 rfl (lv_at hl 2 rfl) ?_
    refine rd_call (va_runV (As := [.int kb]) (rest := []) ⟨hx, hb, hml, hown, hts⟩ (kX4_exists l D cI cJ cZ qm m1 m2 m3 m4 mf mp ms mu mn kb) (cwV 1 hts gX8_join_X4_exists rfl rfl rfl (by decide +kernel) ⟨Nat.le_of_ble_eq_true rfl, Nat.le_of_ble_eq_true rfl⟩) ⟨rP_blind, va_recv hK hP (ci := 5) (q0 := 1) rfl rfl, rP_pre (hP.sub [1, 2, 3, 4, 5] rfl) hK hN⟩ rfl rfl hl.1 rfl (lv_room (Nat.le_of_ble_eq_true rfl)) dX8_join_16 ⟨Nat.zero_le _, Nat.zero_le _⟩) ?_
    refine lv_if_ne (tgt := 24) hx hb dX8_join_19 (by decide) (fun c_2 => ?_) (fun c_2 => ?_)
    · rw [if_neg c_2] at hE
      refine lv_aload_n hx hb dX8_join_24 rfl (lv_at hl 0 rfl) ?_
      refine va_get (D := D) (ci := 8) (v := .ref qm) (C := RX8) (T := TX8) (N := 9) hx hb hts iw_8 hown hK hP 0 rfl rfl 1 (by decide) (hts (.fieldLink RX8 19 "DepositCodes" "machines" "LDepositCodes$Machines;") (by decide +kernel)) (fun _ h9 => h9) rfl dX8_join_25 ?_
      refine lv_iload_n hx hb dX8_join_28 rfl (lv_at hl 1 rfl) ?_
      refine rd_call (va_runV (As := [.int ka]) (rest := []) ⟨hx, hb, hml, hown, hts⟩ (kX4_setOf l D cI cJ cZ qm m1 m2 m3 m4 mf mp ms mu mn ka (by first | assumption | omega)) (cwV 1 hts gX8_join_X4_setOf rfl rfl rfl (by decide +kernel) ⟨Nat.le_of_ble_eq_true rfl, Nat.le_of_ble_eq_true rfl⟩) ⟨rP_blind, va_recv hK hP (ci := 5) (q0 := 1) rfl rfl, rP_pre (hP.sub [1, 2, 3, 4, 5] rfl) hK hN⟩ rfl rfl hl.1 rfl (lv_room (Nat.le_of_ble_eq_true rfl)) dX8_join_29 ⟨Nat.zero_le _, Nat.zero_le _⟩) ?_
      refine lv_istore_n (lv' := [(3, .int (FX4_setOf ms mn ka)), (0, .ref q0), (1, .int ka), (2, .int kb)]) hx hb dX8_join_32 rfl hl (by decide) rfl (fun ls hl => ?_)
      refine lv_aload_n hx hb dX8_join_33 rfl (lv_at hl 1 rfl) ?_
      refine va_get (D := D) (ci := 8) (v := .ref qm) (C := RX8) (T := TX8) (N := 9) hx hb hts iw_8 hown hK hP 0 rfl rfl 1 (by decide) (hts (.fieldLink RX8 19 "DepositCodes" "machines" "LDepositCodes$Machines;") (by decide +kernel)) (fun _ h9 => h9) rfl dX8_join_34 ?_
      refine lv_iload_n hx hb dX8_join_37 rfl (lv_at hl 3 rfl) ?_
      refine rd_call (va_runV (As := [.int kb]) (rest := []) ⟨hx, hb, hml, hown, hts⟩ (kX4_setOf l D cI cJ cZ qm m1 m2 m3 m4 mf mp ms mu mn kb (by first | assumption | omega)) (cwV 1 hts gX8_join_X4_setOf rfl rfl rfl (by decide +kernel) ⟨Nat.le_of_ble_eq_true rfl, Nat.le_of_ble_eq_true rfl⟩) ⟨rP_blind, va_recv hK hP (ci := 5) (q0 := 1) rfl rfl, rP_pre (hP.sub [1, 2, 3, 4, 5] rfl) hK hN⟩ rfl rfl hl.1 rfl (lv_room (Nat.le_of_ble_eq_true rfl)) dX8_join_38 ⟨Nat.zero_le _, Nat.zero_le _⟩) ?_
      refine lv_istore (lv' := [(4, .int (FX4_setOf ms mn kb)), (3, .int (FX4_setOf ms mn ka)), (0, .ref q0), (1, .int ka), (2, .int kb)]) hx hb dX8_join_41 hl (by decide) rfl (fun ls hl => ?_)
      refine lv_iload_n hx hb dX8_join_43 rfl (lv_at hl 1 rfl) ?_
      refine lv_iload hx hb dX8_join_44 (lv_at hl 0 rfl) ?_
      refine lv_icmp_ne (tgt := 51) hx hb dX8_join_46 (by decide) (fun c_3 => ?_) (fun c_3 => ?_)
      · rw [if_neg c_3] at hE
        refine lv_aload_n hx hb dX8_join_51 rfl (lv_at hl 2 rfl) ?_
        refine lv_iload_n hx hb dX8_join_52 rfl (lv_at hl 1 rfl) ?_
        refine lv_iload hx hb dX8_join_53 (lv_at hl 0 rfl) ?_
        refine mt_call0 (wr := [(qm, .inr (5, [.ref m1, .ref m2, .ref m3, .ref m4, .int (nI mn)])), (m1, .inl (cZ, 6, .inl mf)), (m2, .inl (cZ, 6, .inl mp)), (m3, .inl (cI, 6, .inl ms)), (m4, .inl (cI, 6, .inl mu))]) (ws' := [(q0, .inr (8, [.ref qb, .ref qm, .ref qp, .ref qy, .ref qd, .ref qc, .ref qf, .ref qv, .int lr])), (qm, .inr (5, [.ref m1, .ref m2, .ref m3, .ref m4, .int (nI mn)])), (m1, .inl (cZ, 6, .inl mf)), (m2, .inl (cZ, 6, .inl mp)), (m3, .inl (cI, 6, .inl ms)), (m4, .inl (cI, 6, .inl mu)), (qy, .inr (6, [.ref y1, .ref y2, .ref y3, .ref y4, .ref y5, .ref y6, .int (nI yn)])), (y1, .inl (cJ, 200, .inr (.inl ys))), (y2, .inl (cI, 200, .inl yp)), (y3, .inl (cI, 200, .inl ((FX8_tellDoubles ys yp yt yn dz da db dn (FX4_setOf ms mn ka) (FX4_setOf ms mn kb)).2.1))), (y4, .inl (cI, 200, .inl yh)), (y5, .inl (cI, 200, .inl ym)), (y6, .inl (cI, 200, .inl yr)), (qd, .inr (3, [.ref d1, .ref d2, .ref d3, .int (nI ((FX8_tellDoubles ys yp yt yn dz da db dn (FX4_setOf ms mn ka) (FX4_setOf ms mn kb)).2.2.2.2.2))])), (d1, .inl (cJ, 200, .inr (.inl ((FX8_tellDoubles ys yp yt yn dz da db dn (FX4_setOf ms mn ka) (FX4_setOf ms mn kb)).2.2.1)))), (d2, .inl (cI, 200, .inl ((FX8_tellDoubles ys yp yt yn dz da db dn (FX4_setOf ms mn ka) (FX4_setOf ms mn kb)).2.2.2.1))), (d3, .inl (cI, 200, .inl ((FX8_tellDoubles ys yp yt yn dz da db dn (FX4_setOf ms mn ka) (FX4_setOf ms mn kb)).2.2.2.2.1)))]) (st1 := [.int ((FX8_tellDoubles ys yp yt yn dz da db dn (FX4_setOf ms mn ka) (FX4_setOf ms mn kb)).1)]) (va_runV (As := [.int (FX4_setOf ms mn ka), .int (FX4_setOf ms mn kb)]) (rest := []) ⟨hx, hb, hml, hown, hts⟩ (kX8_tellDoubles l D cI cJ cZ q0 qb qm qp qy qd qc qf qv lr y1 y2 y3 y4 y5 y6 ys yp yt yh ym yr yn d1 d2 d3 dz da db dn (FX4_setOf ms mn ka) (FX4_setOf ms mn kb) _ (by first | assumption | omega) (by first | assumption | omega)) (cwV 2 hts gX8_join_X8_tellDoubles rfl rfl rfl (by decide +kernel) ⟨Nat.le_of_ble_eq_true rfl, Nat.le_of_ble_eq_true rfl⟩) ⟨mP_blind, va_recv hK hP (ci := 8) (q0 := 0) rfl rfl, mP_pre (hP.sub [0, 6, 7, 8, 9, 10, 11, 12, 13, 14, 15, 16] rfl) (hD.sub [0, 6, 7, 8, 9, 10, 11, 12, 13, 14, 15, 16] (by decide) rfl) hK hN⟩ rfl rfl hl.1 rfl (lv_room (Nat.le_of_ble_eq_true rfl)) dX8_join_55 ⟨Nat.zero_le _, Nat.zero_le _⟩) hP hD hS hA [0, 6, 7, 8, 9, 10, 11, 12, 13, 14, 15, 16] [1, 2, 3, 4, 5] [5, 0, 1, 2, 3, 4, 6, 7, 8, 9, 10, 11, 12, 13, 14, 15, 16] rfl rfl (by decide) (by decide) (by decide) rfl rfl (fun H locs hP hD hS => ?_)
        refine lv_istore (lv' := [(5, .int ((FX8_tellDoubles ys yp yt yn dz da db dn (FX4_setOf ms mn ka) (FX4_setOf ms mn kb)).1)), (4, .int (FX4_setOf ms mn kb)), (3, .int (FX4_setOf ms mn ka)), (0, .ref q0), (1, .int ka), (2, .int kb)]) hx hb dX8_join_58 hl (by decide) rfl (fun ls hl => ?_)
        refine lv_aload_n hx hb dX8_join_60 rfl (lv_at hl 3 rfl) ?_
        refine va_get (D := D) (ci := 8) (v := .ref qy) (C := RX8) (T := TX8) (N := 9) hx hb hts iw_8 hown hK hP 0 rfl rfl 3 (by decide) (hts (.fieldLink RX8 33 "DepositCodes" "payments" "LDepositCodes$Payments;") (by decide +kernel)) (fun _ h9 => h9) rfl dX8_join_61 ?_
        refine lv_iload hx hb dX8_join_64 (lv_at hl 1 rfl) ?_
        refine lv_iload_n hx hb dX8_join_66 rfl (lv_at hl 2 rfl) ?_
        refine mt_call0 (wr := [(q0, .inr (8, [.ref qb, .ref qm, .ref qp, .ref qy, .ref qd, .ref qc, .ref qf, .ref qv, .int lr])), (qm, .inr (5, [.ref m1, .ref m2, .ref m3, .ref m4, .int (nI mn)])), (m1, .inl (cZ, 6, .inl mf)), (m2, .inl (cZ, 6, .inl mp)), (m3, .inl (cI, 6, .inl ms)), (m4, .inl (cI, 6, .inl mu)), (qd, .inr (3, [.ref d1, .ref d2, .ref d3, .int (nI ((FX8_tellDoubles ys yp yt yn dz da db dn (FX4_setOf ms mn ka) (FX4_setOf ms mn kb)).2.2.2.2.2))])), (d1, .inl (cJ, 200, .inr (.inl ((FX8_tellDoubles ys yp yt yn dz da db dn (FX4_setOf ms mn ka) (FX4_setOf ms mn kb)).2.2.1)))), (d2, .inl (cI, 200, .inl ((FX8_tellDoubles ys yp yt yn dz da db dn (FX4_setOf ms mn ka) (FX4_setOf ms mn kb)).2.2.2.1))), (d3, .inl (cI, 200, .inl ((FX8_tellDoubles ys yp yt yn dz da db dn (FX4_setOf ms mn ka) (FX4_setOf ms mn kb)).2.2.2.2.1)))]) (ws' := [(q0, .inr (8, [.ref qb, .ref qm, .ref qp, .ref qy, .ref qd, .ref qc, .ref qf, .ref qv, .int lr])), (qm, .inr (5, [.ref m1, .ref m2, .ref m3, .ref m4, .int (nI mn)])), (m1, .inl (cZ, 6, .inl mf)), (m2, .inl (cZ, 6, .inl mp)), (m3, .inl (cI, 6, .inl ms)), (m4, .inl (cI, 6, .inl mu)), (qy, .inr (6, [.ref y1, .ref y2, .ref y3, .ref y4, .ref y5, .ref y6, .int (nI yn)])), (y1, .inl (cJ, 200, .inr (.inl ys))), (y2, .inl (cI, 200, .inl yp)), (y3, .inl (cI, 200, .inl (FX6_moveSet ((FX8_tellDoubles ys yp yt yn dz da db dn (FX4_setOf ms mn ka) (FX4_setOf ms mn kb)).2.1) yn (FX4_setOf ms mn kb) (FX4_setOf ms mn ka)))), (y4, .inl (cI, 200, .inl yh)), (y5, .inl (cI, 200, .inl ym)), (y6, .inl (cI, 200, .inl yr)), (qd, .inr (3, [.ref d1, .ref d2, .ref d3, .int (nI ((FX8_tellDoubles ys yp yt yn dz da db dn (FX4_setOf ms mn ka) (FX4_setOf ms mn kb)).2.2.2.2.2))])), (d1, .inl (cJ, 200, .inr (.inl ((FX8_tellDoubles ys yp yt yn dz da db dn (FX4_setOf ms mn ka) (FX4_setOf ms mn kb)).2.2.1)))), (d2, .inl (cI, 200, .inl ((FX8_tellDoubles ys yp yt yn dz da db dn (FX4_setOf ms mn ka) (FX4_setOf ms mn kb)).2.2.2.1))), (d3, .inl (cI, 200, .inl ((FX8_tellDoubles ys yp yt yn dz da db dn (FX4_setOf ms mn ka) (FX4_setOf ms mn kb)).2.2.2.2.1)))]) (st1 := []) (va_runV (As := [.int (FX4_setOf ms mn kb), .int (FX4_setOf ms mn ka)]) (rest := []) ⟨hx, hb, hml, hown, hts⟩ (kX6_moveSet l D cI cJ cZ qy y1 y2 y3 y4 y5 y6 ys yp ((FX8_tellDoubles ys yp yt yn dz da db dn (FX4_setOf ms mn ka) (FX4_setOf ms mn kb)).2.1) yh ym yr yn (FX4_setOf ms mn kb) (FX4_setOf ms mn ka) _ (by first | assumption | omega)) (cwV 2 hts gX8_join_X6_moveSet rfl rfl rfl (by decide +kernel) ⟨Nat.le_of_ble_eq_true rfl, Nat.le_of_ble_eq_true rfl⟩) ⟨mP_blind, va_recv hK hP (ci := 6) (q0 := 6) rfl rfl, mP_pre (hP.sub [6, 7, 8, 9, 10, 11, 12] rfl) (hD.sub [6, 7, 8, 9, 10, 11, 12] (by decide) rfl) hK hN⟩ rfl rfl hl.1 rfl (lv_room (Nat.le_of_ble_eq_true rfl)) dX8_join_67 ⟨Nat.zero_le _, Nat.zero_le _⟩) hP hD hS hA [6, 7, 8, 9, 10, 11, 12] [0, 1, 2, 3, 4, 5, 13, 14, 15, 16] [0, 1, 2, 3, 4, 5, 10, 11, 12, 13, 14, 15, 16, 6, 7, 8, 9] rfl rfl (by decide) (by decide) (by decide) rfl rfl (fun H locs hP hD hS => ?_)
        refine lv_aload_n hx hb dX8_join_70 rfl (lv_at hl 3 rfl) ?_
        refine va_get (D := D) (ci := 8) (v := .ref qm) (C := RX8) (T := TX8) (N := 9) hx hb hts iw_8 hown hK hP 0 rfl rfl 1 (by decide) (hts (.fieldLink RX8 19 "DepositCodes" "machines" "LDepositCodes$Machines;") (by decide +kernel)) (fun _ h9 => h9) rfl dX8_join_71 ?_
        refine lv_iload hx hb dX8_join_74 (lv_at hl 1 rfl) ?_
        refine lv_iload_n hx hb dX8_join_76 rfl (lv_at hl 2 rfl) ?_
        refine mt_call0 (wr := [(q0, .inr (8, [.ref qb, .ref qm, .ref qp, .ref qy, .ref qd, .ref qc, .ref qf, .ref qv, .int lr])), (qy, .inr (6, [.ref y1, .ref y2, .ref y3, .ref y4, .ref y5, .ref y6, .int (nI yn)])), (y1, .inl (cJ, 200, .inr (.inl ys))), (y2, .inl (cI, 200, .inl yp)), (y3, .inl (cI, 200, .inl (FX6_moveSet ((FX8_tellDoubles ys yp yt yn dz da db dn (FX4_setOf ms mn ka) (FX4_setOf ms mn kb)).2.1) yn (FX4_setOf ms mn kb) (FX4_setOf ms mn ka)))), (y4, .inl (cI, 200, .inl yh)), (y5, .inl (cI, 200, .inl ym)), (y6, .inl (cI, 200, .inl yr)), (qd, .inr (3, [.ref d1, .ref d2, .ref d3, .int (nI ((FX8_tellDoubles ys yp yt yn dz da db dn (FX4_setOf ms mn ka) (FX4_setOf ms mn kb)).2.2.2.2.2))])), (d1, .inl (cJ, 200, .inr (.inl ((FX8_tellDoubles ys yp yt yn dz da db dn (FX4_setOf ms mn ka) (FX4_setOf ms mn kb)).2.2.1)))), (d2, .inl (cI, 200, .inl ((FX8_tellDoubles ys yp yt yn dz da db dn (FX4_setOf ms mn ka) (FX4_setOf ms mn kb)).2.2.2.1))), (d3, .inl (cI, 200, .inl ((FX8_tellDoubles ys yp yt yn dz da db dn (FX4_setOf ms mn ka) (FX4_setOf ms mn kb)).2.2.2.2.1)))]) (ws' := [(q0, .inr (8, [.ref qb, .ref qm, .ref qp, .ref qy, .ref qd, .ref qc, .ref qf, .ref qv, .int lr])), (qm, .inr (5, [.ref m1, .ref m2, .ref m3, .ref m4, .int (nI mn)])), (m1, .inl (cZ, 6, .inl mf)), (m2, .inl (cZ, 6, .inl mp)), (m3, .inl (cI, 6, .inl (FX4_moveSet ms mn (FX4_setOf ms mn kb) (FX4_setOf ms mn ka)))), (m4, .inl (cI, 6, .inl mu)), (qy, .inr (6, [.ref y1, .ref y2, .ref y3, .ref y4, .ref y5, .ref y6, .int (nI yn)])), (y1, .inl (cJ, 200, .inr (.inl ys))), (y2, .inl (cI, 200, .inl yp)), (y3, .inl (cI, 200, .inl (FX6_moveSet ((FX8_tellDoubles ys yp yt yn dz da db dn (FX4_setOf ms mn ka) (FX4_setOf ms mn kb)).2.1) yn (FX4_setOf ms mn kb) (FX4_setOf ms mn ka)))), (y4, .inl (cI, 200, .inl yh)), (y5, .inl (cI, 200, .inl ym)), (y6, .inl (cI, 200, .inl yr)), (qd, .inr (3, [.ref d1, .ref d2, .ref d3, .int (nI ((FX8_tellDoubles ys yp yt yn dz da db dn (FX4_setOf ms mn ka) (FX4_setOf ms mn kb)).2.2.2.2.2))])), (d1, .inl (cJ, 200, .inr (.inl ((FX8_tellDoubles ys yp yt yn dz da db dn (FX4_setOf ms mn ka) (FX4_setOf ms mn kb)).2.2.1)))), (d2, .inl (cI, 200, .inl ((FX8_tellDoubles ys yp yt yn dz da db dn (FX4_setOf ms mn ka) (FX4_setOf ms mn kb)).2.2.2.1))), (d3, .inl (cI, 200, .inl ((FX8_tellDoubles ys yp yt yn dz da db dn (FX4_setOf ms mn ka) (FX4_setOf ms mn kb)).2.2.2.2.1)))]) (st1 := []) (va_runV (As := [.int (FX4_setOf ms mn kb), .int (FX4_setOf ms mn ka)]) (rest := []) ⟨hx, hb, hml, hown, hts⟩ (kX4_moveSet l D cI cJ cZ qm m1 m2 m3 m4 mf mp ms mu mn (FX4_setOf ms mn kb) (FX4_setOf ms mn ka) _ (by first | assumption | omega)) (cwV 2 hts gX8_join_X4_moveSet rfl rfl rfl (by decide +kernel) ⟨Nat.le_of_ble_eq_true rfl, Nat.le_of_ble_eq_true rfl⟩) ⟨mP_blind, va_recv hK hP (ci := 5) (q0 := 1) rfl rfl, mP_pre (hP.sub [1, 2, 3, 4, 5] rfl) (hD.sub [1, 2, 3, 4, 5] (by decide) rfl) hK hN⟩ rfl rfl hl.1 rfl (lv_room (Nat.le_of_ble_eq_true rfl)) dX8_join_77 ⟨Nat.zero_le _, Nat.zero_le _⟩) hP hD hS hA [1, 2, 3, 4, 5] [0, 6, 7, 8, 9, 10, 11, 12, 13, 14, 15, 16] [0, 12, 13, 14, 15, 16, 1, 2, 3, 4, 5, 6, 7, 8, 9, 10, 11] rfl rfl (by decide) (by decide) (by decide) rfl rfl (fun H locs hP hD hS => ?_)
        refine lv_iload hx hb dX8_join_80 (lv_at hl 0 rfl) ?_
        subst hE
        exact W.iret hx hb hr (fun t ht hW => ⟨rfl, by rw [ht]; exact hP, hD, hS.F ht⟩) hS.2.2 dX8_join_82
      · rw [if_pos c_3] at hE
        refine lv_iconst (v := 0) hx hb dX8_join_49 (by decide) ?_
        subst hE
        exact W.iret hx hb hr (fun t ht hW => ⟨rfl, by rw [ht]; exact hP, hD, hS.F ht⟩) hS.2.2 dX8_join_50
    · rw [if_pos c_2] at hE
      refine lv_iconst (v := (-1)) hx hb dX8_join_22 (by decide) ?_
      subst hE
      exact W.iret hx hb hr (fun t ht hW => ⟨rfl, by rw [ht]; exact hP, hD, hS.F ht⟩) hS.2.2 dX8_join_23
def FX8_double2 (dz : Nat → Int64) (da : Nat → Int32) (db : Nat → Int32) (dn : Nat) (k : Int32) (w : Int32) : Int32 := FX2_part dz da db dn k w
set_option maxHeartbeats 4000000 in
set_option maxRecDepth 100000 in
theorem kX8_double2 (l : Launch) (D : va_G) (cI cJ cZ : ClassId) (q0 : Nat) (qb : Nat) (qm : Nat) (qp : Nat) (qy : Nat) (qd : Nat) (qc : Nat) (qf : Nat) (qv : Nat) (lr : Int32) (d1 : Nat) (d2 : Nat) (d3 : Nat) (dz : Nat → Int64) (da : Nat → Int32) (db : Nat → Int32) (dn : Nat) (k : Int32) (w : Int32) (hdn : dn ≤ 200) : Met l yX8_double2 wsX8_double2 ({ frames := 3, cells := 0, slots := 0, locals := 72 }) (rP D (tz cI cJ cZ) [.ref q0, .int k, .int w] [(q0, .inr (8, [.ref qb, .ref qm, .ref qp, .ref qy, .ref qd, .ref qc, .ref qf, .ref qv, .int lr])), (qd, .inr (3, [.ref d1, .ref d2, .ref d3, .int (nI dn)])), (d1, .inl (cJ, 200, .inr (.inl dz))), (d2, .inl (cI, 200, .inl da)), (d3, .inl (cI, 200, .inl db))]) (k2_QcV (.int (FX8_double2 dz da db dn k w))) 0 0 (fun _ => False) := by
  refine Met.ofW (cc := cX8_double2) (maxL := 3) (ret := (some .int)) (by decide) rfl ?_
  intro p e s m args below meth c s₁ B hml hv
  obtain ⟨rfl, hP, hK, hN⟩ := hv
  have hx := B.exec
  have hb := B.bytes
  have hr := B.returns
  have hts := atoms_spec (ws := wsX8_double2) B.pre
  have hown : s.vm.findClass RX8 = some m.cls := findClass_of_methodNamed B.named
  have hlocks := B.notSynchronized
  have iw_8 : ∀ w ∈ u_ws RX8 TX8 9, w ∈ wsX8_double2 := by decide +kernel
  generalize hE : FX8_double2 dz da db dn k w = R0
  rw [FX8_double2] at hE
  have hl := lv_entry ([.ref q0, .int k, .int w]) (n := 3) (Nat.le_of_ble_eq_true rfl)
  rw [lg_entry_eq]
  generalize (lg_sl ([.ref q0, .int k, .int w]) ++ List.replicate (3 - (lg_sl ([.ref q0, .int k, .int w])).length) Slot.unset).toArray = ls at hl ⊢
  have hl : lv_has ls 3 [(0, .ref q0), (1, .int k), (2, .int w)] := hl
  refine lv_aload_n hx hb dX8_double2_0 rfl (lv_at hl 0 rfl) ?_
  refine va_get (D := D) (ci := 8) (v := .ref qd) (C := RX8) (T := TX8) (N := 9) hx hb hts iw_8 hown hK hP 0 rfl rfl 4 (by decide) (hts (.fieldLink RX8 40 "DepositCodes" "doubles" "LDepositCodes$Doubles;") (by decide +kernel)) (fun _ h9 => h9) rfl dX8_double2_1 ?_
  refine lv_iload_n hx hb dX8_double2_4 rfl (lv_at hl 1 rfl) ?_
  refine lv_iload_n hx hb dX8_double2_5 rfl (lv_at hl 2 rfl) ?_
  refine rd_call (va_runV (As := [.int k, .int w]) (rest := []) ⟨hx, hb, hml, hown, hts⟩ (kX2_part l D cI cJ cZ qd d1 d2 d3 dz da db dn k w (by first | assumption | omega)) (cwV 2 hts gX8_double2_X2_part rfl rfl rfl (by decide +kernel) ⟨Nat.le_of_ble_eq_true rfl, Nat.le_of_ble_eq_true rfl⟩) ⟨rP_blind, va_recv hK hP (ci := 3) (q0 := 1) rfl rfl, rP_pre (hP.sub [1, 2, 3, 4] rfl) hK hN⟩ rfl rfl hl.1 rfl (lv_room (Nat.le_of_ble_eq_true rfl)) dX8_double2_6 ⟨Nat.zero_le _, Nat.zero_le _⟩) ?_
  exact W.iret hx hb hr (fun t ht hW => ⟨by rw [← hE], ht⟩) (fun q h => absurd h List.not_mem_nil) dX8_double2_9
def FX8_coupon (mp : Nat → Int32) (mu : Nat → Int32) (mn : Nat) (ca : Nat → Int32) (cn : Nat) (k : Int32) : Int32 × (Nat → Int32) × (Nat → Int32) × Nat := if (FX4_hasPower mp mn k) = 0 then ((-1), mu, ca, cn) else (if ((FX4_takeUnprinted mu mn k).1) = 0 then ((-1), (FX4_takeUnprinted mu mn k).2, ca, cn) else ((FX1_print ca cn (((FX4_takeUnprinted mu mn k).1) * 25)).1, (FX4_takeUnprinted mu mn k).2, (FX1_print ca cn (((FX4_takeUnprinted mu mn k).1) * 25)).2.1, (FX1_print ca cn (((FX4_takeUnprinted mu mn k).1) * 25)).2.2))
set_option maxHeartbeats 4000000 in
set_option maxRecDepth 100000 in
theorem kX8_coupon (l : Launch) (D : va_G) (cI cJ cZ : ClassId) (q0 : Nat) (qb : Nat) (qm : Nat) (qp : Nat) (qy : Nat) (qd : Nat) (qc : Nat) (qf : Nat) (qv : Nat) (lr : Int32) (m1 : Nat) (m2 : Nat) (m3 : Nat) (m4 : Nat) (mf : Nat → Int32) (mp : Nat → Int32) (ms : Nat → Int32) (mu : Nat → Int32) (mn : Nat) (c1 : Nat) (c2 : Nat) (c3 : Nat) (ca : Nat → Int32) (cr : Nat → Int32) (cs : Nat → Int64) (cn : Nat) (k : Int32) (sz : Nat) (hmn : mn ≤ 6) (hcn : cn ≤ 200) : Met l yX8_coupon wsX8_coupon ({ frames := 3, cells := 0, slots := 0, locals := 64 }) (mP D (tz cI cJ cZ) [.ref q0, .int k] sz [(q0, .inr (8, [.ref qb, .ref qm, .ref qp, .ref qy, .ref qd, .ref qc, .ref qf, .ref qv, .int lr])), (qm, .inr (5, [.ref m1, .ref m2, .ref m3, .ref m4, .int (nI mn)])), (m1, .inl (cZ, 6, .inl mf)), (m2, .inl (cZ, 6, .inl mp)), (m3, .inl (cI, 6, .inl ms)), (m4, .inl (cI, 6, .inl mu)), (qc, .inr (2, [.ref c1, .ref c2, .ref c3, .int (nI cn)])), (c1, .inl (cI, 200, .inl ca)), (c2, .inl (cZ, 200, .inl cr)), (c3, .inl (cJ, 100, .inr (.inl cs)))]) (mQ D (some (.int ((FX8_coupon mp mu mn ca cn k).1))) [(q0, .inr (8, [.ref qb, .ref qm, .ref qp, .ref qy, .ref qd, .ref qc, .ref qf, .ref qv, .int lr])), (qm, .inr (5, [.ref m1, .ref m2, .ref m3, .ref m4, .int (nI mn)])), (m1, .inl (cZ, 6, .inl mf)), (m2, .inl (cZ, 6, .inl mp)), (m3, .inl (cI, 6, .inl ms)), (m4, .inl (cI, 6, .inl ((FX8_coupon mp mu mn ca cn k).2.1))), (qc, .inr (2, [.ref c1, .ref c2, .ref c3, .int (nI ((FX8_coupon mp mu mn ca cn k).2.2.2))])), (c1, .inl (cI, 200, .inl ((FX8_coupon mp mu mn ca cn k).2.2.1))), (c2, .inl (cZ, 200, .inl cr)), (c3, .inl (cJ, 100, .inr (.inl cs)))] (va_A [(q0, .inr (8, [.ref qb, .ref qm, .ref qp, .ref qy, .ref qd, .ref qc, .ref qf, .ref qv, .int lr])), (qm, .inr (5, [.ref m1, .ref m2, .ref m3, .ref m4, .int (nI mn)])), (m1, .inl (cZ, 6, .inl mf)), (m2, .inl (cZ, 6, .inl mp)), (m3, .inl (cI, 6, .inl ms)), (m4, .inl (cI, 6, .inl mu)), (qc, .inr (2, [.ref c1, .ref c2, .ref c3, .int (nI cn)])), (c1, .inl (cI, 200, .inl ca)), (c2, .inl (cZ, 200, .inl cr)), (c3, .inl (cJ, 100, .inr (.inl cs)))] sz)) 0 0 (va_A [(q0, .inr (8, [.ref qb, .ref qm, .ref qp, .ref qy, .ref qd, .ref qc, .ref qf, .ref qv, .int lr])), (qm, .inr (5, [.ref m1, .ref m2, .ref m3, .ref m4, .int (nI mn)])), (m1, .inl (cZ, 6, .inl mf)), (m2, .inl (cZ, 6, .inl mp)), (m3, .inl (cI, 6, .inl ms)), (m4, .inl (cI, 6, .inl mu)), (qc, .inr (2, [.ref c1, .ref c2, .ref c3, .int (nI cn)])), (c1, .inl (cI, 200, .inl ca)), (c2, .inl (cZ, 200, .inl cr)), (c3, .inl (cJ, 100, .inr (.inl cs)))] sz) := by
  refine Met.ofW (cc := cX8_coupon) (maxL := 3) (ret := (some .int)) (by decide) rfl ?_
  intro p e s m args below meth c s₁ B hml hv
  obtain ⟨rfl, hsz, hP, hK, hD0, hN⟩ := hv
  have hx := B.exec
  have hb := B.bytes
  have hr := B.returns
  have hts := atoms_spec (ws := wsX8_coupon) B.pre
  have hown : s.vm.findClass RX8 = some m.cls := findClass_of_methodNamed B.named
  have hlocks := B.notSynchronized
  have iw_8 : ∀ w ∈ u_ws RX8 TX8 9, w ∈ wsX8_coupon := by decide +kernel
  subst hsz
  have hD := hD0.self (sz := s.heap.size)
  generalize hE : FX8_coupon mp mu mn ca cn k = R0
  generalize hAe : va_A [(q0, .inr (8, [.ref qb, .ref qm, .ref qp, .ref qy, .ref qd, .ref qc, .ref qf, .ref qv, .int lr])), (qm, .inr (5, [.ref m1, .ref m2, .ref m3, .ref m4, .int (nI mn)])), (m1, .inl (cZ, 6, .inl mf)), (m2, .inl (cZ, 6, .inl mp)), (m3, .inl (cI, 6, .inl ms)), (m4, .inl (cI, 6, .inl mu)), (qc, .inr (2, [.ref c1, .ref c2, .ref c3, .int (nI cn)])), (c1, .inl (cI, 200, .inl ca)), (c2, .inl (cZ, 200, .inl cr)), (c3, .inl (cJ, 100, .inr (.inl cs)))] s.heap.size = A at hD ⊢
  have hA : ∀ q : Nat, s.heap.size ≤ q → A q := fun q h => by rw [← hAe]; exact Or.inr h
  have hS : va_S A s.heap s.heap [] := va_S.rf
  rw [FX8_coupon] at hE
  have hl := lv_entry ([.ref q0, .int k]) (n := 3) (Nat.le_of_ble_eq_true rfl)
  rw [lg_entry_eq]
  generalize (lg_sl ([.ref q0, .int k]) ++ List.replicate (3 - (lg_sl ([.ref q0, .int k])).length) Slot.unset).toArray = ls at hl ⊢
  have hl : lv_has ls 3 [(0, .ref q0), (1, .int k)] := hl
  refine lv_aload_n hx hb dX8_coupon_0 rfl (lv_at hl 0 rfl) ?_
  refine va_get (D := D) (ci := 8) (v := .ref qm) (C := RX8) (T := TX8) (N := 9) hx hb hts iw_8 hown hK hP 0 rfl rfl 1 (by decide) (hts (.fieldLink RX8 19 "DepositCodes" "machines" "LDepositCodes$Machines;") (by decide +kernel)) (fun _ h9 => h9) rfl dX8_coupon_1 ?_
  refine lv_iload_n hx hb dX8_coupon_4 rfl (lv_at hl 1 rfl) ?_
  refine rd_call (va_runV (As := [.int k]) (rest := []) ⟨hx, hb, hml, hown, hts⟩ (kX4_hasPower l D cI cJ cZ qm m1 m2 m3 m4 mf mp ms mu mn k (by first | assumption | omega)) (cwV 1 hts gX8_coupon_X4_hasPower rfl rfl rfl (by decide +kernel) ⟨Nat.le_of_ble_eq_true rfl, Nat.le_of_ble_eq_true rfl⟩) ⟨rP_blind, va_recv hK hP (ci := 5) (q0 := 1) rfl rfl, rP_pre (hP.sub [1, 2, 3, 4, 5] rfl) hK hN⟩ rfl rfl hl.1 rfl (lv_room (Nat.le_of_ble_eq_true rfl)) dX8_coupon_5 ⟨Nat.zero_le _, Nat.zero_le _⟩) ?_
  refine lv_if_ne (tgt := 13) hx hb dX8_coupon_8 (by decide) (fun c_1 => ?_) (fun c_1 => ?_)
  · rw [if_neg c_1] at hE
    refine lv_aload_n hx hb dX8_coupon_13 rfl (lv_at hl 0 rfl) ?_
    refine va_get (D := D) (ci := 8) (v := .ref qm) (C := RX8) (T := TX8) (N := 9) hx hb hts iw_8 hown hK hP 0 rfl rfl 1 (by decide) (hts (.fieldLink RX8 19 "DepositCodes" "machines" "LDepositCodes$Machines;") (by decide +kernel)) (fun _ h9 => h9) rfl dX8_coupon_14 ?_
    refine lv_iload_n hx hb dX8_coupon_17 rfl (lv_at hl 1 rfl) ?_
    refine mt_call0 (wr := [(q0, .inr (8, [.ref qb, .ref qm, .ref qp, .ref qy, .ref qd, .ref qc, .ref qf, .ref qv, .int lr])), (qc, .inr (2, [.ref c1, .ref c2, .ref c3, .int (nI cn)])), (c1, .inl (cI, 200, .inl ca)), (c2, .inl (cZ, 200, .inl cr)), (c3, .inl (cJ, 100, .inr (.inl cs)))]) (ws' := [(q0, .inr (8, [.ref qb, .ref qm, .ref qp, .ref qy, .ref qd, .ref qc, .ref qf, .ref qv, .int lr])), (qm, .inr (5, [.ref m1, .ref m2, .ref m3, .ref m4, .int (nI mn)])), (m1, .inl (cZ, 6, .inl mf)), (m2, .inl (cZ, 6, .inl mp)), (m3, .inl (cI, 6, .inl ms)), (m4, .inl (cI, 6, .inl ((FX4_takeUnprinted mu mn k).2))), (qc, .inr (2, [.ref c1, .ref c2, .ref c3, .int (nI cn)])), (c1, .inl (cI, 200, .inl ca)), (c2, .inl (cZ, 200, .inl cr)), (c3, .inl (cJ, 100, .inr (.inl cs)))]) (st1 := [.int ((FX4_takeUnprinted mu mn k).1)]) (va_runV (As := [.int k]) (rest := []) ⟨hx, hb, hml, hown, hts⟩ (kX4_takeUnprinted l D cI cJ cZ qm m1 m2 m3 m4 mf mp ms mu mn k _ (by first | assumption | omega)) (cwV 1 hts gX8_coupon_X4_takeUnprinted rfl rfl rfl (by decide +kernel) ⟨Nat.le_of_ble_eq_true rfl, Nat.le_of_ble_eq_true rfl⟩) ⟨mP_blind, va_recv hK hP (ci := 5) (q0 := 1) rfl rfl, mP_pre (hP.sub [1, 2, 3, 4, 5] rfl) (hD.sub [1, 2, 3, 4, 5] (by decide) rfl) hK hN⟩ rfl rfl hl.1 rfl (lv_room (Nat.le_of_ble_eq_true rfl)) dX8_coupon_18 ⟨Nat.zero_le _, Nat.zero_le _⟩) hP hD hS hA [1, 2, 3, 4, 5] [0, 6, 7, 8, 9] [0, 5, 6, 7, 8, 9, 1, 2, 3, 4] rfl rfl (by decide) (by decide) (by decide) rfl rfl (fun H locs hP hD hS => ?_)
    refine lv_istore_n (lv' := [(2, .int ((FX4_takeUnprinted mu mn k).1)), (0, .ref q0), (1, .int k)]) hx hb dX8_coupon_21 rfl hl (by decide) rfl (fun ls hl => ?_)
    refine lv_iload_n hx hb dX8_coupon_22 rfl (lv_at hl 0 rfl) ?_
    refine lv_if_ne (tgt := 30) hx hb dX8_coupon_23 (by decide) (fun c_2 => ?_) (fun c_2 => ?_)
    · rw [if_neg c_2] at hE
      refine lv_aload_n hx hb dX8_coupon_30 rfl (lv_at hl 1 rfl) ?_
      refine va_get (D := D) (ci := 8) (v := .ref qc) (C := RX8) (T := TX8) (N := 9) hx hb hts iw_8 hown hK hP 0 rfl rfl 5 (by decide) (hts (.fieldLink RX8 47 "DepositCodes" "coupons" "LDepositCodes$Coupons;") (by decide +kernel)) (fun _ h9 => h9) rfl dX8_coupon_31 ?_
      refine lv_iload_n hx hb dX8_coupon_34 rfl (lv_at hl 0 rfl) ?_
      refine lv_bipush (v := 25) hx hb dX8_coupon_35 (by decide) ?_
      refine lv_imul hx hb dX8_coupon_37 ?_
      refine mt_call0 (wr := [(q0, .inr (8, [.ref qb, .ref qm, .ref qp, .ref qy, .ref qd, .ref qc, .ref qf, .ref qv, .int lr])), (qm, .inr (5, [.ref m1, .ref m2, .ref m3, .ref m4, .int (nI mn)])), (m1, .inl (cZ, 6, .inl mf)), (m2, .inl (cZ, 6, .inl mp)), (m3, .inl (cI, 6, .inl ms)), (m4, .inl (cI, 6, .inl ((FX4_takeUnprinted mu mn k).2)))]) (ws' := [(q0, .inr (8, [.ref qb, .ref qm, .ref qp, .ref qy, .ref qd, .ref qc, .ref qf, .ref qv, .int lr])), (qm, .inr (5, [.ref m1, .ref m2, .ref m3, .ref m4, .int (nI mn)])), (m1, .inl (cZ, 6, .inl mf)), (m2, .inl (cZ, 6, .inl mp)), (m3, .inl (cI, 6, .inl ms)), (m4, .inl (cI, 6, .inl ((FX4_takeUnprinted mu mn k).2))), (qc, .inr (2, [.ref c1, .ref c2, .ref c3, .int (nI ((FX1_print ca cn (((FX4_takeUnprinted mu mn k).1) * 25)).2.2))])), (c1, .inl (cI, 200, .inl ((FX1_print ca cn (((FX4_takeUnprinted mu mn k).1) * 25)).2.1))), (c2, .inl (cZ, 200, .inl cr)), (c3, .inl (cJ, 100, .inr (.inl cs)))]) (st1 := [.int ((FX1_print ca cn (((FX4_takeUnprinted mu mn k).1) * 25)).1)]) (va_runV (As := [.int (((FX4_takeUnprinted mu mn k).1) * 25)]) (rest := []) ⟨hx, hb, hml, hown, hts⟩ (kX1_print l D cI cJ cZ qc c1 c2 c3 ca cr cs cn (((FX4_takeUnprinted mu mn k).1) * 25) _ (by first | assumption | omega)) (cwV 1 hts gX8_coupon_X1_print rfl rfl rfl (by decide +kernel) ⟨Nat.le_of_ble_eq_true rfl, Nat.le_of_ble_eq_true rfl⟩) ⟨mP_blind, va_recv hK hP (ci := 2) (q0 := 6) rfl rfl, mP_pre (hP.sub [6, 7, 8, 9] rfl) (hD.sub [6, 7, 8, 9] (by decide) rfl) hK hN⟩ rfl rfl hl.1 rfl (lv_room (Nat.le_of_ble_eq_true rfl)) dX8_coupon_38 ⟨Nat.zero_le _, Nat.zero_le _⟩) hP hD hS hA [6, 7, 8, 9] [0, 1, 2, 3, 4, 5] [0, 1, 2, 3, 4, 5, 6, 7, 8, 9] rfl rfl (by decide) (by decide) (by decide) rfl rfl (fun H locs hP hD hS => ?_)
      subst hE
      exact W.iret hx hb hr (fun t ht hW => ⟨rfl, by rw [ht]; exact hP, hD, hS.F ht⟩) hS.2.2 dX8_coupon_41
    · rw [if_pos c_2] at hE
      refine lv_iconst (v := (-1)) hx hb dX8_coupon_26 (by decide) ?_
      refine lv_goto (tgt := 41) hx hb dX8_coupon_27 (by decide) ?_
      subst hE
      exact W.iret hx hb hr (fun t ht hW => ⟨rfl, by rw [ht]; exact hP, hD, hS.F ht⟩) hS.2.2 dX8_coupon_41
  · rw [if_pos c_1] at hE
    refine lv_iconst (v := (-1)) hx hb dX8_coupon_11 (by decide) ?_
    subst hE
    exact W.iret hx hb hr (fun t ht hW => ⟨rfl, by rw [ht]; exact hP, hD, hS.F ht⟩) hS.2.2 dX8_coupon_12
def FX8_redeem (ca : Nat → Int32) (cr : Nat → Int32) (cs : Nat → Int64) (cn : Nat) (k : Int32) (w : Int32) : Int32 × (Nat → Int32) × (Nat → Int64) := ((FX1_redeemAt ca cr cs cn k w).1, (FX1_redeemAt ca cr cs cn k w).2.1, (FX1_redeemAt ca cr cs cn k w).2.2)
theorem FX8_redeem_b (ca : Nat → Int32) (cr : Nat → Int32) (cs : Nat → Int64) (cn : Nat) (k : Int32) (w : Int32) : isB ((FX8_redeem ca cr cs cn k w).1) := by
  unfold FX8_redeem
  repeat' split
  all_goals first | exact isB_0 | exact isB_1 | exact FX1_redeemAt_b _ _ _ _ _ _
set_option maxHeartbeats 4000000 in
set_option maxRecDepth 100000 in
theorem kX8_redeem (l : Launch) (D : va_G) (cI cJ cZ : ClassId) (q0 : Nat) (qb : Nat) (qm : Nat) (qp : Nat) (qy : Nat) (qd : Nat) (qc : Nat) (qf : Nat) (qv : Nat) (lr : Int32) (c1 : Nat) (c2 : Nat) (c3 : Nat) (ca : Nat → Int32) (cr : Nat → Int32) (cs : Nat → Int64) (cn : Nat) (k : Int32) (w : Int32) (sz : Nat) (hcn : cn ≤ 200) : Met l yX8_redeem wsX8_redeem ({ frames := 2, cells := 0, slots := 0, locals := 43 }) (mP D (tz cI cJ cZ) [.ref q0, .int k, .int w] sz [(q0, .inr (8, [.ref qb, .ref qm, .ref qp, .ref qy, .ref qd, .ref qc, .ref qf, .ref qv, .int lr])), (qc, .inr (2, [.ref c1, .ref c2, .ref c3, .int (nI cn)])), (c1, .inl (cI, 200, .inl ca)), (c2, .inl (cZ, 200, .inl cr)), (c3, .inl (cJ, 100, .inr (.inl cs)))]) (mQ D (some (.int ((FX8_redeem ca cr cs cn k w).1))) [(q0, .inr (8, [.ref qb, .ref qm, .ref qp, .ref qy, .ref qd, .ref qc, .ref qf, .ref qv, .int lr])), (qc, .inr (2, [.ref c1, .ref c2, .ref c3, .int (nI cn)])), (c1, .inl (cI, 200, .inl ca)), (c2, .inl (cZ, 200, .inl ((FX8_redeem ca cr cs cn k w).2.1))), (c3, .inl (cJ, 100, .inr (.inl ((FX8_redeem ca cr cs cn k w).2.2))))] (va_A [(q0, .inr (8, [.ref qb, .ref qm, .ref qp, .ref qy, .ref qd, .ref qc, .ref qf, .ref qv, .int lr])), (qc, .inr (2, [.ref c1, .ref c2, .ref c3, .int (nI cn)])), (c1, .inl (cI, 200, .inl ca)), (c2, .inl (cZ, 200, .inl cr)), (c3, .inl (cJ, 100, .inr (.inl cs)))] sz)) 0 0 (va_A [(q0, .inr (8, [.ref qb, .ref qm, .ref qp, .ref qy, .ref qd, .ref qc, .ref qf, .ref qv, .int lr])), (qc, .inr (2, [.ref c1, .ref c2, .ref c3, .int (nI cn)])), (c1, .inl (cI, 200, .inl ca)), (c2, .inl (cZ, 200, .inl cr)), (c3, .inl (cJ, 100, .inr (.inl cs)))] sz) := by
  refine Met.ofW (cc := cX8_redeem) (maxL := 3) (ret := (some .boolean)) (by decide) rfl ?_
  intro p e s m args below meth c s₁ B hml hv
  obtain ⟨rfl, hsz, hP, hK, hD0, hN⟩ := hv
  have hx := B.exec
  have hb := B.bytes
  have hr := B.returns
  have hts := atoms_spec (ws := wsX8_redeem) B.pre
  have hown : s.vm.findClass RX8 = some m.cls := findClass_of_methodNamed B.named
  have hlocks := B.notSynchronized
  have iw_8 : ∀ w ∈ u_ws RX8 TX8 9, w ∈ wsX8_redeem := by decide +kernel
  subst hsz
  have hD := hD0.self (sz := s.heap.size)
  generalize hE : FX8_redeem ca cr cs cn k w = R0
  generalize hAe : va_A [(q0, .inr (8, [.ref qb, .ref qm, .ref qp, .ref qy, .ref qd, .ref qc, .ref qf, .ref qv, .int lr])), (qc, .inr (2, [.ref c1, .ref c2, .ref c3, .int (nI cn)])), (c1, .inl (cI, 200, .inl ca)), (c2, .inl (cZ, 200, .inl cr)), (c3, .inl (cJ, 100, .inr (.inl cs)))] s.heap.size = A at hD ⊢
  have hA : ∀ q : Nat, s.heap.size ≤ q → A q := fun q h => by rw [← hAe]; exact Or.inr h
  have hS : va_S A s.heap s.heap [] := va_S.rf
  rw [FX8_redeem] at hE
  have hl := lv_entry ([.ref q0, .int k, .int w]) (n := 3) (Nat.le_of_ble_eq_true rfl)
  rw [lg_entry_eq]
  generalize (lg_sl ([.ref q0, .int k, .int w]) ++ List.replicate (3 - (lg_sl ([.ref q0, .int k, .int w])).length) Slot.unset).toArray = ls at hl ⊢
  have hl : lv_has ls 3 [(0, .ref q0), (1, .int k), (2, .int w)] := hl
  refine lv_aload_n hx hb dX8_redeem_0 rfl (lv_at hl 0 rfl) ?_
  refine va_get (D := D) (ci := 8) (v := .ref qc) (C := RX8) (T := TX8) (N := 9) hx hb hts iw_8 hown hK hP 0 rfl rfl 5 (by decide) (hts (.fieldLink RX8 47 "DepositCodes" "coupons" "LDepositCodes$Coupons;") (by decide +kernel)) (fun _ h9 => h9) rfl dX8_redeem_1 ?_
  refine lv_iload_n hx hb dX8_redeem_4 rfl (lv_at hl 1 rfl) ?_
  refine lv_iload_n hx hb dX8_redeem_5 rfl (lv_at hl 2 rfl) ?_
  refine mt_call0 (wr := [(q0, .inr (8, [.ref qb, .ref qm, .ref qp, .ref qy, .ref qd, .ref qc, .ref qf, .ref qv, .int lr]))]) (ws' := [(q0, .inr (8, [.ref qb, .ref qm, .ref qp, .ref qy, .ref qd, .ref qc, .ref qf, .ref qv, .int lr])), (qc, .inr (2, [.ref c1, .ref c2, .ref c3, .int (nI cn)])), (c1, .inl (cI, 200, .inl ca)), (c2, .inl (cZ, 200, .inl ((FX1_redeemAt ca cr cs cn k w).2.1))), (c3, .inl (cJ, 100, .inr (.inl ((FX1_redeemAt ca cr cs cn k w).2.2))))]) (st1 := [.int ((FX1_redeemAt ca cr cs cn k w).1)]) (va_runV (As := [.int k, .int w]) (rest := []) ⟨hx, hb, hml, hown, hts⟩ (kX1_redeemAt l D cI cJ cZ qc c1 c2 c3 ca cr cs cn k w _ (by first | assumption | omega)) (cwV 2 hts gX8_redeem_X1_redeemAt rfl rfl rfl (by decide +kernel) ⟨Nat.le_of_ble_eq_true rfl, Nat.le_of_ble_eq_true rfl⟩) ⟨mP_blind, va_recv hK hP (ci := 2) (q0 := 1) rfl rfl, mP_pre (hP.sub [1, 2, 3, 4] rfl) (hD.sub [1, 2, 3, 4] (by decide) rfl) hK hN⟩ rfl rfl hl.1 rfl (lv_room (Nat.le_of_ble_eq_true rfl)) dX8_redeem_6 ⟨Nat.zero_le _, Nat.zero_le _⟩) hP hD hS hA [1, 2, 3, 4] [0] [0, 1, 2, 3, 4] rfl rfl (by decide) (by decide) (by decide) rfl rfl (fun H locs hP hD hS => ?_)
  subst hE
  exact W.zret hx hb hr (isB_nar (FX1_redeemAt_b _ _ _ _ _ _)) (fun t ht hW => ⟨rfl, by rw [ht]; exact hP, hD, hS.F ht⟩) hS.2.2 dX8_redeem_9
def FX8_shop (cs : Nat → Int64) (k : Int32) : Int64 := FX1_redeemedBy cs k
set_option maxHeartbeats 4000000 in
set_option maxRecDepth 100000 in
theorem kX8_shop (l : Launch) (D : va_G) (cI cJ cZ : ClassId) (q0 : Nat) (qb : Nat) (qm : Nat) (qp : Nat) (qy : Nat) (qd : Nat) (qc : Nat) (qf : Nat) (qv : Nat) (lr : Int32) (c1 : Nat) (c2 : Nat) (c3 : Nat) (ca : Nat → Int32) (cr : Nat → Int32) (cs : Nat → Int64) (cn : Nat) (k : Int32) : Met l yX8_shop wsX8_shop ({ frames := 2, cells := 0, slots := 0, locals := 42 }) (rP D (tz cI cJ cZ) [.ref q0, .int k] [(q0, .inr (8, [.ref qb, .ref qm, .ref qp, .ref qy, .ref qd, .ref qc, .ref qf, .ref qv, .int lr])), (qc, .inr (2, [.ref c1, .ref c2, .ref c3, .int (nI cn)])), (c1, .inl (cI, 200, .inl ca)), (c2, .inl (cZ, 200, .inl cr)), (c3, .inl (cJ, 100, .inr (.inl cs)))]) (k2_QcV (.long (FX8_shop cs k))) 0 0 (fun _ => False) := by
  refine Met.ofW (cc := cX8_shop) (maxL := 2) (ret := (some .long)) (by decide) rfl ?_
  intro p e s m args below meth c s₁ B hml hv
  obtain ⟨rfl, hP, hK, hN⟩ := hv
  have hx := B.exec
  have hb := B.bytes
  have hr := B.returns
  have hts := atoms_spec (ws := wsX8_shop) B.pre
  have hown : s.vm.findClass RX8 = some m.cls := findClass_of_methodNamed B.named
  have hlocks := B.notSynchronized
  have iw_8 : ∀ w ∈ u_ws RX8 TX8 9, w ∈ wsX8_shop := by decide +kernel
  generalize hE : FX8_shop cs k = R0
  rw [FX8_shop] at hE
  have hl := lv_entry ([.ref q0, .int k]) (n := 2) (Nat.le_of_ble_eq_true rfl)
  rw [lg_entry_eq]
  generalize (lg_sl ([.ref q0, .int k]) ++ List.replicate (2 - (lg_sl ([.ref q0, .int k])).length) Slot.unset).toArray = ls at hl ⊢
  have hl : lv_has ls 2 [(0, .ref q0), (1, .int k)] := hl
  refine lv_aload_n hx hb dX8_shop_0 rfl (lv_at hl 0 rfl) ?_
  refine va_get (D := D) (ci := 8) (v := .ref qc) (C := RX8) (T := TX8) (N := 9) hx hb hts iw_8 hown hK hP 0 rfl rfl 5 (by decide) (hts (.fieldLink RX8 47 "DepositCodes" "coupons" "LDepositCodes$Coupons;") (by decide +kernel)) (fun _ h9 => h9) rfl dX8_shop_1 ?_
  refine lv_iload_n hx hb dX8_shop_4 rfl (lv_at hl 1 rfl) ?_
  refine rd_call (va_runV (As := [.int k]) (rest := []) ⟨hx, hb, hml, hown, hts⟩ (kX1_redeemedBy l D cI cJ cZ qc c1 c2 c3 ca cr cs cn k) (cwV 1 hts gX8_shop_X1_redeemedBy rfl rfl rfl (by decide +kernel) ⟨Nat.le_of_ble_eq_true rfl, Nat.le_of_ble_eq_true rfl⟩) ⟨rP_blind, va_recv hK hP (ci := 2) (q0 := 1) rfl rfl, rP_pre (hP.sub [1, 2, 3, 4] rfl) hK hN⟩ rfl rfl hl.1 rfl (lv_room (Nat.le_of_ble_eq_true rfl)) dX8_shop_5 ⟨Nat.zero_le _, Nat.zero_le _⟩) ?_
  exact W.lret hx hb hr (fun t ht hW => ⟨by rw [← hE], ht⟩) (fun q h => absurd h List.not_mem_nil) dX8_shop_8
def FX8_clear_l28 (ys : Nat → Int64) (yp : Nat → Int32) (ym : Nat → Int32) (yn : Nat) (vb : Nat → Int64) (mo : Int32) : Nat → Nat → Nat → Int32 × (Nat → Int64)
  | 0, _, _ => (0, fun _ => 0)
  | n + 1, k, q => if 3 ≤ k then (nI q, (FX6_balance ys yp ym yn vb mo)) else (if (lg_cmp ((FX6_balance ys yp ym yn vb mo) k) 0) = 0 then FX8_clear_l28 ys yp ym yn vb mo n (k + 1) q else FX8_clear_l28 ys yp ym yn vb mo n (k + 1) (q + 1))
def FX8_clear (ys : Nat → Int64) (yp : Nat → Int32) (ym : Nat → Int32) (yn : Nat) (vb : Nat → Int64) (mo : Int32) : Int32 × (Nat → Int64) := if mo < 0 then ((-1), vb) else (if mo ≤ 40000 then FX8_clear_l28 ys yp ym yn vb mo 4 0 0 else ((-1), vb))
set_option maxHeartbeats 4000000 in
set_option maxRecDepth 100000 in
theorem kX8_clear (l : Launch) (D : va_G) (cI cJ cZ : ClassId) (q0 : Nat) (qb : Nat) (qm : Nat) (qp : Nat) (qy : Nat) (qd : Nat) (qc : Nat) (qf : Nat) (qv : Nat) (lr : Int32) (y1 : Nat) (y2 : Nat) (y3 : Nat) (y4 : Nat) (y5 : Nat) (y6 : Nat) (ys : Nat → Int64) (yp : Nat → Int32) (yt : Nat → Int32) (yh : Nat → Int32) (ym : Nat → Int32) (yr : Nat → Int32) (yn : Nat) (vb : Nat → Int64) (mo : Int32) (sz : Nat) (hyn : yn ≤ 200) : Met l yX8_clear wsX8_clear ({ frames := 3, cells := 0, slots := 0, locals := 66 }) (mP D (tz cI cJ cZ) [.ref q0, .int mo] sz [(q0, .inr (8, [.ref qb, .ref qm, .ref qp, .ref qy, .ref qd, .ref qc, .ref qf, .ref qv, .int lr])), (qy, .inr (6, [.ref y1, .ref y2, .ref y3, .ref y4, .ref y5, .ref y6, .int (nI yn)])), (y1, .inl (cJ, 200, .inr (.inl ys))), (y2, .inl (cI, 200, .inl yp)), (y3, .inl (cI, 200, .inl yt)), (y4, .inl (cI, 200, .inl yh)), (y5, .inl (cI, 200, .inl ym)), (y6, .inl (cI, 200, .inl yr)), (qv, .inl (cJ, 3, .inr (.inl vb)))]) (mQ D (some (.int ((FX8_clear ys yp ym yn vb mo).1))) [(q0, .inr (8, [.ref qb, .ref qm, .ref qp, .ref qy, .ref qd, .ref qc, .ref qf, .ref qv, .int lr])), (qy, .inr (6, [.ref y1, .ref y2, .ref y3, .ref y4, .ref y5, .ref y6, .int (nI yn)])), (y1, .inl (cJ, 200, .inr (.inl ys))), (y2, .inl (cI, 200, .inl yp)), (y3, .inl (cI, 200, .inl yt)), (y4, .inl (cI, 200, .inl yh)), (y5, .inl (cI, 200, .inl ym)), (y6, .inl (cI, 200, .inl yr)), (qv, .inl (cJ, 3, .inr (.inl ((FX8_clear ys yp ym yn vb mo).2))))] (va_A [(q0, .inr (8, [.ref qb, .ref qm, .ref qp, .ref qy, .ref qd, .ref qc, .ref qf, .ref qv, .int lr])), (qy, .inr (6, [.ref y1, .ref y2, .ref y3, .ref y4, .ref y5, .ref y6, .int (nI yn)])), (y1, .inl (cJ, 200, .inr (.inl ys))), (y2, .inl (cI, 200, .inl yp)), (y3, .inl (cI, 200, .inl yt)), (y4, .inl (cI, 200, .inl yh)), (y5, .inl (cI, 200, .inl ym)), (y6, .inl (cI, 200, .inl yr)), (qv, .inl (cJ, 3, .inr (.inl vb)))] sz)) 0 0 (va_A [(q0, .inr (8, [.ref qb, .ref qm, .ref qp, .ref qy, .ref qd, .ref qc, .ref qf, .ref qv, .int lr])), (qy, .inr (6, [.ref y1, .ref y2, .ref y3, .ref y4, .ref y5, .ref y6, .int (nI yn)])), (y1, .inl (cJ, 200, .inr (.inl ys))), (y2, .inl (cI, 200, .inl yp)), (y3, .inl (cI, 200, .inl yt)), (y4, .inl (cI, 200, .inl yh)), (y5, .inl (cI, 200, .inl ym)), (y6, .inl (cI, 200, .inl yr)), (qv, .inl (cJ, 3, .inr (.inl vb)))] sz) := by
  refine Met.ofW (cc := cX8_clear) (maxL := 4) (ret := (some .int)) (by decide) rfl ?_
  intro p e s m args below meth c s₁ B hml hv
  obtain ⟨rfl, hsz, hP, hK, hD0, hN⟩ := hv
  have hx := B.exec
  have hb := B.bytes
  have hr := B.returns
  have hts := atoms_spec (ws := wsX8_clear) B.pre
  have hown : s.vm.findClass RX8 = some m.cls := findClass_of_methodNamed B.named
  have hlocks := B.notSynchronized
  have iw_8 : ∀ w ∈ u_ws RX8 TX8 9, w ∈ wsX8_clear := by decide +kernel
  subst hsz
  have hD := hD0.self (sz := s.heap.size)
  generalize hE : FX8_clear ys yp ym yn vb mo = R0
  generalize hAe : va_A [(q0, .inr (8, [.ref qb, .ref qm, .ref qp, .ref qy, .ref qd, .ref qc, .ref qf, .ref qv, .int lr])), (qy, .inr (6, [.ref y1, .ref y2, .ref y3, .ref y4, .ref y5, .ref y6, .int (nI yn)])), (y1, .inl (cJ, 200, .inr (.inl ys))), (y2, .inl (cI, 200, .inl yp)), (y3, .inl (cI, 200, .inl yt)), (y4, .inl (cI, 200, .inl yh)), (y5, .inl (cI, 200, .inl ym)), (y6, .inl (cI, 200, .inl yr)), (qv, .inl (cJ, 3, .inr (.inl vb)))] s.heap.size = A at hD ⊢
  have hA : ∀ q : Nat, s.heap.size ≤ q → A q := fun q h => by rw [← hAe]; exact Or.inr h
  have hS : va_S A s.heap s.heap [] := va_S.rf
  rw [FX8_clear] at hE
  have hl := lv_entry ([.ref q0, .int mo]) (n := 4) (Nat.le_of_ble_eq_true rfl)
  rw [lg_entry_eq]
  generalize (lg_sl ([.ref q0, .int mo]) ++ List.replicate (4 - (lg_sl ([.ref q0, .int mo])).length) Slot.unset).toArray = ls at hl ⊢
  have hl : lv_has ls 4 [(0, .ref q0), (1, .int mo)] := hl
  have loop_28 : ∀ (n : Nat) (k : Nat) (q : Nat), k ≤ 3 → k + n = 4 → FX8_clear_l28 ys yp ym yn vb mo n k q = R0 → ∀ (H : Heap) (locs : List Loc), va_P D vwCl [(q0, .inr (8, [.ref qb, .ref qm, .ref qp, .ref qy, .ref qd, .ref qc, .ref qf, .ref qv, .int lr])), (qy, .inr (6, [.ref y1, .ref y2, .ref y3, .ref y4, .ref y5, .ref y6, .int (nI yn)])), (y1, .inl (cJ, 200, .inr (.inl ys))), (y2, .inl (cI, 200, .inl yp)), (y3, .inl (cI, 200, .inl yt)), (y4, .inl (cI, 200, .inl yh)), (y5, .inl (cI, 200, .inl ym)), (y6, .inl (cI, 200, .inl yr)), (qv, .inl (cJ, 3, .inr (.inl (FX6_balance ys yp ym yn vb mo))))] H → va_D A [(q0, .inr (8, [.ref qb, .ref qm, .ref qp, .ref qy, .ref qd, .ref qc, .ref qf, .ref qv, .int lr])), (qy, .inr (6, [.ref y1, .ref y2, .ref y3, .ref y4, .ref y5, .ref y6, .int (nI yn)])), (y1, .inl (cJ, 200, .inr (.inl ys))), (y2, .inl (cI, 200, .inl yp)), (y3, .inl (cI, 200, .inl yt)), (y4, .inl (cI, 200, .inl yh)), (y5, .inl (cI, 200, .inl ym)), (y6, .inl (cI, 200, .inl yr)), (qv, .inl (cJ, 3, .inr (.inl (FX6_balance ys yp ym yn vb mo))))] → va_S A s.heap H locs → ∀ ls : Array Slot, lv_has ls 4 [(3, .int (nI k)), (2, .int (nI q)), (0, .ref q0), (1, .int mo)] → W p l e (headSpec wsX8_clear ({ frames := 3, cells := 0, slots := 0, locals := 66 })).room s m ([.ref q0, .int mo] : List Value).toArray below meth c H locs 0 0 (MQ below (mQ D (some (.int R0.1)) [(q0, .inr (8, [.ref qb, .ref qm, .ref qp, .ref qy, .ref qd, .ref qc, .ref qf, .ref qv, .int lr])), (qy, .inr (6, [.ref y1, .ref y2, .ref y3, .ref y4, .ref y5, .ref y6, .int (nI yn)])), (y1, .inl (cJ, 200, .inr (.inl ys))), (y2, .inl (cI, 200, .inl yp)), (y3, .inl (cI, 200, .inl yt)), (y4, .inl (cI, 200, .inl yh)), (y5, .inl (cI, 200, .inl ym)), (y6, .inl (cI, 200, .inl yr)), (qv, .inl (cJ, 3, .inr (.inl R0.2)))] A) ([.ref q0, .int mo] : List Value).toArray s 0 0 A) (F0 m 28 ls []) := by
    intro n
    induction n with
    | zero =>
      intro k q i_1 i_2
      exact absurd i_1 (by omega)
    | succ n ih =>
      intro k q i_1 i_2 hE H locs hP hD hS ls hl
      rw [FX8_clear_l28] at hE
      refine lv_iload_n hx hb dX8_clear_28 rfl (lv_at hl 0 rfl) ?_
      refine lv_aload_n hx hb dX8_clear_29 rfl (lv_at hl 2 rfl) ?_
      refine va_get (D := D) (ci := 8) (v := .ref qv) (C := RX8) (T := TX8) (N := 9) hx hb hts iw_8 hown hK hP 0 rfl rfl 7 (by decide) (hts (.fieldLink RX8 58 "DepositCodes" "balances" "[J") (by decide +kernel)) (fun _ h9 => h9) rfl dX8_clear_30 ?_
      refine va_alen (v := 3) hx hb hK hP 8 1 rfl rfl rfl dX8_clear_33 ?_
      refine lv_icmp_ge (tgt := 57) hx hb dX8_clear_34 (by decide) (fun c_3 => ?_) (fun c_3 => ?_)
      · have c_3 : 3 ≤ k := (nI_leI (a := 3) (b := k) (by omega) (by omega)).mp c_3
        rw [if_pos c_3] at hE
        refine lv_iload_n hx hb dX8_clear_57 rfl (lv_at hl 1 rfl) ?_
        subst hE
        exact W.iret hx hb hr (fun t ht hW => ⟨rfl, by rw [ht]; exact hP, hD, hS.F ht⟩) hS.2.2 dX8_clear_58
      · have c_3 : ¬ 3 ≤ k := fun h9 => c_3 ((nI_leI (a := 3) (b := k) (by omega) (by omega)).mpr h9)
        rw [if_neg c_3] at hE
        refine lv_aload_n hx hb dX8_clear_37 rfl (lv_at hl 2 rfl) ?_
        refine va_get (D := D) (ci := 8) (v := .ref qv) (C := RX8) (T := TX8) (N := 9) hx hb hts iw_8 hown hK hP 0 rfl rfl 7 (by decide) (hts (.fieldLink RX8 58 "DepositCodes" "balances" "[J") (by decide +kernel)) (fun _ h9 => h9) rfl dX8_clear_38 ?_
        refine lv_iload_n hx hb dX8_clear_41 rfl (lv_at hl 0 rfl) ?_
        refine na_lald hx hb hK hP 8 1 rfl rfl (by omega) (by decide) dX8_clear_42 ?_
        refine lv_lconst (v := 0) hx hb dX8_clear_43 (by decide) ?_
        refine W.lcmp hx hb dX8_clear_44 ?_
        refine lv_if_eq (tgt := 51) hx hb dX8_clear_45 (by decide) (fun c_4 => ?_) (fun c_4 => ?_)
        · rw [if_pos c_4] at hE
          refine lv_iinc (v := nI (k + 1)) (lv' := [(3, .int (nI (k + 1))), (2, .int (nI q)), (0, .ref q0), (1, .int mo)]) hx hb dX8_clear_51 hl (k := 0) rfl (nI_1 k) (by decide) rfl (fun ls hl => ?_)
          refine lv_goto (tgt := 28) hx hb dX8_clear_54 (by decide) ?_
          exact ih (k + 1) q (by omega) (by omega) hE _ _ hP hD hS ls (lv_sub hl [0, 1, 2, 3] rfl)
        · rw [if_neg c_4] at hE
          refine lv_iinc (v := nI (q + 1)) (lv' := [(2, .int (nI (q + 1))), (3, .int (nI k)), (0, .ref q0), (1, .int mo)]) hx hb dX8_clear_48 hl (k := 1) rfl (nI_1 q) (by decide) rfl (fun ls hl => ?_)
          refine lv_iinc (v := nI (k + 1)) (lv' := [(3, .int (nI (k + 1))), (2, .int (nI (q + 1))), (0, .ref q0), (1, .int mo)]) hx hb dX8_clear_51 hl (k := 1) rfl (nI_1 k) (by decide) rfl (fun ls hl => ?_)
          refine lv_goto (tgt := 28) hx hb dX8_clear_54 (by decide) ?_
          exact ih (k + 1) (q + 1) (by omega) (by omega) hE _ _ hP hD hS ls (lv_sub hl [0, 1, 2, 3] rfl)
  refine lv_iload_n hx hb dX8_clear_0 rfl (lv_at hl 1 rfl) ?_
  refine lv_if_lt (tgt := 10) hx hb dX8_clear_1 (by decide) (fun c_1 => ?_) (fun c_1 => ?_)
  · rw [if_pos c_1] at hE
    refine lv_iconst (v := (-1)) hx hb dX8_clear_10 (by decide) ?_
    subst hE
    exact W.iret hx hb hr (fun t ht hW => ⟨rfl, by rw [ht]; exact hP, hD, hS.F ht⟩) hS.2.2 dX8_clear_11
  · rw [if_neg c_1] at hE
    refine lv_iload_n hx hb dX8_clear_4 rfl (lv_at hl 1 rfl) ?_
    refine lv_ldc hx hb hown (hts (.constant RX8 186 40000) (by decide +kernel)) dX8_clear_5 ?_
    refine lv_icmp_le (tgt := 12) hx hb dX8_clear_7 (by decide) (fun c_2 => ?_) (fun c_2 => ?_)
    · rw [if_pos c_2] at hE
      refine lv_aload_n hx hb dX8_clear_12 rfl (lv_at hl 0 rfl) ?_
      refine va_get (D := D) (ci := 8) (v := .ref qy) (C := RX8) (T := TX8) (N := 9) hx hb hts iw_8 hown hK hP 0 rfl rfl 3 (by decide) (hts (.fieldLink RX8 33 "DepositCodes" "payments" "LDepositCodes$Payments;") (by decide +kernel)) (fun _ h9 => h9) rfl dX8_clear_13 ?_
      refine lv_iload_n hx hb dX8_clear_16 rfl (lv_at hl 1 rfl) ?_
      refine lv_aload_n hx hb dX8_clear_17 rfl (lv_at hl 0 rfl) ?_
      refine va_get (D := D) (ci := 8) (v := .ref qv) (C := RX8) (T := TX8) (N := 9) hx hb hts iw_8 hown hK hP 0 rfl rfl 7 (by decide) (hts (.fieldLink RX8 58 "DepositCodes" "balances" "[J") (by decide +kernel)) (fun _ h9 => h9) rfl dX8_clear_18 ?_
      refine mt_call0 (wr := [(q0, .inr (8, [.ref qb, .ref qm, .ref qp, .ref qy, .ref qd, .ref qc, .ref qf, .ref qv, .int lr]))]) (ws' := [(q0, .inr (8, [.ref qb, .ref qm, .ref qp, .ref qy, .ref qd, .ref qc, .ref qf, .ref qv, .int lr])), (qy, .inr (6, [.ref y1, .ref y2, .ref y3, .ref y4, .ref y5, .ref y6, .int (nI yn)])), (y1, .inl (cJ, 200, .inr (.inl ys))), (y2, .inl (cI, 200, .inl yp)), (y3, .inl (cI, 200, .inl yt)), (y4, .inl (cI, 200, .inl yh)), (y5, .inl (cI, 200, .inl ym)), (y6, .inl (cI, 200, .inl yr)), (qv, .inl (cJ, 3, .inr (.inl (FX6_balance ys yp ym yn vb mo))))]) (st1 := []) (va_runV (As := [.int mo, .ref qv]) (rest := []) ⟨hx, hb, hml, hown, hts⟩ (kX6_balance l D cI cJ cZ qy y1 y2 y3 y4 y5 y6 ys yp yt yh ym yr yn qv vb mo _ (by first | assumption | omega)) (cwV 2 hts gX8_clear_X6_balance rfl rfl rfl (by decide +kernel) ⟨Nat.le_of_ble_eq_true rfl, Nat.le_of_ble_eq_true rfl⟩) ⟨mP_blind, va_recv hK hP (ci := 6) (q0 := 1) rfl rfl, mP_pre (hP.sub [1, 2, 3, 4, 5, 6, 7, 8] rfl) (hD.sub [1, 2, 3, 4, 5, 6, 7, 8] (by decide) rfl) hK hN⟩ rfl rfl hl.1 rfl (lv_room (Nat.le_of_ble_eq_true rfl)) dX8_clear_21 ⟨Nat.zero_le _, Nat.zero_le _⟩) hP hD hS hA [1, 2, 3, 4, 5, 6, 7, 8] [0] [0, 1, 2, 3, 4, 5, 6, 7, 8] rfl rfl (by decide) (by decide) (by decide) rfl rfl (fun H locs hP hD hS => ?_)
      refine lv_iconst (v := 0) hx hb dX8_clear_24 (by decide) ?_
      refine lv_istore_n (lv' := [(2, .int 0), (0, .ref q0), (1, .int mo)]) hx hb dX8_clear_25 rfl hl (by decide) rfl (fun ls hl => ?_)
      refine lv_iconst (v := 0) hx hb dX8_clear_26 (by decide) ?_
      refine lv_istore_n (lv' := [(3, .int 0), (2, .int 0), (0, .ref q0), (1, .int mo)]) hx hb dX8_clear_27 rfl hl (by decide) rfl (fun ls hl => ?_)
      exact loop_28 4 0 0 (by omega) (by omega) hE _ _ hP hD hS ls (lv_sub hl [0, 1, 2, 3] rfl)
    · rw [if_neg c_2] at hE
      refine lv_iconst (v := (-1)) hx hb dX8_clear_10 (by decide) ?_
      subst hE
      exact W.iret hx hb hr (fun t ht hW => ⟨rfl, by rw [ht]; exact hP, hD, hS.F ht⟩) hS.2.2 dX8_clear_11
def FX8_cleared (vb : Nat → Int64) (k : Int32) : Int64 := if (FX8_isIndex k 3) = 0 then 0 else vb k.toNatClampNeg
set_option maxHeartbeats 4000000 in
set_option maxRecDepth 100000 in
theorem kX8_cleared (l : Launch) (D : va_G) (cI cJ cZ : ClassId) (q0 : Nat) (qb : Nat) (qm : Nat) (qp : Nat) (qy : Nat) (qd : Nat) (qc : Nat) (qf : Nat) (qv : Nat) (lr : Int32) (vb : Nat → Int64) (k : Int32) : Met l yX8_cleared wsX8_cleared ({ frames := 1, cells := 0, slots := 0, locals := 21 }) (rP D (tz cI cJ cZ) [.ref q0, .int k] [(q0, .inr (8, [.ref qb, .ref qm, .ref qp, .ref qy, .ref qd, .ref qc, .ref qf, .ref qv, .int lr])), (qv, .inl (cJ, 3, .inr (.inl vb)))]) (k2_QcV (.long (FX8_cleared vb k))) 0 0 (fun _ => False) := by
  refine Met.ofW (cc := cX8_cleared) (maxL := 2) (ret := (some .long)) (by decide) rfl ?_
  intro p e s m args below meth c s₁ B hml hv
  obtain ⟨rfl, hP, hK, hN⟩ := hv
  have hx := B.exec
  have hb := B.bytes
  have hr := B.returns
  have hts := atoms_spec (ws := wsX8_cleared) B.pre
  have hown : s.vm.findClass RX8 = some m.cls := findClass_of_methodNamed B.named
  have hlocks := B.notSynchronized
  have iw_8 : ∀ w ∈ u_ws RX8 TX8 9, w ∈ wsX8_cleared := by decide +kernel
  generalize hE : FX8_cleared vb k = R0
  rw [FX8_cleared] at hE
  have hl := lv_entry ([.ref q0, .int k]) (n := 2) (Nat.le_of_ble_eq_true rfl)
  rw [lg_entry_eq]
  generalize (lg_sl ([.ref q0, .int k]) ++ List.replicate (2 - (lg_sl ([.ref q0, .int k])).length) Slot.unset).toArray = ls at hl ⊢
  have hl : lv_has ls 2 [(0, .ref q0), (1, .int k)] := hl
  refine lv_iload_n hx hb dX8_cleared_0 rfl (lv_at hl 1 rfl) ?_
  refine lv_aload_n hx hb dX8_cleared_1 rfl (lv_at hl 0 rfl) ?_
  refine va_get (D := D) (ci := 8) (v := .ref qv) (C := RX8) (T := TX8) (N := 9) hx hb hts iw_8 hown hK hP 0 rfl rfl 7 (by decide) (hts (.fieldLink RX8 58 "DepositCodes" "balances" "[J") (by decide +kernel)) (fun _ h9 => h9) rfl dX8_cleared_2 ?_
  refine va_alen (v := 3) hx hb hK hP 1 1 rfl rfl rfl dX8_cleared_5 ?_
  refine rd_call (va_runS (As := [.int k, .int 3]) (rest := []) ⟨hx, hb, hml, hown, hts⟩ (kX8_isIndex l D cI cJ cZ k 3) (va_cwS 2 hts gX8_cleared_X8_isIndex rfl rfl rfl (by decide +kernel) ⟨Nat.le_of_ble_eq_true rfl, Nat.le_of_ble_eq_true rfl⟩) ⟨rP_blind, rP_pre (va_P_nil) hK hN⟩ rfl rfl hl.1 rfl (lv_room (Nat.le_of_ble_eq_true rfl)) dX8_cleared_6 ⟨Nat.zero_le _, Nat.zero_le _⟩) ?_
  refine lv_if_eq (tgt := 21) hx hb dX8_cleared_9 (by decide) (fun c_1 => ?_) (fun c_1 => ?_)
  · rw [if_pos c_1] at hE
    refine lv_lconst (v := 0) hx hb dX8_cleared_21 (by decide) ?_
    exact W.lret hx hb hr (fun t ht hW => ⟨by rw [← hE], ht⟩) (fun q h => absurd h List.not_mem_nil) dX8_cleared_22
  · rw [if_neg c_1] at hE
    have hin : vp_in k 3 := isIx_in (k := k) (n := 3) (by assumption) (by decide) (by decide)
    refine lv_aload_n hx hb dX8_cleared_12 rfl (lv_at hl 0 rfl) ?_
    refine va_get (D := D) (ci := 8) (v := .ref qv) (C := RX8) (T := TX8) (N := 9) hx hb hts iw_8 hown hK hP 0 rfl rfl 7 (by decide) (hts (.fieldLink RX8 58 "DepositCodes" "balances" "[J") (by decide +kernel)) (fun _ h9 => h9) rfl dX8_cleared_13 ?_
    refine lv_iload_n hx hb dX8_cleared_16 rfl (lv_at hl 1 rfl) ?_
    refine va_lald hx hb hK hP 1 1 rfl rfl (by assumption) dX8_cleared_17 ?_
    refine lv_goto (tgt := 22) hx hb dX8_cleared_18 (by decide) ?_
    exact W.lret hx hb hr (fun t ht hW => ⟨by rw [← hE], ht⟩) (fun q h => absurd h List.not_mem_nil) dX8_cleared_22
def FX8_fraud (fp : Nat → Int32) (fn : Nat) (k : Int32) : Int32 := FX3_machineOf fp fn k
set_option maxHeartbeats 4000000 in
set_option maxRecDepth 100000 in
theorem kX8_fraud (l : Launch) (D : va_G) (cI cJ cZ : ClassId) (q0 : Nat) (qb : Nat) (qm : Nat) (qp : Nat) (qy : Nat) (qd : Nat) (qc : Nat) (qf : Nat) (qv : Nat) (lr : Int32) (f1 : Nat) (fp : Nat → Int32) (fn : Nat) (k : Int32) (hfn : fn ≤ 170) : Met l yX8_fraud wsX8_fraud ({ frames := 2, cells := 0, slots := 0, locals := 42 }) (rP D (tz cI cJ cZ) [.ref q0, .int k] [(q0, .inr (8, [.ref qb, .ref qm, .ref qp, .ref qy, .ref qd, .ref qc, .ref qf, .ref qv, .int lr])), (qf, .inr (4, [.ref f1, .int (nI fn)])), (f1, .inl (cI, 170, .inl fp))]) (k2_QcV (.int (FX8_fraud fp fn k))) 0 0 (fun _ => False) := by
  refine Met.ofW (cc := cX8_fraud) (maxL := 2) (ret := (some .int)) (by decide) rfl ?_
  intro p e s m args below meth c s₁ B hml hv
  obtain ⟨rfl, hP, hK, hN⟩ := hv
  have hx := B.exec
  have hb := B.bytes
  have hr := B.returns
  have hts := atoms_spec (ws := wsX8_fraud) B.pre
  have hown : s.vm.findClass RX8 = some m.cls := findClass_of_methodNamed B.named
  have hlocks := B.notSynchronized
  have iw_8 : ∀ w ∈ u_ws RX8 TX8 9, w ∈ wsX8_fraud := by decide +kernel
  generalize hE : FX8_fraud fp fn k = R0
  rw [FX8_fraud] at hE
  have hl := lv_entry ([.ref q0, .int k]) (n := 2) (Nat.le_of_ble_eq_true rfl)
  rw [lg_entry_eq]
  generalize (lg_sl ([.ref q0, .int k]) ++ List.replicate (2 - (lg_sl ([.ref q0, .int k])).length) Slot.unset).toArray = ls at hl ⊢
  have hl : lv_has ls 2 [(0, .ref q0), (1, .int k)] := hl
  refine lv_aload_n hx hb dX8_fraud_0 rfl (lv_at hl 0 rfl) ?_
  refine va_get (D := D) (ci := 8) (v := .ref qf) (C := RX8) (T := TX8) (N := 9) hx hb hts iw_8 hown hK hP 0 rfl rfl 6 (by decide) (hts (.fieldLink RX8 54 "DepositCodes" "frauds" "LDepositCodes$Frauds;") (by decide +kernel)) (fun _ h9 => h9) rfl dX8_fraud_1 ?_
  refine lv_iload_n hx hb dX8_fraud_4 rfl (lv_at hl 1 rfl) ?_
  refine rd_call (va_runV (As := [.int k]) (rest := []) ⟨hx, hb, hml, hown, hts⟩ (kX3_machineOf l D cI cJ cZ qf f1 fp fn k (by first | assumption | omega)) (cwV 1 hts gX8_fraud_X3_machineOf rfl rfl rfl (by decide +kernel) ⟨Nat.le_of_ble_eq_true rfl, Nat.le_of_ble_eq_true rfl⟩) ⟨rP_blind, va_recv hK hP (ci := 4) (q0 := 1) rfl rfl, rP_pre (hP.sub [1, 2] rfl) hK hN⟩ rfl rfl hl.1 rfl (lv_room (Nat.le_of_ble_eq_true rfl)) dX8_fraud_5 ⟨Nat.zero_le _, Nat.zero_le _⟩) ?_
  exact W.iret hx hb hr (fun t ht hW => ⟨by rw [← hE], ht⟩) (fun q h => absurd h List.not_mem_nil) dX8_fraud_8
