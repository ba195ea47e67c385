def FX9_digitAt_l48 (rwd : Nat → Int32) (fr : Nat) (tu : Int32) (d : Nat) (sm : Int32) : Nat → Nat → Int32 → (Nat × Int32)
  | 0, k, ib => (k, ib)
  | n + 1, k, ib => if 4 ≤ k then (k, ib) else (if ib = 0 then FX9_digitAt_l48 rwd fr tu d sm n (k + 1) 0 else (if (7 * (FX9_at rwd (fr + k) tu)) = (sm * (FX9_pattern d k)) then FX9_digitAt_l48 rwd fr tu d sm n (k + 1) 1 else FX9_digitAt_l48 rwd fr tu d sm n (k + 1) 0))
def FX9_digitAt_l35 (rwd : Nat → Int32) (fr : Nat) (tu : Int32) : Nat → Nat → Int32 → Int32 → Int32
  | 0, _, _, _ => 0
  | n + 1, d, fo, sm => if 10 ≤ d then fo else (if ((FX9_digitAt_l48 rwd fr tu d sm 5 0 1).2) = 0 then FX9_digitAt_l35 rwd fr tu n (d + 1) fo sm else FX9_digitAt_l35 rwd fr tu n (d + 1) (nI d) sm)
def FX9_digitAt_l5 (rwd : Nat → Int32) (fr : Nat) (tu : Int32) : Nat → Nat → Int32 → Int32
  | 0, _, _ => 0
  | n + 1, k, sm => if 4 ≤ k then FX9_digitAt_l35 rwd fr tu 11 0 (-1) sm else FX9_digitAt_l5 rwd fr tu n (k + 1) (sm + (FX9_at rwd (fr + k) tu))
def FX9_digitAt (rwd : Nat → Int32) (fr : Nat) (tu : Int32) : Int32 := FX9_digitAt_l5 rwd fr tu 5 0 0
set_option maxHeartbeats 4000000 in
set_option maxRecDepth 100000 in
theorem kX9_digitAt (l : Launch) (D : va_G) (cI cJ cZ : ClassId) (w0 : Nat) (a1 : Nat) (a2 : Nat) (a3 : Nat) (a4 : Nat) (a5 : Nat) (a6 : Nat) (a7 : Nat) (a8 : Nat) (a9 : Nat) (a10 : Nat) (a11 : Nat) (a12 : Nat) (a13 : Nat) (a14 : Nat) (a15 : Nat) (a16 : Nat) (a17 : Nat) (a18 : Nat) (a19 : Nat) (a20 : Nat) (a21 : Nat) (a22 : Nat) (a23 : Nat) (rdn : Nat) (rfa : Int32) (rmn : Nat) (rpn : Nat) (rre : Int32) (rrn : Nat) (rfn : Nat) (rkn : Nat) (rcn : Nat) (rwd : Nat → Int32) (fr : Nat) (tu : Int32) (hfr : fr + 4 ≤ FX9_size rwd) : Met l yX9_digitAt wsX9_digitAt ({ frames := 2, cells := 0, slots := 0, locals := 43 }) (rP D (tz cI cJ cZ) [.ref w0, .int (nI fr), .int tu] [(w0, .inr (9, [.ref a1, .ref a2, .int (nI rdn), .int rfa, .int (nI rmn), .ref a3, .ref a4, .ref a5, .ref a6, .ref a7, .ref a8, .ref a9, .ref a10, .ref a11, .ref a12, .ref a13, .int (nI rpn), .int rre, .ref a14, .ref a15, .int (nI rrn), .ref a16, .int (nI rfn), .ref a17, .ref a18, .ref a19, .int (nI rkn), .ref a20, .ref a21, .int (nI rcn), .ref a22, .ref a23])), (a1, .inl (cI, 64, .inl rwd))]) (k2_QcV (.int (FX9_digitAt rwd fr tu))) 0 0 (fun _ => False) := by
  refine Met.ofW (cc := cX9_digitAt) (maxL := 8) (ret := (some .int)) (by decide) rfl ?_
  intro p e s m args below meth c s₁ B hml hv
  obtain ⟨rfl, hP, hK, hN⟩ := hv
  have hx := B.exec
  have hb := B.bytes
  have hr := B.returns
  have hts := atoms_spec (ws := wsX9_digitAt) B.pre
  have hown : s.vm.findClass RX9 = some m.cls := findClass_of_methodNamed B.named
  have hlocks := B.notSynchronized
  generalize hE : FX9_digitAt rwd fr tu = R0
  rw [FX9_digitAt] at hE
  have hl := lv_entry ([.ref w0, .int (nI fr), .int tu]) (n := 8) (Nat.le_of_ble_eq_true rfl)
  rw [lg_entry_eq]
  generalize (lg_sl ([.ref w0, .int (nI fr), .int tu]) ++ List.replicate (8 - (lg_sl ([.ref w0, .int (nI fr), .int tu])).length) Slot.unset).toArray = ls at hl ⊢
  have hl : lv_has ls 8 [(0, .ref w0), (1, .int (nI fr)), (2, .int tu)] := hl
  have hsz := FX9_size_le rwd
  have loop_35 : ∀ (n : Nat) (d : Nat) (fo : Int32) (sm : Int32), d ≤ 10 → d + n = 11 → FX9_digitAt_l35 rwd fr tu n d fo sm = R0 → ∀ ls : Array Slot, lv_has ls 8 [(5, .int (nI d)), (4, .int fo), (3, .int sm), (0, .ref w0), (1, .int (nI fr)), (2, .int tu)] → W p l e (headSpec wsX9_digitAt ({ frames := 2, cells := 0, slots := 0, locals := 43 })).room s m ([.ref w0, .int (nI fr), .int tu] : List Value).toArray below meth c s.heap [] 0 0 (MQ below (k2_QcV (.int R0)) ([.ref w0, .int (nI fr), .int tu] : List Value).toArray s 0 0 (fun _ => False)) (F0 m 35 ls []) := by
    intro n
    induction n with
    | zero =>
      intro d fo sm i_1 i_2
      exact absurd i_1 (by omega)
    | succ n ih =>
      intro d fo sm i_1 i_2 hE ls hl
      rw [FX9_digitAt_l35] at hE
      refine lv_iload hx hb dX9_digitAt_35 (lv_at hl 0 rfl) ?_
      refine lv_bipush (v := 10) hx hb dX9_digitAt_37 (by decide) ?_
      refine lv_icmp_ge (tgt := 116) hx hb dX9_digitAt_39 (by decide) (fun c_2 => ?_) (fun c_2 => ?_)
      · have c_2 : 10 ≤ d := (nI_leI (a := 10) (b := d) (by omega) (by omega)).mp c_2
        rw [if_pos c_2] at hE
        refine lv_iload hx hb dX9_digitAt_116 (lv_at hl 1 rfl) ?_
        exact W.iret hx hb hr (fun t ht hW => ⟨by rw [← hE], ht⟩) (fun q h => absurd h List.not_mem_nil) dX9_digitAt_118
      · have c_2 : ¬ 10 ≤ d := fun h9 => c_2 ((nI_leI (a := 10) (b := d) (by omega) (by omega)).mpr h9)
        rw [if_neg c_2] at hE
        refine lv_iconst (v := 1) hx hb dX9_digitAt_42 (by decide) ?_
        refine lv_istore (lv' := [(6, .int 1), (5, .int (nI d)), (4, .int fo), (3, .int sm), (0, .ref w0), (1, .int (nI fr)), (2, .int tu)]) hx hb dX9_digitAt_43 hl (by decide) rfl (fun ls hl => ?_)
        refine lv_iconst (v := 0) hx hb dX9_digitAt_45 (by decide) ?_
        refine lv_istore (lv' := [(7, .int 0), (6, .int 1), (5, .int (nI d)), (4, .int fo), (3, .int sm), (0, .ref w0), (1, .int (nI fr)), (2, .int tu)]) hx hb dX9_digitAt_46 hl (by decide) rfl (fun ls hl => ?_)
        have loop_48 : ∀ (n : Nat) (k : Nat) (ib : Int32), k ≤ 4 → k + n = 5 → ∀ R1 : Nat × Int32, FX9_digitAt_l48 rwd fr tu d sm n k ib = R1 → ∀ ls : Array Slot, lv_has ls 8 [(7, .int (nI k)), (6, .int ib), (5, .int (nI d)), (4, .int fo), (3, .int sm), (0, .ref w0), (1, .int (nI fr)), (2, .int tu)] → (∀ ls : Array Slot, lv_has ls 8 [(7, .int (nI R1.1)), (6, .int R1.2), (5, .int (nI d)), (4, .int fo), (3, .int sm), (0, .ref w0), (1, .int (nI fr)), (2, .int tu)] → W p l e (headSpec wsX9_digitAt ({ frames := 2, cells := 0, slots := 0, locals := 43 })).room s m ([.ref w0, .int (nI fr), .int tu] : List Value).toArray below meth c s.heap [] 0 0 (MQ below (k2_QcV (.int R0)) ([.ref w0, .int (nI fr), .int tu] : List Value).toArray s 0 0 (fun _ => False)) (F0 m 96 ls [])) → W p l e (headSpec wsX9_digitAt ({ frames := 2, cells := 0, slots := 0, locals := 43 })).room s m ([.ref w0, .int (nI fr), .int tu] : List Value).toArray below meth c s.heap [] 0 0 (MQ below (k2_QcV (.int R0)) ([.ref w0, .int (nI fr), .int tu] : List Value).toArray s 0 0 (fun _ => False)) (F0 m 48 ls []) := by
          intro n
          induction n with
          | zero =>
            intro k ib j_1 j_2
            exact absurd j_1 (by omega)
          | succ n ih =>
            intro k ib j_1 j_2 R1 hE ls hl hG
            rw [FX9_digitAt_l48] at hE
            refine lv_iload hx hb dX9_digitAt_48 (lv_at hl 0 rfl) ?_
            refine lv_iconst (v := 4) hx hb dX9_digitAt_50 (by decide) ?_
            refine lv_icmp_ge (tgt := 96) hx hb dX9_digitAt_51 (by decide) (fun c_3 => ?_) (fun c_3 => ?_)
            · have c_3 : 4 ≤ k := (nI_leI (a := 4) (b := k) (by omega) (by omega)).mp c_3
              rw [if_pos c_3] at hE
              subst hE
              exact hG ls (lv_sub hl [0, 1, 2, 3, 4, 5, 6, 7] rfl)
            · have c_3 : ¬ 4 ≤ k := fun h9 => c_3 ((nI_leI (a := 4) (b := k) (by omega) (by omega)).mpr h9)
              rw [if_neg c_3] at hE
              refine lv_iload hx hb dX9_digitAt_54 (lv_at hl 1 rfl) ?_
              refine lv_if_eq (tgt := 87) hx hb dX9_digitAt_56 (by decide) (fun c_4 => ?_) (fun c_4 => ?_)
              · rw [if_pos c_4] at hE
                refine lv_iconst (v := 0) hx hb dX9_digitAt_87 (by decide) ?_
                refine lv_istore (lv' := [(6, .int 0), (7, .int (nI k)), (5, .int (nI d)), (4, .int fo), (3, .int sm), (0, .ref w0), (1, .int (nI fr)), (2, .int tu)]) hx hb dX9_digitAt_88 hl (by decide) rfl (fun ls hl => ?_)
                refine lv_iinc (v := nI (k + 1)) (lv' := [(7, .int (nI (k + 1))), (6, .int 0), (5, .int (nI d)), (4, .int fo), (3, .int sm), (0, .ref w0), (1, .int (nI fr)), (2, .int tu)]) hx hb dX9_digitAt_90 hl (k := 1) rfl (nI_1 k) (by decide) rfl (fun ls hl => ?_)
                refine lv_goto (tgt := 48) hx hb dX9_digitAt_93 (by decide) ?_
                exact ih (k + 1) 0 (by omega) (by omega) _ hE ls (lv_sub hl [0, 1, 2, 3, 4, 5, 6, 7] rfl) hG
              · rw [if_neg c_4] at hE
                refine lv_bipush (v := 7) hx hb dX9_digitAt_59 (by decide) ?_
                refine lv_aload_n hx hb dX9_digitAt_61 rfl (lv_at hl 5 rfl) ?_
                refine lv_iload_n hx hb dX9_digitAt_62 rfl (lv_at hl 6 rfl) ?_
                refine lv_iload hx hb dX9_digitAt_63 (lv_at hl 0 rfl) ?_
                refine lv_iadd hx hb dX9_digitAt_65 ?_
                refine na_top (show (nI fr) + (nI k) = nI (fr + k) from nI_add fr k) ?_
                refine lv_iload_n hx hb dX9_digitAt_66 rfl (lv_at hl 7 rfl) ?_
                refine rd_call (va_runV (As := [.int (nI (fr + k)), .int tu]) (rest := [.int 7]) ⟨hx, hb, hml, hown, hts⟩ (kX9_at l D cI cJ cZ w0 a1 a2 a3 a4 a5 a6 a7 a8 a9 a10 a11 a12 a13 a14 a15 a16 a17 a18 a19 a20 a21 a22 a23 rdn rfa rmn rpn rre rrn rfn rkn rcn rwd (fr + k) tu (by first | assumption | omega)) (cwV 2 hts gX9_digitAt_X9_at rfl rfl rfl (by decide +kernel) ⟨Nat.le_of_ble_eq_true rfl, Nat.le_of_ble_eq_true rfl⟩) ⟨rP_blind, va_recv hK hP (ci := 9) (q0 := 0) rfl rfl, rP_pre (hP.sub [0, 1] rfl) hK hN⟩ rfl rfl hl.1 rfl (lv_room (Nat.le_of_ble_eq_true rfl)) dX9_digitAt_67 ⟨Nat.zero_le _, Nat.zero_le _⟩) ?_
                refine lv_imul hx hb dX9_digitAt_70 ?_
                refine lv_iload_n hx hb dX9_digitAt_71 rfl (lv_at hl 4 rfl) ?_
                refine lv_iload hx hb dX9_digitAt_72 (lv_at hl 2 rfl) ?_
                refine lv_iload hx hb dX9_digitAt_74 (lv_at hl 0 rfl) ?_
                refine rd_call (va_runS (As := [.int (nI d), .int (nI k)]) (rest := [.int sm, .int (7 * (FX9_at rwd (fr + k) tu))]) ⟨hx, hb, hml, hown, hts⟩ (kX9_pattern l D cI cJ cZ d k (by first | assumption | omega) (by first | assumption | omega)) (va_cwS 2 hts gX9_digitAt_X9_pattern rfl rfl rfl (by decide +kernel) ⟨Nat.le_of_ble_eq_true rfl, Nat.le_of_ble_eq_true rfl⟩) ⟨rP_blind, rP_pre (va_P_nil) hK hN⟩ rfl rfl hl.1 rfl (lv_room (Nat.le_of_ble_eq_true rfl)) dX9_digitAt_76 ⟨Nat.zero_le _, Nat.zero_le _⟩) ?_
                refine lv_imul hx hb dX9_digitAt_79 ?_
                refine lv_icmp_ne (tgt := 87) hx hb dX9_digitAt_80 (by decide) (fun c_5 => ?_) (fun c_5 => ?_)
                · rw [if_neg c_5] at hE
                  refine lv_iconst (v := 0) hx hb dX9_digitAt_87 (by decide) ?_
                  refine lv_istore (lv' := [(6, .int 0), (7, .int (nI k)), (5, .int (nI d)), (4, .int fo), (3, .int sm), (0, .ref w0), (1, .int (nI fr)), (2, .int tu)]) hx hb dX9_digitAt_88 hl (by decide) rfl (fun ls hl => ?_)
                  refine lv_iinc (v := nI (k + 1)) (lv' := [(7, .int (nI (k + 1))), (6, .int 0), (5, .int (nI d)), (4, .int fo), (3, .int sm), (0, .ref w0), (1, .int (nI fr)), (2, .int tu)]) hx hb dX9_digitAt_90 hl (k := 1) rfl (nI_1 k) (by decide) rfl (fun ls hl => ?_)
                  refine lv_goto (tgt := 48) hx hb dX9_digitAt_93 (by decide) ?_
                  exact ih (k + 1) 0 (by omega) (by omega) _ hE ls (lv_sub hl [0, 1, 2, 3, 4, 5, 6, 7] rfl) hG
                · rw [if_pos c_5] at hE
                  refine lv_iconst (v := 1) hx hb dX9_digitAt_83 (by decide) ?_
                  refine lv_goto (tgt := 88) hx hb dX9_digitAt_84 (by decide) ?_
                  refine lv_istore (lv' := [(6, .int 1), (7, .int (nI k)), (5, .int (nI d)), (4, .int fo), (3, .int sm), (0, .ref w0), (1, .int (nI fr)), (2, .int tu)]) hx hb dX9_digitAt_88 hl (by decide) rfl (fun ls hl => ?_)
                  refine lv_iinc (v := nI (k + 1)) (lv' := [(7, .int (nI (k + 1))), (6, .int 1), (5, .int (nI d)), (4, .int fo), (3, .int sm), (0, .ref w0), (1, .int (nI fr)), (2, .int tu)]) hx hb dX9_digitAt_90 hl (k := 1) rfl (nI_1 k) (by decide) rfl (fun ls hl => ?_)
                  refine lv_goto (tgt := 48) hx hb dX9_digitAt_93 (by decide) ?_
                  exact ih (k + 1) 1 (by omega) (by omega) _ hE ls (lv_sub hl [0, 1, 2, 3, 4, 5, 6, 7] rfl) hG
        refine loop_48 5 0 1 (by omega) (by omega) _ rfl ls (lv_sub hl [0, 1, 2, 3, 4, 5, 6, 7] rfl) (fun ls hl => ?_)
        refine lv_iload hx hb dX9_digitAt_96 (lv_at hl 1 rfl) ?_
        refine lv_if_eq (tgt := 106) hx hb dX9_digitAt_98 (by decide) (fun c_6 => ?_) (fun c_6 => ?_)
        · rw [if_pos c_6] at hE
          refine lv_iload hx hb dX9_digitAt_106 (lv_at hl 3 rfl) ?_
          refine lv_istore (lv' := [(4, .int fo), (7, .int (nI ((FX9_digitAt_l48 rwd fr tu d sm 5 0 1).1))), (6, .int ((FX9_digitAt_l48 rwd fr tu d sm 5 0 1).2)), (5, .int (nI d)), (3, .int sm), (0, .ref w0), (1, .int (nI fr)), (2, .int tu)]) hx hb dX9_digitAt_108 hl (by decide) rfl (fun ls hl => ?_)
          refine lv_iinc (v := nI (d + 1)) (lv' := [(5, .int (nI (d + 1))), (4, .int fo), (7, .int (nI ((FX9_digitAt_l48 rwd fr tu d sm 5 0 1).1))), (6, .int ((FX9_digitAt_l48 rwd fr tu d sm 5 0 1).2)), (3, .int sm), (0, .ref w0), (1, .int (nI fr)), (2, .int tu)]) hx hb dX9_digitAt_110 hl (k := 3) rfl (nI_1 d) (by decide) rfl (fun ls hl => ?_)
          refine lv_goto (tgt := 35) hx hb dX9_digitAt_113 (by decide) ?_
          exact ih (d + 1) fo sm (by omega) (by omega) hE ls (lv_sub hl [0, 1, 4, 5, 6, 7] rfl)
        · rw [if_neg c_6] at hE
          refine lv_iload hx hb dX9_digitAt_101 (lv_at hl 2 rfl) ?_
          refine lv_goto (tgt := 108) hx hb dX9_digitAt_103 (by decide) ?_
          refine lv_istore (lv' := [(4, .int (nI d)), (7, .int (nI ((FX9_digitAt_l48 rwd fr tu d sm 5 0 1).1))), (6, .int ((FX9_digitAt_l48 rwd fr tu d sm 5 0 1).2)), (5, .int (nI d)), (3, .int sm), (0, .ref w0), (1, .int (nI fr)), (2, .int tu)]) hx hb dX9_digitAt_108 hl (by decide) rfl (fun ls hl => ?_)
          refine lv_iinc (v := nI (d + 1)) (lv' := [(5, .int (nI (d + 1))), (4, .int (nI d)), (7, .int (nI ((FX9_digitAt_l48 rwd fr tu d sm 5 0 1).1))), (6, .int ((FX9_digitAt_l48 rwd fr tu d sm 5 0 1).2)), (3, .int sm), (0, .ref w0), (1, .int (nI fr)), (2, .int tu)]) hx hb dX9_digitAt_110 hl (k := 3) rfl (nI_1 d) (by decide) rfl (fun ls hl => ?_)
          refine lv_goto (tgt := 35) hx hb dX9_digitAt_113 (by decide) ?_
          exact ih (d + 1) (nI d) sm (by omega) (by omega) hE ls (lv_sub hl [0, 1, 4, 5, 6, 7] rfl)
  have loop_5 : ∀ (n : Nat) (k : Nat) (sm : Int32), k ≤ 4 → k + n = 5 → FX9_digitAt_l5 rwd fr tu n k sm = R0 → ∀ ls : Array Slot, lv_has ls 8 [(4, .int (nI k)), (3, .int sm), (0, .ref w0), (1, .int (nI fr)), (2, .int tu)] → W p l e (headSpec wsX9_digitAt ({ frames := 2, cells := 0, slots := 0, locals := 43 })).room s m ([.ref w0, .int (nI fr), .int tu] : List Value).toArray below meth c s.heap [] 0 0 (MQ below (k2_QcV (.int R0)) ([.ref w0, .int (nI fr), .int tu] : List Value).toArray s 0 0 (fun _ => False)) (F0 m 5 ls []) := by
    intro n
    induction n with
    | zero =>
      intro k sm i_1 i_2
      exact absurd i_1 (by omega)
    | succ n ih =>
      intro k sm i_1 i_2 hE ls hl
      rw [FX9_digitAt_l5] at hE
      refine lv_iload hx hb dX9_digitAt_5 (lv_at hl 0 rfl) ?_
      refine lv_iconst (v := 4) hx hb dX9_digitAt_7 (by decide) ?_
      refine lv_icmp_ge (tgt := 29) hx hb dX9_digitAt_8 (by decide) (fun c_1 => ?_) (fun c_1 => ?_)
      · have c_1 : 4 ≤ k := (nI_leI (a := 4) (b := k) (by omega) (by omega)).mp c_1
        rw [if_pos c_1] at hE
        refine lv_iconst (v := (-1)) hx hb dX9_digitAt_29 (by decide) ?_
        refine lv_istore (lv' := [(4, .int (-1)), (3, .int sm), (0, .ref w0), (1, .int (nI fr)), (2, .int tu)]) hx hb dX9_digitAt_30 hl (by decide) rfl (fun ls hl => ?_)
        refine lv_iconst (v := 0) hx hb dX9_digitAt_32 (by decide) ?_
        refine lv_istore (lv' := [(5, .int 0), (4, .int (-1)), (3, .int sm), (0, .ref w0), (1, .int (nI fr)), (2, .int tu)]) hx hb dX9_digitAt_33 hl (by decide) rfl (fun ls hl => ?_)
        exact loop_35 11 0 (-1) sm (by omega) (by omega) hE ls (lv_sub hl [0, 1, 2, 3, 4, 5] rfl)
      · have c_1 : ¬ 4 ≤ k := fun h9 => c_1 ((nI_leI (a := 4) (b := k) (by omega) (by omega)).mpr h9)
        rw [if_neg c_1] at hE
        refine lv_iload_n hx hb dX9_digitAt_11 rfl (lv_at hl 1 rfl) ?_
        refine lv_aload_n hx hb dX9_digitAt_12 rfl (lv_at hl 2 rfl) ?_
        refine lv_iload_n hx hb dX9_digitAt_13 rfl (lv_at hl 3 rfl) ?_
        refine lv_iload hx hb dX9_digitAt_14 (lv_at hl 0 rfl) ?_
        refine lv_iadd hx hb dX9_digitAt_16 ?_
        refine na_top (show (nI fr) + (nI k) = nI (fr + k) from nI_add fr k) ?_
        refine lv_iload_n hx hb dX9_digitAt_17 rfl (lv_at hl 4 rfl) ?_
        refine rd_call (va_runV (As := [.int (nI (fr + k)), .int tu]) (rest := [.int sm]) ⟨hx, hb, hml, hown, hts⟩ (kX9_at l D cI cJ cZ w0 a1 a2 a3 a4 a5 a6 a7 a8 a9 a10 a11 a12 a13 a14 a15 a16 a17 a18 a19 a20 a21 a22 a23 rdn rfa rmn rpn rre rrn rfn rkn rcn rwd (fr + k) tu (by first | assumption | omega)) (cwV 2 hts gX9_digitAt_X9_at rfl rfl rfl (by decide +kernel) ⟨Nat.le_of_ble_eq_true rfl, Nat.le_of_ble_eq_true rfl⟩) ⟨rP_blind, va_recv hK hP (ci := 9) (q0 := 0) rfl rfl, rP_pre (hP.sub [0, 1] rfl) hK hN⟩ rfl rfl hl.1 rfl (lv_room (Nat.le_of_ble_eq_true rfl)) dX9_digitAt_18 ⟨Nat.zero_le _, Nat.zero_le _⟩) ?_
        refine lv_iadd hx hb dX9_digitAt_21 ?_
        refine lv_istore_n (lv' := [(3, .int (sm + (FX9_at rwd (fr + k) tu))), (4, .int (nI k)), (0, .ref w0), (1, .int (nI fr)), (2, .int tu)]) hx hb dX9_digitAt_22 rfl hl (by decide) rfl (fun ls hl => ?_)
        refine lv_iinc (v := nI (k + 1)) (lv' := [(4, .int (nI (k + 1))), (3, .int (sm + (FX9_at rwd (fr + k) tu))), (0, .ref w0), (1, .int (nI fr)), (2, .int tu)]) hx hb dX9_digitAt_23 hl (k := 1) rfl (nI_1 k) (by decide) rfl (fun ls hl => ?_)
        refine lv_goto (tgt := 5) hx hb dX9_digitAt_26 (by decide) ?_
        exact ih (k + 1) (sm + (FX9_at rwd (fr + k) tu)) (by omega) (by omega) hE ls (lv_sub hl [0, 1, 2, 3, 4] rfl)
  refine lv_iconst (v := 0) hx hb dX9_digitAt_0 (by decide) ?_
  refine lv_istore_n (lv' := [(3, .int 0), (0, .ref w0), (1, .int (nI fr)), (2, .int tu)]) hx hb dX9_digitAt_1 rfl hl (by decide) rfl (fun ls hl => ?_)
  refine lv_iconst (v := 0) hx hb dX9_digitAt_2 (by decide) ?_
  refine lv_istore (lv' := [(4, .int 0), (3, .int 0), (0, .ref w0), (1, .int (nI fr)), (2, .int tu)]) hx hb dX9_digitAt_3 hl (by decide) rfl (fun ls hl => ?_)
  exact loop_5 5 0 0 (by omega) (by omega) hE ls (lv_sub hl [0, 1, 2, 3, 4] rfl)
def FX9_readSo_l112 (rwd : Nat → Int32) (tu : Int32) : Nat → Nat → Int32 → (Nat → Int32) → Int32 × (Nat → Int32) × Nat
  | 0, _, _, _ => (0, fun _ => 0, 0)
  | n + 1, k, gd, rdx => if (((FX9_size rwd) - 6) / 4) ≤ k then (if gd = 0 then (gd, rdx, 0) else (gd, rdx, ((FX9_size rwd) - 6) / 4)) else (if gd = 0 then (if gd = 0 then (gd, rdx, 0) else (gd, rdx, ((FX9_size rwd) - 6) / 4)) else (if ((upd rdx k (FX9_digitAt rwd (3 + (4 * k)) tu)) k) < 0 then FX9_readSo_l112 rwd tu n (k + 1) 0 (upd rdx k (FX9_digitAt rwd (3 + (4 * k)) tu)) else FX9_readSo_l112 rwd tu n (k + 1) 1 (upd rdx k (FX9_digitAt rwd (3 + (4 * k)) tu))))
def FX9_readSo (rwd : Nat → Int32) (rd : Nat → Int32) (tu : Int32) : Int32 × (Nat → Int32) × Nat := if (FX9_size rwd) < 10 then (0, rd, 0) else (if (((FX9_size rwd) - 6) % 4) = 0 then (if (FX9_at rwd 0 tu) = (FX9_at rwd 1 tu) then (if (FX9_at rwd 1 tu) = (FX9_at rwd 2 tu) then (if (FX9_at rwd ((FX9_size rwd) - 1) tu) = (FX9_at rwd ((FX9_size rwd) - 2) tu) then (if (FX9_at rwd ((FX9_size rwd) - 2) tu) = (FX9_at rwd ((FX9_size rwd) - 3) tu) then FX9_readSo_l112 rwd tu 20 0 1 rd else FX9_readSo_l112 rwd tu 20 0 0 rd) else FX9_readSo_l112 rwd tu 20 0 0 rd) else FX9_readSo_l112 rwd tu 20 0 0 rd) else FX9_readSo_l112 rwd tu 20 0 0 rd) else (0, rd, 0))
set_option maxHeartbeats 4000000 in
set_option maxRecDepth 100000 in
theorem kX9_readSo (l : Launch) (D : va_G) (cI cJ cZ : ClassId) (w0 : Nat) (a1 : Nat) (a2 : Nat) (a3 : Nat) (a4 : Nat) (a5 : Nat) (a6 : Nat) (a7 : Nat) (a8 : Nat) (a9 : Nat) (a10 : Nat) (a11 : Nat) (a12 : Nat) (a13 : Nat) (a14 : Nat) (a15 : Nat) (a16 : Nat) (a17 : Nat) (a18 : Nat) (a19 : Nat) (a20 : Nat) (a21 : Nat) (a22 : Nat) (a23 : Nat) (rdn : Nat) (rfa : Int32) (rmn : Nat) (rpn : Nat) (rre : Int32) (rrn : Nat) (rfn : Nat) (rkn : Nat) (rcn : Nat) (rwd : Nat → Int32) (rd : Nat → Int32) (tu : Int32) (sz : Nat) : Met l yX9_readSo wsX9_readSo ({ frames := 3, cells := 0, slots := 0, locals := 70 }) (mP D (tz cI cJ cZ) [.ref w0, .int tu] sz [(w0, .inr (9, [.ref a1, .ref a2, .int (nI rdn), .int rfa, .int (nI rmn), .ref a3, .ref a4, .ref a5, .ref a6, .ref a7, .ref a8, .ref a9, .ref a10, .ref a11, .ref a12, .ref a13, .int (nI rpn), .int rre, .ref a14, .ref a15, .int (nI rrn), .ref a16, .int (nI rfn), .ref a17, .ref a18, .ref a19, .int (nI rkn), .ref a20, .ref a21, .int (nI rcn), .ref a22, .ref a23])), (a1, .inl (cI, 64, .inl rwd)), (a2, .inl (cI, 16, .inl rd))]) (mQ D (some (.int ((FX9_readSo rwd rd tu).1))) [(w0, .inr (9, [.ref a1, .ref a2, .int (nI ((FX9_readSo rwd rd tu).2.2)), .int rfa, .int (nI rmn), .ref a3, .ref a4, .ref a5, .ref a6, .ref a7, .ref a8, .ref a9, .ref a10, .ref a11, .ref a12, .ref a13, .int (nI rpn), .int rre, .ref a14, .ref a15, .int (nI rrn), .ref a16, .int (nI rfn), .ref a17, .ref a18, .ref a19, .int (nI rkn), .ref a20, .ref a21, .int (nI rcn), .ref a22, .ref a23])), (a1, .inl (cI, 64, .inl rwd)), (a2, .inl (cI, 16, .inl ((FX9_readSo rwd rd tu).2.1)))] (va_A [(w0, .inr (9, [.ref a1, .ref a2, .int (nI rdn), .int rfa, .int (nI rmn), .ref a3, .ref a4, .ref a5, .ref a6, .ref a7, .ref a8, .ref a9, .ref a10, .ref a11, .ref a12, .ref a13, .int (nI rpn), .int rre, .ref a14, .ref a15, .int (nI rrn), .ref a16, .int (nI rfn), .ref a17, .ref a18, .ref a19, .int (nI rkn), .ref a20, .ref a21, .int (nI rcn), .ref a22, .ref a23])), (a1, .inl (cI, 64, .inl rwd)), (a2, .inl (cI, 16, .inl rd))] sz)) 0 0 (va_A [(w0, .inr (9, [.ref a1, .ref a2, .int (nI rdn), .int rfa, .int (nI rmn), .ref a3, .ref a4, .ref a5, .ref a6, .ref a7, .ref a8, .ref a9, .ref a10, .ref a11, .ref a12, .ref a13, .int (nI rpn), .int rre, .ref a14, .ref a15, .int (nI rrn), .ref a16, .int (nI rfn), .ref a17, .ref a18, .ref a19, .int (nI rkn), .ref a20, .ref a21, .int (nI rcn), .ref a22, .ref a23])), (a1, .inl (cI, 64, .inl rwd)), (a2, .inl (cI, 16, .inl rd))] sz) := by
  refine Met.ofW (cc := cX9_readSo) (maxL := 6) (ret := (some .boolean)) (by decide) rfl ?_
  intro p e s m args below meth c s₁ B hml hv
  obtain ⟨rfl, hsz, hP, hK, hD0, hN⟩ := hv
  have hx := B.exec
  have hb := B.bytes
  have hr := B.returns
  have hts := atoms_spec (ws := wsX9_readSo) B.pre
  have hown : s.vm.findClass RX9 = some m.cls := findClass_of_methodNamed B.named
  have hlocks := B.notSynchronized
  have iw_9 : ∀ w ∈ u_ws RX9 TX9 32, w ∈ wsX9_readSo := by decide +kernel
  subst hsz
  have hD := hD0.self (sz := s.heap.size)
  generalize hE : FX9_readSo rwd rd tu = R0
  generalize hAe : va_A [(w0, .inr (9, [.ref a1, .ref a2, .int (nI rdn), .int rfa, .int (nI rmn), .ref a3, .ref a4, .ref a5, .ref a6, .ref a7, .ref a8, .ref a9, .ref a10, .ref a11, .ref a12, .ref a13, .int (nI rpn), .int rre, .ref a14, .ref a15, .int (nI rrn), .ref a16, .int (nI rfn), .ref a17, .ref a18, .ref a19, .int (nI rkn), .ref a20, .ref a21, .int (nI rcn), .ref a22, .ref a23])), (a1, .inl (cI, 64, .inl rwd)), (a2, .inl (cI, 16, .inl rd))] s.heap.size = A at hD ⊢
  have hA : ∀ q : Nat, s.heap.size ≤ q → A q := fun q h => by rw [← hAe]; exact Or.inr h
  have hS : va_S A s.heap s.heap [] := va_S.rf
  rw [FX9_readSo] at hE
  have hl := lv_entry ([.ref w0, .int tu]) (n := 6) (Nat.le_of_ble_eq_true rfl)
  rw [lg_entry_eq]
  generalize (lg_sl ([.ref w0, .int tu]) ++ List.replicate (6 - (lg_sl ([.ref w0, .int tu])).length) Slot.unset).toArray = ls at hl ⊢
  have hl : lv_has ls 6 [(0, .ref w0), (1, .int tu)] := hl
  have hsz := FX9_size_le rwd
  have loop_112 : ∀ (n : Nat) (k : Nat) (gd : Int32) (rdx : Nat → Int32), k ≤ 14 → k + n = 20 → isB gd → 10 ≤ FX9_size rwd → k ≤ (FX9_size rwd - 6) / 4 → FX9_readSo_l112 rwd tu n k gd rdx = R0 → ∀ (H : Heap) (locs : List Loc), va_P D vwCl [(w0, .inr (9, [.ref a1, .ref a2, .int 0, .int rfa, .int (nI rmn), .ref a3, .ref a4, .ref a5, .ref a6, .ref a7, .ref a8, .ref a9, .ref a10, .ref a11, .ref a12, .ref a13, .int (nI rpn), .int rre, .ref a14, .ref a15, .int (nI rrn), .ref a16, .int (nI rfn), .ref a17, .ref a18, .ref a19, .int (nI rkn), .ref a20, .ref a21, .int (nI rcn), .ref a22, .ref a23])), (a1, .inl (cI, 64, .inl rwd)), (a2, .inl (cI, 16, .inl rdx))] H → va_D A [(w0, .inr (9, [.ref a1, .ref a2, .int 0, .int rfa, .int (nI rmn), .ref a3, .ref a4, .ref a5, .ref a6, .ref a7, .ref a8, .ref a9, .ref a10, .ref a11, .ref a12, .ref a13, .int (nI rpn), .int rre, .ref a14, .ref a15, .int (nI rrn), .ref a16, .int (nI rfn), .ref a17, .ref a18, .ref a19, .int (nI rkn), .ref a20, .ref a21, .int (nI rcn), .ref a22, .ref a23])), (a1, .inl (cI, 64, .inl rwd)), (a2, .inl (cI, 16, .inl rdx))] → va_S A s.heap H locs → ∀ ls : Array Slot, lv_has ls 6 [(5, .int (nI k)), (4, .int (nI (((FX9_size rwd) - 6) / 4))), (3, .int gd), (2, .int (nI (FX9_size rwd))), (0, .ref w0), (1, .int tu)] → W p l e (headSpec wsX9_readSo ({ frames := 3, cells := 0, slots := 0, locals := 70 })).room s m ([.ref w0, .int tu] : List Value).toArray below meth c H locs 0 0 (MQ below (mQ D (some (.int R0.1)) [(w0, .inr (9, [.ref a1, .ref a2, .int (nI R0.2.2), .int rfa, .int (nI rmn), .ref a3, .ref a4, .ref a5, .ref a6, .ref a7, .ref a8, .ref a9, .ref a10, .ref a11, .ref a12, .ref a13, .int (nI rpn), .int rre, .ref a14, .ref a15, .int (nI rrn), .ref a16, .int (nI rfn), .ref a17, .ref a18, .ref a19, .int (nI rkn), .ref a20, .ref a21, .int (nI rcn), .ref a22, .ref a23])), (a1, .inl (cI, 64, .inl rwd)), (a2, .inl (cI, 16, .inl R0.2.1))] A) ([.ref w0, .int tu] : List Value).toArray s 0 0 A) (F0 m 112 ls []) := by
    intro n
    induction n with
    | zero =>
      intro k gd rdx i_1 i_2 i_3 i_4 i_5
      exact absurd i_1 (by omega)
    | succ n ih =>
      intro k gd rdx i_1 i_2 i_3 i_4 i_5 hE H locs hP hD hS ls hl
      rw [FX9_readSo_l112] at hE
      refine lv_iload hx hb dX9_readSo_112 (lv_at hl 0 rfl) ?_
      refine lv_iload hx hb dX9_readSo_114 (lv_at hl 1 rfl) ?_
      refine lv_icmp_ge (tgt := 163) hx hb dX9_readSo_116 (by decide) (fun c_7 => ?_) (fun c_7 => ?_)
      · have c_7 : (((FX9_size rwd) - 6) / 4) ≤ k := (nI_leI (a := (((FX9_size rwd) - 6) / 4)) (b := k) (by omega) (by omega)).mp c_7
        rw [if_pos c_7] at hE
        refine lv_aload_n hx hb dX9_readSo_163 rfl (lv_at hl 4 rfl) ?_
        refine lv_iload_n hx hb dX9_readSo_164 rfl (lv_at hl 2 rfl) ?_
        refine lv_if_eq (tgt := 173) hx hb dX9_readSo_165 (by decide) (fun c_8 => ?_) (fun c_8 => ?_)
        · rw [if_pos c_8] at hE
          refine lv_iconst (v := 0) hx hb dX9_readSo_173 (by decide) ?_
          refine va_put (D := D) (ci := 9) (v := .int 0) (ty := .int) (C := RX9) (T := TX9) (N := 32) hx hb hts iw_9 tyX9 tyX9_ok nmX9 hown hK hP hD hS 0 rfl rfl 2 (by decide) (hts (.fieldLink RX9 105 "DepositCodesModel" "digitCount" "I") (by decide +kernel)) (fun _ h9 => h9) rfl (by decide +kernel) rfl rfl (Nat.le_of_ble_eq_true rfl) dX9_readSo_174 (fun H locs hP hD hS => ?_)
          have hP : va_P D vwCl [(w0, .inr (9, [.ref a1, .ref a2, .int 0, .int rfa, .int (nI rmn), .ref a3, .ref a4, .ref a5, .ref a6, .ref a7, .ref a8, .ref a9, .ref a10, .ref a11, .ref a12, .ref a13, .int (nI rpn), .int rre, .ref a14, .ref a15, .int (nI rrn), .ref a16, .int (nI rfn), .ref a17, .ref a18, .ref a19, .int (nI rkn), .ref a20, .ref a21, .int (nI rcn), .ref a22, .ref a23])), (a1, .inl (cI, 64, .inl rwd)), (a2, .inl (cI, 16, .inl rdx))] H := hP
          have hD : va_D A [(w0, .inr (9, [.ref a1, .ref a2, .int 0, .int rfa, .int (nI rmn), .ref a3, .ref a4, .ref a5, .ref a6, .ref a7, .ref a8, .ref a9, .ref a10, .ref a11, .ref a12, .ref a13, .int (nI rpn), .int rre, .ref a14, .ref a15, .int (nI rrn), .ref a16, .int (nI rfn), .ref a17, .ref a18, .ref a19, .int (nI rkn), .ref a20, .ref a21, .int (nI rcn), .ref a22, .ref a23])), (a1, .inl (cI, 64, .inl rwd)), (a2, .inl (cI, 16, .inl rdx))] := hD
          refine lv_iload_n hx hb dX9_readSo_177 rfl (lv_at hl 2 rfl) ?_
          subst hE
          exact W.zret hx hb hr (isB_nar i_3) (fun t ht hW => ⟨rfl, by rw [ht]; exact hP, hD, hS.F ht⟩) hS.2.2 dX9_readSo_178
        · rw [if_neg c_8] at hE
          refine lv_iload hx hb dX9_readSo_168 (lv_at hl 1 rfl) ?_
          refine lv_goto (tgt := 174) hx hb dX9_readSo_170 (by decide) ?_
          refine va_put (D := D) (ci := 9) (v := .int (nI (((FX9_size rwd) - 6) / 4))) (ty := .int) (C := RX9) (T := TX9) (N := 32) hx hb hts iw_9 tyX9 tyX9_ok nmX9 hown hK hP hD hS 0 rfl rfl 2 (by decide) (hts (.fieldLink RX9 105 "DepositCodesModel" "digitCount" "I") (by decide +kernel)) (fun _ h9 => h9) rfl (by decide +kernel) rfl rfl (Nat.le_of_ble_eq_true rfl) dX9_readSo_174 (fun H locs hP hD hS => ?_)
          have hP : va_P D vwCl [(w0, .inr (9, [.ref a1, .ref a2, .int (nI (((FX9_size rwd) - 6) / 4)), .int rfa, .int (nI rmn), .ref a3, .ref a4, .ref a5, .ref a6, .ref a7, .ref a8, .ref a9, .ref a10, .ref a11, .ref a12, .ref a13, .int (nI rpn), .int rre, .ref a14, .ref a15, .int (nI rrn), .ref a16, .int (nI rfn), .ref a17, .ref a18, .ref a19, .int (nI rkn), .ref a20, .ref a21, .int (nI rcn), .ref a22, .ref a23])), (a1, .inl (cI, 64, .inl rwd)), (a2, .inl (cI, 16, .inl rdx))] H := hP
          have hD : va_D A [(w0, .inr (9, [.ref a1, .ref a2, .int (nI (((FX9_size rwd) - 6) / 4)), .int rfa, .int (nI rmn), .ref a3, .ref a4, .ref a5, .ref a6, .ref a7, .ref a8, .ref a9, .ref a10, .ref a11, .ref a12, .ref a13, .int (nI rpn), .int rre, .ref a14, .ref a15, .int (nI rrn), .ref a16, .int (nI rfn), .ref a17, .ref a18, .ref a19, .int (nI rkn), .ref a20, .ref a21, .int (nI rcn), .ref a22, .ref a23])), (a1, .inl (cI, 64, .inl rwd)), (a2, .inl (cI, 16, .inl rdx))] := hD
          refine lv_iload_n hx hb dX9_readSo_177 rfl (lv_at hl 2 rfl) ?_
          subst hE
          exact W.zret hx hb hr (isB_nar i_3) (fun t ht hW => ⟨rfl, by rw [ht]; exact hP, hD, hS.F ht⟩) hS.2.2 dX9_readSo_178
      · have c_7 : ¬ (((FX9_size rwd) - 6) / 4) ≤ k := fun h9 => c_7 ((nI_leI (a := (((FX9_size rwd) - 6) / 4)) (b := k) (by omega) (by omega)).mpr h9)
        rw [if_neg c_7] at hE
        refine lv_iload_n hx hb dX9_readSo_119 rfl (lv_at hl 2 rfl) ?_
        refine lv_if_eq (tgt := 163) hx hb dX9_readSo_120 (by decide) (fun c_9 => ?_) (fun c_9 => ?_)
        · rw [if_pos c_9] at hE
          refine lv_aload_n hx hb dX9_readSo_163 rfl (lv_at hl 4 rfl) ?_
          refine lv_iload_n hx hb dX9_readSo_164 rfl (lv_at hl 2 rfl) ?_
          refine lv_if_eq (tgt := 173) hx hb dX9_readSo_165 (by decide) (fun c_10 => ?_) (fun c_10 => ?_)
          · rw [if_pos c_10] at hE
            refine lv_iconst (v := 0) hx hb dX9_readSo_173 (by decide) ?_
            refine va_put (D := D) (ci := 9) (v := .int 0) (ty := .int) (C := RX9) (T := TX9) (N := 32) hx hb hts iw_9 tyX9 tyX9_ok nmX9 hown hK hP hD hS 0 rfl rfl 2 (by decide) (hts (.fieldLink RX9 105 "DepositCodesModel" "digitCount" "I") (by decide +kernel)) (fun _ h9 => h9) rfl (by decide +kernel) rfl rfl (Nat.le_of_ble_eq_true rfl) dX9_readSo_174 (fun H locs hP hD hS => ?_)
            have hP : va_P D vwCl [(w0, .inr (9, [.ref a1, .ref a2, .int 0, .int rfa, .int (nI rmn), .ref a3, .ref a4, .ref a5, .ref a6, .ref a7, .ref a8, .ref a9, .ref a10, .ref a11, .ref a12, .ref a13, .int (nI rpn), .int rre, .ref a14, .ref a15, .int (nI rrn), .ref a16, .int (nI rfn), .ref a17, .ref a18, .ref a19, .int (nI rkn), .ref a20, .ref a21, .int (nI rcn), .ref a22, .ref a23])), (a1, .inl (cI, 64, .inl rwd)), (a2, .inl (cI, 16, .inl rdx))] H := hP
            have hD : va_D A [(w0, .inr (9, [.ref a1, .ref a2, .int 0, .int rfa, .int (nI rmn), .ref a3, .ref a4, .ref a5, .ref a6, .ref a7, .ref a8, .ref a9, .ref a10, .ref a11, .ref a12, .ref a13, .int (nI rpn), .int rre, .ref a14, .ref a15, .int (nI rrn), .ref a16, .int (nI rfn), .ref a17, .ref a18, .ref a19, .int (nI rkn), .ref a20, .ref a21, .int (nI rcn), .ref a22, .ref a23])), (a1, .inl (cI, 64, .inl rwd)), (a2, .inl (cI, 16, .inl rdx))] := hD
            refine lv_iload_n hx hb dX9_readSo_177 rfl (lv_at hl 2 rfl) ?_
            subst hE
            exact W.zret hx hb hr (isB_nar i_3) (fun t ht hW => ⟨rfl, by rw [ht]; exact hP, hD, hS.F ht⟩) hS.2.2 dX9_readSo_178
          · rw [if_neg c_10] at hE
            refine lv_iload hx hb dX9_readSo_168 (lv_at hl 1 rfl) ?_
            refine lv_goto (tgt := 174) hx hb dX9_readSo_170 (by decide) ?_
            refine va_put (D := D) (ci := 9) (v := .int (nI (((FX9_size rwd) - 6) / 4))) (ty := .int) (C := RX9) (T := TX9) (N := 32) hx hb hts iw_9 tyX9 tyX9_ok nmX9 hown hK hP hD hS 0 rfl rfl 2 (by decide) (hts (.fieldLink RX9 105 "DepositCodesModel" "digitCount" "I") (by decide +kernel)) (fun _ h9 => h9) rfl (by decide +kernel) rfl rfl (Nat.le_of_ble_eq_true rfl) dX9_readSo_174 (fun H locs hP hD hS => ?_)
            have hP : va_P D vwCl [(w0, .inr (9, [.ref a1, .ref a2, .int (nI (((FX9_size rwd) - 6) / 4)), .int rfa, .int (nI rmn), .ref a3, .ref a4, .ref a5, .ref a6, .ref a7, .ref a8, .ref a9, .ref a10, .ref a11, .ref a12, .ref a13, .int (nI rpn), .int rre, .ref a14, .ref a15, .int (nI rrn), .ref a16, .int (nI rfn), .ref a17, .ref a18, .ref a19, .int (nI rkn), .ref a20, .ref a21, .int (nI rcn), .ref a22, .ref a23])), (a1, .inl (cI, 64, .inl rwd)), (a2, .inl (cI, 16, .inl rdx))] H := hP
            have hD : va_D A [(w0, .inr (9, [.ref a1, .ref a2, .int (nI (((FX9_size rwd) - 6) / 4)), .int rfa, .int (nI rmn), .ref a3, .ref a4, .ref a5, .ref a6, .ref a7, .ref a8, .ref a9, .ref a10, .ref a11, .ref a12, .ref a13, .int (nI rpn), .int rre, .ref a14, .ref a15, .int (nI rrn), .ref a16, .int (nI rfn), .ref a17, .ref a18, .ref a19, .int (nI rkn), .ref a20, .ref a21, .int (nI rcn), .ref a22, .ref a23])), (a1, .inl (cI, 64, .inl rwd)), (a2, .inl (cI, 16, .inl rdx))] := hD
            refine lv_iload_n hx hb dX9_readSo_177 rfl (lv_at hl 2 rfl) ?_
            subst hE
            exact W.zret hx hb hr (isB_nar i_3) (fun t ht hW => ⟨rfl, by rw [ht]; exact hP, hD, hS.F ht⟩) hS.2.2 dX9_readSo_178
        · rw [if_neg c_9] at hE
          refine lv_aload_n hx hb dX9_readSo_123 rfl (lv_at hl 4 rfl) ?_
          refine va_get (D := D) (ci := 9) (v := .ref a2) (C := RX9) (T := TX9) (N := 32) hx hb hts iw_9 hown hK hP 0 rfl rfl 1 (by decide) (hts (.fieldLink RX9 13 "DepositCodesModel" "digits" "[I") (by decide +kernel)) (fun _ h9 => h9) rfl dX9_readSo_124 ?_
          refine lv_iload hx hb dX9_readSo_127 (lv_at hl 0 rfl) ?_
          refine lv_aload_n hx hb dX9_readSo_129 rfl (lv_at hl 4 rfl) ?_
          refine lv_iconst (v := 3) hx hb dX9_readSo_130 (by decide) ?_
          refine lv_iconst (v := 4) hx hb dX9_readSo_131 (by decide) ?_
          refine lv_iload hx hb dX9_readSo_132 (lv_at hl 0 rfl) ?_
          refine lv_imul hx hb dX9_readSo_134 ?_
          refine na_top (show 4 * (nI k) = nI (4 * k) from pk_mul 4 k) ?_
          refine lv_iadd hx hb dX9_readSo_135 ?_
          refine na_top (show 3 + (nI (4 * k)) = nI (3 + (4 * k)) from nI_add 3 (4 * k)) ?_
          refine lv_iload_n hx hb dX9_readSo_136 rfl (lv_at hl 5 rfl) ?_
          refine rd_call (va_runV (As := [.int (nI (3 + (4 * k))), .int tu]) (rest := [.int (nI k), .ref a2]) ⟨hx, hb, hml, hown, hts⟩ (kX9_digitAt l D cI cJ cZ w0 a1 a2 a3 a4 a5 a6 a7 a8 a9 a10 a11 a12 a13 a14 a15 a16 a17 a18 a19 a20 a21 a22 a23 0 rfa rmn rpn rre rrn rfn rkn rcn rwd (3 + (4 * k)) tu (by first | assumption | omega)) (cwV 2 hts gX9_readSo_X9_digitAt rfl rfl rfl (by decide +kernel) ⟨Nat.le_of_ble_eq_true rfl, Nat.le_of_ble_eq_true rfl⟩) ⟨rP_blind, va_recv hK hP (ci := 9) (q0 := 0) rfl rfl, rP_pre (hP.sub [0, 1] rfl) hK hN⟩ rfl rfl hl.1 rfl (lv_room (Nat.le_of_ble_eq_true rfl)) dX9_readSo_137 ⟨Nat.zero_le _, Nat.zero_le _⟩) ?_
          refine na_iast hx hb hK hP hD hS 2 0 rfl rfl (by omega) (by decide) dX9_readSo_140 (fun H locs hP hD hS => ?_)
          have hP : va_P D vwCl [(w0, .inr (9, [.ref a1, .ref a2, .int 0, .int rfa, .int (nI rmn), .ref a3, .ref a4, .ref a5, .ref a6, .ref a7, .ref a8, .ref a9, .ref a10, .ref a11, .ref a12, .ref a13, .int (nI rpn), .int rre, .ref a14, .ref a15, .int (nI rrn), .ref a16, .int (nI rfn), .ref a17, .ref a18, .ref a19, .int (nI rkn), .ref a20, .ref a21, .int (nI rcn), .ref a22, .ref a23])), (a1, .inl (cI, 64, .inl rwd)), (a2, .inl (cI, 16, .inl (upd rdx k (FX9_digitAt rwd (3 + (4 * k)) tu))))] H := hP
          have hD : va_D A [(w0, .inr (9, [.ref a1, .ref a2, .int 0, .int rfa, .int (nI rmn), .ref a3, .ref a4, .ref a5, .ref a6, .ref a7, .ref a8, .ref a9, .ref a10, .ref a11, .ref a12, .ref a13, .int (nI rpn), .int rre, .ref a14, .ref a15, .int (nI rrn), .ref a16, .int (nI rfn), .ref a17, .ref a18, .ref a19, .int (nI rkn), .ref a20, .ref a21, .int (nI rcn), .ref a22, .ref a23])), (a1, .inl (cI, 64, .inl rwd)), (a2, .inl (cI, 16, .inl (upd rdx k (FX9_digitAt rwd (3 + (4 * k)) tu))))] := hD
          refine lv_aload_n hx hb dX9_readSo_141 rfl (lv_at hl 4 rfl) ?_
          refine va_get (D := D) (ci := 9) (v := .ref a2) (C := RX9) (T := TX9) (N := 32) hx hb hts iw_9 hown hK hP 0 rfl rfl 1 (by decide) (hts (.fieldLink RX9 13 "DepositCodesModel" "digits" "[I") (by decide +kernel)) (fun _ h9 => h9) rfl dX9_readSo_142 ?_
          refine lv_iload hx hb dX9_readSo_145 (lv_at hl 0 rfl) ?_
          refine na_iald hx hb hK hP 2 0 rfl rfl (by omega) (by decide) dX9_readSo_147 ?_
          refine lv_if_lt (tgt := 155) hx hb dX9_readSo_148 (by decide) (fun c_11 => ?_) (fun c_11 => ?_)
          · rw [if_pos c_11] at hE
            refine lv_iconst (v := 0) hx hb dX9_readSo_155 (by decide) ?_
            refine lv_istore_n (lv' := [(3, .int 0), (5, .int (nI k)), (4, .int (nI (((FX9_size rwd) - 6) / 4))), (2, .int (nI (FX9_size rwd))), (0, .ref w0), (1, .int tu)]) hx hb dX9_readSo_156 rfl hl (by decide) rfl (fun ls hl => ?_)
            refine lv_iinc (v := nI (k + 1)) (lv' := [(5, .int (nI (k + 1))), (3, .int 0), (4, .int (nI (((FX9_size rwd) - 6) / 4))), (2, .int (nI (FX9_size rwd))), (0, .ref w0), (1, .int tu)]) hx hb dX9_readSo_157 hl (k := 1) rfl (nI_1 k) (by decide) rfl (fun ls hl => ?_)
            refine lv_goto (tgt := 112) hx hb dX9_readSo_160 (by decide) ?_
            exact ih (k + 1) 0 (upd rdx k (FX9_digitAt rwd (3 + (4 * k)) tu)) (by omega) (by omega) (by first | exact isB_0 | exact isB_1) i_4 (by omega) hE _ _ hP hD hS ls (lv_sub hl [0, 2, 1, 3, 4, 5] rfl)
          · rw [if_neg c_11] at hE
            refine lv_iconst (v := 1) hx hb dX9_readSo_151 (by decide) ?_
            refine lv_goto (tgt := 156) hx hb dX9_readSo_152 (by decide) ?_
            refine lv_istore_n (lv' := [(3, .int 1), (5, .int (nI k)), (4, .int (nI (((FX9_size rwd) - 6) / 4))), (2, .int (nI (FX9_size rwd))), (0, .ref w0), (1, .int tu)]) hx hb dX9_readSo_156 rfl hl (by decide) rfl (fun ls hl => ?_)
            refine lv_iinc (v := nI (k + 1)) (lv' := [(5, .int (nI (k + 1))), (3, .int 1), (4, .int (nI (((FX9_size rwd) - 6) / 4))), (2, .int (nI (FX9_size rwd))), (0, .ref w0), (1, .int tu)]) hx hb dX9_readSo_157 hl (k := 1) rfl (nI_1 k) (by decide) rfl (fun ls hl => ?_)
            refine lv_goto (tgt := 112) hx hb dX9_readSo_160 (by decide) ?_
            exact ih (k + 1) 1 (upd rdx k (FX9_digitAt rwd (3 + (4 * k)) tu)) (by omega) (by omega) (by first | exact isB_0 | exact isB_1) i_4 (by omega) hE _ _ hP hD hS ls (lv_sub hl [0, 2, 1, 3, 4, 5] rfl)
  refine lv_aload_n hx hb dX9_readSo_0 rfl (lv_at hl 0 rfl) ?_
  refine rd_call (va_runV (As := []) (rest := []) ⟨hx, hb, hml, hown, hts⟩ (kX9_size l D cI cJ cZ w0 a1 a2 a3 a4 a5 a6 a7 a8 a9 a10 a11 a12 a13 a14 a15 a16 a17 a18 a19 a20 a21 a22 a23 rdn rfa rmn rpn rre rrn rfn rkn rcn rwd) (cwV 0 hts gX9_readSo_X9_size rfl rfl rfl (by decide +kernel) ⟨Nat.le_of_ble_eq_true rfl, Nat.le_of_ble_eq_true rfl⟩) ⟨rP_blind, va_recv hK hP (ci := 9) (q0 := 0) rfl rfl, rP_pre (hP.sub [0, 1] rfl) hK hN⟩ rfl rfl hl.1 rfl (lv_room (Nat.le_of_ble_eq_true rfl)) dX9_readSo_1 ⟨Nat.zero_le _, Nat.zero_le _⟩) ?_
  refine lv_istore_n (lv' := [(2, .int (nI (FX9_size rwd))), (0, .ref w0), (1, .int tu)]) hx hb dX9_readSo_4 rfl hl (by decide) rfl (fun ls hl => ?_)
  refine lv_aload_n hx hb dX9_readSo_5 rfl (lv_at hl 1 rfl) ?_
  refine lv_iconst (v := 0) hx hb dX9_readSo_6 (by decide) ?_
  refine va_put (D := D) (ci := 9) (v := .int 0) (ty := .int) (C := RX9) (T := TX9) (N := 32) hx hb hts iw_9 tyX9 tyX9_ok nmX9 hown hK hP hD hS 0 rfl rfl 2 (by decide) (hts (.fieldLink RX9 105 "DepositCodesModel" "digitCount" "I") (by decide +kernel)) (fun _ h9 => h9) rfl (by decide +kernel) rfl rfl (Nat.le_of_ble_eq_true rfl) dX9_readSo_7 (fun H locs hP hD hS => ?_)
  have hP : va_P D vwCl [(w0, .inr (9, [.ref a1, .ref a2, .int 0, .int rfa, .int (nI rmn), .ref a3, .ref a4, .ref a5, .ref a6, .ref a7, .ref a8, .ref a9, .ref a10, .ref a11, .ref a12, .ref a13, .int (nI rpn), .int rre, .ref a14, .ref a15, .int (nI rrn), .ref a16, .int (nI rfn), .ref a17, .ref a18, .ref a19, .int (nI rkn), .ref a20, .ref a21, .int (nI rcn), .ref a22, .ref a23])), (a1, .inl (cI, 64, .inl rwd)), (a2, .inl (cI, 16, .inl rd))] H := hP
  have hD : va_D A [(w0, .inr (9, [.ref a1, .ref a2, .int 0, .int rfa, .int (nI rmn), .ref a3, .ref a4, .ref a5, .ref a6, .ref a7, .ref a8, .ref a9, .ref a10, .ref a11, .ref a12, .ref a13, .int (nI rpn), .int rre, .ref a14, .ref a15, .int (nI rrn), .ref a16, .int (nI rfn), .ref a17, .ref a18, .ref a19, .int (nI rkn), .ref a20, .ref a21, .int (nI rcn), .ref a22, .ref a23])), (a1, .inl (cI, 64, .inl rwd)), (a2, .inl (cI, 16, .inl rd))] := hD
  refine lv_iload_n hx hb dX9_readSo_10 rfl (lv_at hl 0 rfl) ?_
  refine lv_bipush (v := 10) hx hb dX9_readSo_11 (by decide) ?_
  refine lv_icmp_lt (tgt := 25) hx hb dX9_readSo_13 (by decide) (fun c_1 => ?_) (fun c_1 => ?_)
  · have c_1 : (FX9_size rwd) < 10 := (nI_ltI (a := (FX9_size rwd)) (b := 10) (by omega) (by omega)).mp c_1
    rw [if_pos c_1] at hE
    refine lv_iconst (v := 0) hx hb dX9_readSo_25 (by decide) ?_
    subst hE
    exact W.zret hx hb hr narrow_b0 (fun t ht hW => ⟨rfl, by rw [ht]; exact hP, hD, hS.F ht⟩) hS.2.2 dX9_readSo_26
  · have c_1 : ¬ (FX9_size rwd) < 10 := fun h9 => c_1 ((nI_ltI (a := (FX9_size rwd)) (b := 10) (by omega) (by omega)).mpr h9)
    rw [if_neg c_1] at hE
    refine lv_iload_n hx hb dX9_readSo_16 rfl (lv_at hl 0 rfl) ?_
    refine lv_bipush (v := 6) hx hb dX9_readSo_17 (by decide) ?_
    refine lv_isub hx hb dX9_readSo_19 ?_
    refine na_top (show (nI (FX9_size rwd)) - 6 = nI ((FX9_size rwd) - 6) from pk_sub (a := (FX9_size rwd)) (b := 6) (by omega)) ?_
    refine lv_iconst (v := 4) hx hb dX9_readSo_20 (by decide) ?_
    refine lv_irem hx hb dX9_readSo_21 (by decide) ?_
    refine na_top (show (nI ((FX9_size rwd) - 6)) - (nI ((FX9_size rwd) - 6)) / 4 * 4 = nI (((FX9_size rwd) - 6) % 4) from pk_rem (a := ((FX9_size rwd) - 6)) (d := 4) (by omega) (by decide) (by decide)) ?_
    refine lv_if_eq (tgt := 27) hx hb dX9_readSo_22 (by decide) (fun c_2 => ?_) (fun c_2 => ?_)
    · have c_2 : (((FX9_size rwd) - 6) % 4) = 0 := (nI_eq (a := (((FX9_size rwd) - 6) % 4)) (b := 0) (by omega) (by omega)).mp c_2
      rw [if_pos c_2] at hE
      refine lv_aload_n hx hb dX9_readSo_27 rfl (lv_at hl 1 rfl) ?_
      refine lv_iconst (v := 0) hx hb dX9_readSo_28 (by decide) ?_
      refine lv_iload_n hx hb dX9_readSo_29 rfl (lv_at hl 2 rfl) ?_
      refine rd_call (va_runV (As := [.int 0, .int tu]) (rest := []) ⟨hx, hb, hml, hown, hts⟩ (kX9_at l D cI cJ cZ w0 a1 a2 a3 a4 a5 a6 a7 a8 a9 a10 a11 a12 a13 a14 a15 a16 a17 a18 a19 a20 a21 a22 a23 0 rfa rmn rpn rre rrn rfn rkn rcn rwd 0 tu (by first | assumption | omega)) (cwV 2 hts gX9_readSo_X9_at rfl rfl rfl (by decide +kernel) ⟨Nat.le_of_ble_eq_true rfl, Nat.le_of_ble_eq_true rfl⟩) ⟨rP_blind, va_recv hK hP (ci := 9) (q0 := 0) rfl rfl, rP_pre (hP.sub [0, 1] rfl) hK hN⟩ rfl rfl hl.1 rfl (lv_room (Nat.le_of_ble_eq_true rfl)) dX9_readSo_30 ⟨Nat.zero_le _, Nat.zero_le _⟩) ?_
      refine lv_aload_n hx hb dX9_readSo_33 rfl (lv_at hl 1 rfl) ?_
      refine lv_iconst (v := 1) hx hb dX9_readSo_34 (by decide) ?_
      refine lv_iload_n hx hb dX9_readSo_35 rfl (lv_at hl 2 rfl) ?_
      refine rd_call (va_runV (As := [.int 1, .int tu]) (rest := [.int (FX9_at rwd 0 tu)]) ⟨hx, hb, hml, hown, hts⟩ (kX9_at l D cI cJ cZ w0 a1 a2 a3 a4 a5 a6 a7 a8 a9 a10 a11 a12 a13 a14 a15 a16 a17 a18 a19 a20 a21 a22 a23 0 rfa rmn rpn rre rrn rfn rkn rcn rwd 1 tu (by first | assumption | omega)) (cwV 2 hts gX9_readSo_X9_at rfl rfl rfl (by decide +kernel) ⟨Nat.le_of_ble_eq_true rfl, Nat.le_of_ble_eq_true rfl⟩) ⟨rP_blind, va_recv hK hP (ci := 9) (q0 := 0) rfl rfl, rP_pre (hP.sub [0, 1] rfl) hK hN⟩ rfl rfl hl.1 rfl (lv_room (Nat.le_of_ble_eq_true rfl)) dX9_readSo_36 ⟨Nat.zero_le _, Nat.zero_le _⟩) ?_
      refine lv_icmp_ne (tgt := 99) hx hb dX9_readSo_39 (by decide) (fun c_3 => ?_) (fun c_3 => ?_)
      · rw [if_neg c_3] at hE
        refine lv_iconst (v := 0) hx hb dX9_readSo_99 (by decide) ?_
        refine lv_istore_n (lv' := [(3, .int 0), (2, .int (nI (FX9_size rwd))), (0, .ref w0), (1, .int tu)]) hx hb dX9_readSo_100 rfl hl (by decide) rfl (fun ls hl => ?_)
        refine lv_iload_n hx hb dX9_readSo_101 rfl (lv_at hl 1 rfl) ?_
        refine lv_bipush (v := 6) hx hb dX9_readSo_102 (by decide) ?_
        refine lv_isub hx hb dX9_readSo_104 ?_
        refine na_top (show (nI (FX9_size rwd)) - 6 = nI ((FX9_size rwd) - 6) from pk_sub (a := (FX9_size rwd)) (b := 6) (by omega)) ?_
        refine lv_iconst (v := 4) hx hb dX9_readSo_105 (by decide) ?_
        refine lv_idiv hx hb dX9_readSo_106 (by decide) ?_
        refine na_top (show (nI ((FX9_size rwd) - 6)) / 4 = nI (((FX9_size rwd) - 6) / 4) from pk_div (a := ((FX9_size rwd) - 6)) (d := 4) (by omega) (by decide) (by decide)) ?_
        refine lv_istore (lv' := [(4, .int (nI (((FX9_size rwd) - 6) / 4))), (3, .int 0), (2, .int (nI (FX9_size rwd))), (0, .ref w0), (1, .int tu)]) hx hb dX9_readSo_107 hl (by decide) rfl (fun ls hl => ?_)
        refine lv_iconst (v := 0) hx hb dX9_readSo_109 (by decide) ?_
        refine lv_istore (lv' := [(5, .int 0), (4, .int (nI (((FX9_size rwd) - 6) / 4))), (3, .int 0), (2, .int (nI (FX9_size rwd))), (0, .ref w0), (1, .int tu)]) hx hb dX9_readSo_110 hl (by decide) rfl (fun ls hl => ?_)
        exact loop_112 20 0 0 rd (by omega) (by omega) (by first | exact isB_0 | exact isB_1) (by omega) (by omega) hE _ _ hP hD hS ls (lv_sub hl [0, 1, 2, 3, 4, 5] rfl)
      · rw [if_pos c_3] at hE
        refine lv_aload_n hx hb dX9_readSo_42 rfl (lv_at hl 1 rfl) ?_
        refine lv_iconst (v := 1) hx hb dX9_readSo_43 (by decide) ?_
        refine lv_iload_n hx hb dX9_readSo_44 rfl (lv_at hl 2 rfl) ?_
        refine rd_call (va_runV (As := [.int 1, .int tu]) (rest := []) ⟨hx, hb, hml, hown, hts⟩ (kX9_at l D cI cJ cZ w0 a1 a2 a3 a4 a5 a6 a7 a8 a9 a10 a11 a12 a13 a14 a15 a16 a17 a18 a19 a20 a21 a22 a23 0 rfa rmn rpn rre rrn rfn rkn rcn rwd 1 tu (by first | assumption | omega)) (cwV 2 hts gX9_readSo_X9_at rfl rfl rfl (by decide +kernel) ⟨Nat.le_of_ble_eq_true rfl, Nat.le_of_ble_eq_true rfl⟩) ⟨rP_blind, va_recv hK hP (ci := 9) (q0 := 0) rfl rfl, rP_pre (hP.sub [0, 1] rfl) hK hN⟩ rfl rfl hl.1 rfl (lv_room (Nat.le_of_ble_eq_true rfl)) dX9_readSo_45 ⟨Nat.zero_le _, Nat.zero_le _⟩) ?_
        refine lv_aload_n hx hb dX9_readSo_48 rfl (lv_at hl 1 rfl) ?_
        refine lv_iconst (v := 2) hx hb dX9_readSo_49 (by decide) ?_
        refine lv_iload_n hx hb dX9_readSo_50 rfl (lv_at hl 2 rfl) ?_
        refine rd_call (va_runV (As := [.int 2, .int tu]) (rest := [.int (FX9_at rwd 1 tu)]) ⟨hx, hb, hml, hown, hts⟩ (kX9_at l D cI cJ cZ w0 a1 a2 a3 a4 a5 a6 a7 a8 a9 a10 a11 a12 a13 a14 a15 a16 a17 a18 a19 a20 a21 a22 a23 0 rfa rmn rpn rre rrn rfn rkn rcn rwd 2 tu (by first | assumption | omega)) (cwV 2 hts gX9_readSo_X9_at rfl rfl rfl (by decide +kernel) ⟨Nat.le_of_ble_eq_true rfl, Nat.le_of_ble_eq_true rfl⟩) ⟨rP_blind, va_recv hK hP (ci := 9) (q0 := 0) rfl rfl, rP_pre (hP.sub [0, 1] rfl) hK hN⟩ rfl rfl hl.1 rfl (lv_room (Nat.le_of_ble_eq_true rfl)) dX9_readSo_51 ⟨Nat.zero_le _, Nat.zero_le _⟩) ?_
        refine lv_icmp_ne (tgt := 99) hx hb dX9_readSo_54 (by decide) (fun c_4 => ?_) (fun c_4 => ?_)
        · rw [if_neg c_4] at hE
          refine lv_iconst (v := 0) hx hb dX9_readSo_99 (by decide) ?_
          refine lv_istore_n (lv' := [(3, .int 0), (2, .int (nI (FX9_size rwd))), (0, .ref w0), (1, .int tu)]) hx hb dX9_readSo_100 rfl hl (by decide) rfl (fun ls hl => ?_)
          refine lv_iload_n hx hb dX9_readSo_101 rfl (lv_at hl 1 rfl) ?_
          refine lv_bipush (v := 6) hx hb dX9_readSo_102 (by decide) ?_
          refine lv_isub hx hb dX9_readSo_104 ?_
          refine na_top (show (nI (FX9_size rwd)) - 6 = nI ((FX9_size rwd) - 6) from pk_sub (a := (FX9_size rwd)) (b := 6) (by omega)) ?_
          refine lv_iconst (v := 4) hx hb dX9_readSo_105 (by decide) ?_
          refine lv_idiv hx hb dX9_readSo_106 (by decide) ?_
          refine na_top (show (nI ((FX9_size rwd) - 6)) / 4 = nI (((FX9_size rwd) - 6) / 4) from pk_div (a := ((FX9_size rwd) - 6)) (d := 4) (by omega) (by decide) (by decide)) ?_
          refine lv_istore (lv' := [(4, .int (nI (((FX9_size rwd) - 6) / 4))), (3, .int 0), (2, .int (nI (FX9_size rwd))), (0, .ref w0), (1, .int tu)]) hx hb dX9_readSo_107 hl (by decide) rfl (fun ls hl => ?_)
          refine lv_iconst (v := 0) hx hb dX9_readSo_109 (by decide) ?_
          refine lv_istore (lv' := [(5, .int 0), (4, .int (nI (((FX9_size rwd) - 6) / 4))), (3, .int 0), (2, .int (nI (FX9_size rwd))), (0, .ref w0), (1, .int tu)]) hx hb dX9_readSo_110 hl (by decide) rfl (fun ls hl => ?_)
          exact loop_112 20 0 0 rd (by omega) (by omega) (by first | exact isB_0 | exact isB_1) (by omega) (by omega) hE _ _ hP hD hS ls (lv_sub hl [0, 1, 2, 3, 4, 5] rfl)
        · rw [if_pos c_4] at hE
          refine lv_aload_n hx hb dX9_readSo_57 rfl (lv_at hl 1 rfl) ?_
          refine lv_iload_n hx hb dX9_readSo_58 rfl (lv_at hl 0 rfl) ?_
          refine lv_iconst (v := 1) hx hb dX9_readSo_59 (by decide) ?_
          refine lv_isub hx hb dX9_readSo_60 ?_
          refine na_top (show (nI (FX9_size rwd)) - 1 = nI ((FX9_size rwd) - 1) from pk_sub (a := (FX9_size rwd)) (b := 1) (by omega)) ?_
          refine lv_iload_n hx hb dX9_readSo_61 rfl (lv_at hl 2 rfl) ?_
          refine rd_call (va_runV (As := [.int (nI ((FX9_size rwd) - 1)), .int tu]) (rest := []) ⟨hx, hb, hml, hown, hts⟩ (kX9_at l D cI cJ cZ w0 a1 a2 a3 a4 a5 a6 a7 a8 a9 a10 a11 a12 a13 a14 a15 a16 a17 a18 a19 a20 a21 a22 a23 0 rfa rmn rpn rre rrn rfn rkn rcn rwd ((FX9_size rwd) - 1) tu (by first | assumption | omega)) (cwV 2 hts gX9_readSo_X9_at rfl rfl rfl (by decide +kernel) ⟨Nat.le_of_ble_eq_true rfl, Nat.le_of_ble_eq_true rfl⟩) ⟨rP_blind, va_recv hK hP (ci := 9) (q0 := 0) rfl rfl, rP_pre (hP.sub [0, 1] rfl) hK hN⟩ rfl rfl hl.1 rfl (lv_room (Nat.le_of_ble_eq_true rfl)) dX9_readSo_62 ⟨Nat.zero_le _, Nat.zero_le _⟩) ?_
          refine lv_aload_n hx hb dX9_readSo_65 rfl (lv_at hl 1 rfl) ?_
          refine lv_iload_n hx hb dX9_readSo_66 rfl (lv_at hl 0 rfl) ?_
          refine lv_iconst (v := 2) hx hb dX9_readSo_67 (by decide) ?_
          refine lv_isub hx hb dX9_readSo_68 ?_
          refine na_top (show (nI (FX9_size rwd)) - 2 = nI ((FX9_size rwd) - 2) from pk_sub (a := (FX9_size rwd)) (b := 2) (by omega)) ?_
          refine lv_iload_n hx hb dX9_readSo_69 rfl (lv_at hl 2 rfl) ?_
          refine rd_call (va_runV (As := [.int (nI ((FX9_size rwd) - 2)), .int tu]) (rest := [.int (FX9_at rwd ((FX9_size rwd) - 1) tu)]) ⟨hx, hb, hml, hown, hts⟩ (kX9_at l D cI cJ cZ w0 a1 a2 a3 a4 a5 a6 a7 a8 a9 a10 a11 a12 a13 a14 a15 a16 a17 a18 a19 a20 a21 a22 a23 0 rfa rmn rpn rre rrn rfn rkn rcn rwd ((FX9_size rwd) - 2) tu (by first | assumption | omega)) (cwV 2 hts gX9_readSo_X9_at rfl rfl rfl (by decide +kernel) ⟨Nat.le_of_ble_eq_true rfl, Nat.le_of_ble_eq_true rfl⟩) ⟨rP_blind, va_recv hK hP (ci := 9) (q0 := 0) rfl rfl, rP_pre (hP.sub [0, 1] rfl) hK hN⟩ rfl rfl hl.1 rfl (lv_room (Nat.le_of_ble_eq_true rfl)) dX9_readSo_70 ⟨Nat.zero_le _, Nat.zero_le _⟩) ?_
          refine lv_icmp_ne (tgt := 99) hx hb dX9_readSo_73 (by decide) (fun c_5 => ?_) (fun c_5 => ?_)
          · rw [if_neg c_5] at hE
            refine lv_iconst (v := 0) hx hb dX9_readSo_99 (by decide) ?_
            refine lv_istore_n (lv' := [(3, .int 0), (2, .int (nI (FX9_size rwd))), (0, .ref w0), (1, .int tu)]) hx hb dX9_readSo_100 rfl hl (by decide) rfl (fun ls hl => ?_)
            refine lv_iload_n hx hb dX9_readSo_101 rfl (lv_at hl 1 rfl) ?_
            refine lv_bipush (v := 6) hx hb dX9_readSo_102 (by decide) ?_
            refine lv_isub hx hb dX9_readSo_104 ?_
            refine na_top (show (nI (FX9_size rwd)) - 6 = nI ((FX9_size rwd) - 6) from pk_sub (a := (FX9_size rwd)) (b := 6) (by omega)) ?_
            refine lv_iconst (v := 4) hx hb dX9_readSo_105 (by decide) ?_
            refine lv_idiv hx hb dX9_readSo_106 (by decide) ?_
            refine na_top (show (nI ((FX9_size rwd) - 6)) / 4 = nI (((FX9_size rwd) - 6) / 4) from pk_div (a := ((FX9_size rwd) - 6)) (d := 4) (by omega) (by decide) (by decide)) ?_
            refine lv_istore (lv' := [(4, .int (nI (((FX9_size rwd) - 6) / 4))), (3, .int 0), (2, .int (nI (FX9_size rwd))), (0, .ref w0), (1, .int tu)]) hx hb dX9_readSo_107 hl (by decide) rfl (fun ls hl => ?_)
            refine lv_iconst (v := 0) hx hb dX9_readSo_109 (by decide) ?_
            refine lv_istore (lv' := [(5, .int 0), (4, .int (nI (((FX9_size rwd) - 6) / 4))), (3, .int 0), (2, .int (nI (FX9_size rwd))), (0, .ref w0), (1, .int tu)]) hx hb dX9_readSo_110 hl (by decide) rfl (fun ls hl => ?_)
            exact loop_112 20 0 0 rd (by omega) (by omega) (by first | exact isB_0 | exact isB_1) (by omega) (by omega) hE _ _ hP hD hS ls (lv_sub hl [0, 1, 2, 3, 4, 5] rfl)
          · rw [if_pos c_5] at hE
            refine lv_aload_n hx hb dX9_readSo_76 rfl (lv_at hl 1 rfl) ?_
            refine lv_iload_n hx hb dX9_readSo_77 rfl (lv_at hl 0 rfl) ?_
            refine lv_iconst (v := 2) hx hb dX9_readSo_78 (by decide) ?_
            refine lv_isub hx hb dX9_readSo_79 ?_
            refine na_top (show (nI (FX9_size rwd)) - 2 = nI ((FX9_size rwd) - 2) from pk_sub (a := (FX9_size rwd)) (b := 2) (by omega)) ?_
            refine lv_iload_n hx hb dX9_readSo_80 rfl (lv_at hl 2 rfl) ?_
            refine rd_call (va_runV (As := [.int (nI ((FX9_size rwd) - 2)), .int tu]) (rest := []) ⟨hx, hb, hml, hown, hts⟩ (kX9_at l D cI cJ cZ w0 a1 a2 a3 a4 a5 a6 a7 a8 a9 a10 a11 a12 a13 a14 a15 a16 a17 a18 a19 a20 a21 a22 a23 0 rfa rmn rpn rre rrn rfn rkn rcn rwd ((FX9_size rwd) - 2) tu (by first | assumption | omega)) (cwV 2 hts gX9_readSo_X9_at rfl rfl rfl (by decide +kernel) ⟨Nat.le_of_ble_eq_true rfl, Nat.le_of_ble_eq_true rfl⟩) ⟨rP_blind, va_recv hK hP (ci := 9) (q0 := 0) rfl rfl, rP_pre (hP.sub [0, 1] rfl) hK hN⟩ rfl rfl hl.1 rfl (lv_room (Nat.le_of_ble_eq_true rfl)) dX9_readSo_81 ⟨Nat.zero_le _, Nat.zero_le _⟩) ?_
            refine lv_aload_n hx hb dX9_readSo_84 rfl (lv_at hl 1 rfl) ?_
            refine lv_iload_n hx hb dX9_readSo_85 rfl (lv_at hl 0 rfl) ?_
            refine lv_iconst (v := 3) hx hb dX9_readSo_86 (by decide) ?_
            refine lv_isub hx hb dX9_readSo_87 ?_
            refine na_top (show (nI (FX9_size rwd)) - 3 = nI ((FX9_size rwd) - 3) from pk_sub (a := (FX9_size rwd)) (b := 3) (by omega)) ?_
            refine lv_iload_n hx hb dX9_readSo_88 rfl (lv_at hl 2 rfl) ?_
            refine rd_call (va_runV (As := [.int (nI ((FX9_size rwd) - 3)), .int tu]) (rest := [.int (FX9_at rwd ((FX9_size rwd) - 2) tu)]) ⟨hx, hb, hml, hown, hts⟩ (kX9_at l D cI cJ cZ w0 a1 a2 a3 a4 a5 a6 a7 a8 a9 a10 a11 a12 a13 a14 a15 a16 a17 a18 a19 a20 a21 a22 a23 0 rfa rmn rpn rre rrn rfn rkn rcn rwd ((FX9_size rwd) - 3) tu (by first | assumption | omega)) (cwV 2 hts gX9_readSo_X9_at rfl rfl rfl (by decide +kernel) ⟨Nat.le_of_ble_eq_true rfl, Nat.le_of_ble_eq_true rfl⟩) ⟨rP_blind, va_recv hK hP (ci := 9) (q0 := 0) rfl rfl, rP_pre (hP.sub [0, 1] rfl) hK hN⟩ rfl rfl hl.1 rfl (lv_room (Nat.le_of_ble_eq_true rfl)) dX9_readSo_89 ⟨Nat.zero_le _, Nat.zero_le _⟩) ?_
            refine lv_icmp_ne (tgt := 99) hx hb dX9_readSo_92 (by decide) (fun c_6 => ?_) (fun c_6 => ?_)
            · rw [if_neg c_6] at hE
              refine lv_iconst (v := 0) hx hb dX9_readSo_99 (by decide) ?_
              refine lv_istore_n (lv' := [(3, .int 0), (2, .int (nI (FX9_size rwd))), (0, .ref w0), (1, .int tu)]) hx hb dX9_readSo_100 rfl hl (by decide) rfl (fun ls hl => ?_)
              refine lv_iload_n hx hb dX9_readSo_101 rfl (lv_at hl 1 rfl) ?_
              refine lv_bipush (v := 6) hx hb dX9_readSo_102 (by decide) ?_
              refine lv_isub hx hb dX9_readSo_104 ?_
              refine na_top (show (nI (FX9_size rwd)) - 6 = nI ((FX9_size rwd) - 6) from pk_sub (a := (FX9_size rwd)) (b := 6) (by omega)) ?_
              refine lv_iconst (v := 4) hx hb dX9_readSo_105 (by decide) ?_
              refine lv_idiv hx hb dX9_readSo_106 (by decide) ?_
              refine na_top (show (nI ((FX9_size rwd) - 6)) / 4 = nI (((FX9_size rwd) - 6) / 4) from pk_div (a := ((FX9_size rwd) - 6)) (d := 4) (by omega) (by decide) (by decide)) ?_
              refine lv_istore (lv' := [(4, .int (nI (((FX9_size rwd) - 6) / 4))), (3, .int 0), (2, .int (nI (FX9_size rwd))), (0, .ref w0), (1, .int tu)]) hx hb dX9_readSo_107 hl (by decide) rfl (fun ls hl => ?_)
              refine lv_iconst (v := 0) hx hb dX9_readSo_109 (by decide) ?_
              refine lv_istore (lv' := [(5, .int 0), (4, .int (nI (((FX9_size rwd) - 6) / 4))), (3, .int 0), (2, .int (nI (FX9_size rwd))), (0, .ref w0), (1, .int tu)]) hx hb dX9_readSo_110 hl (by decide) rfl (fun ls hl => ?_)
              exact loop_112 20 0 0 rd (by omega) (by omega) (by first | exact isB_0 | exact isB_1) (by omega) (by omega) hE _ _ hP hD hS ls (lv_sub hl [0, 1, 2, 3, 4, 5] rfl)
            · rw [if_pos c_6] at hE
              refine lv_iconst (v := 1) hx hb dX9_readSo_95 (by decide) ?_
              refine lv_goto (tgt := 100) hx hb dX9_readSo_96 (by decide) ?_
              refine lv_istore_n (lv' := [(3, .int 1), (2, .int (nI (FX9_size rwd))), (0, .ref w0), (1, .int tu)]) hx hb dX9_readSo_100 rfl hl (by decide) rfl (fun ls hl => ?_)
              refine lv_iload_n hx hb dX9_readSo_101 rfl (lv_at hl 1 rfl) ?_
              refine lv_bipush (v := 6) hx hb dX9_readSo_102 (by decide) ?_
              refine lv_isub hx hb dX9_readSo_104 ?_
              refine na_top (show (nI (FX9_size rwd)) - 6 = nI ((FX9_size rwd) - 6) from pk_sub (a := (FX9_size rwd)) (b := 6) (by omega)) ?_
              refine lv_iconst (v := 4) hx hb dX9_readSo_105 (by decide) ?_
              refine lv_idiv hx hb dX9_readSo_106 (by decide) ?_
              refine na_top (show (nI ((FX9_size rwd) - 6)) / 4 = nI (((FX9_size rwd) - 6) / 4) from pk_div (a := ((FX9_size rwd) - 6)) (d := 4) (by omega) (by decide) (by decide)) ?_
              refine lv_istore (lv' := [(4, .int (nI (((FX9_size rwd) - 6) / 4))), (3, .int 1), (2, .int (nI (FX9_size rwd))), (0, .ref w0), (1, .int tu)]) hx hb dX9_readSo_107 hl (by decide) rfl (fun ls hl => ?_)
              refine lv_iconst (v := 0) hx hb dX9_readSo_109 (by decide) ?_
              refine lv_istore (lv' := [(5, .int 0), (4, .int (nI (((FX9_size rwd) - 6) / 4))), (3, .int 1), (2, .int (nI (FX9_size rwd))), (0, .ref w0), (1, .int tu)]) hx hb dX9_readSo_110 hl (by decide) rfl (fun ls hl => ?_)
              exact loop_112 20 0 1 rd (by omega) (by omega) (by first | exact isB_0 | exact isB_1) (by omega) (by omega) hE _ _ hP hD hS ls (lv_sub hl [0, 1, 2, 3, 4, 5] rfl)
    · have c_2 : ¬ (((FX9_size rwd) - 6) % 4) = 0 := fun h9 => c_2 ((nI_eq (a := (((FX9_size rwd) - 6) % 4)) (b := 0) (by omega) (by omega)).mpr h9)
      rw [if_neg c_2] at hE
      refine lv_iconst (v := 0) hx hb dX9_readSo_25 (by decide) ?_
      subst hE
      exact W.zret hx hb hr narrow_b0 (fun t ht hW => ⟨rfl, by rw [ht]; exact hP, hD, hS.F ht⟩) hS.2.2 dX9_readSo_26
def FX9_read (rwd : Nat → Int32) (rd : Nat → Int32) : Int32 × Int32 × (Nat → Int32) × Nat := if ((FX9_readSo rwd rd 0).1) = 0 then (if ((FX9_readSo rwd ((FX9_readSo rwd rd 0).2.1) 1).1) = 0 then ((-1), 0, (FX9_readSo rwd ((FX9_readSo rwd rd 0).2.1) 1).2.1, (FX9_readSo rwd ((FX9_readSo rwd rd 0).2.1) 1).2.2) else (nI ((FX9_readSo rwd ((FX9_readSo rwd rd 0).2.1) 1).2.2), 0, (FX9_readSo rwd ((FX9_readSo rwd rd 0).2.1) 1).2.1, (FX9_readSo rwd ((FX9_readSo rwd rd 0).2.1) 1).2.2)) else (nI ((FX9_readSo rwd rd 0).2.2), 0, (FX9_readSo rwd rd 0).2.1, (FX9_readSo rwd rd 0).2.2)
set_option maxHeartbeats 4000000 in
set_option maxRecDepth 100000 in
theorem kX9_read (l : Launch) (D : va_G) (cI cJ cZ : ClassId) (w0 : Nat) (a1 : Nat) (a2 : Nat) (a3 : Nat) (a4 : Nat) (a5 : Nat) (a6 : Nat) (a7 : Nat) (a8 : Nat) (a9 : Nat) (a10 : Nat) (a11 : Nat) (a12 : Nat) (a13 : Nat) (a14 : Nat) (a15 : Nat) (a16 : Nat) (a17 : Nat) (a18 : Nat) (a19 : Nat) (a20 : Nat) (a21 : Nat) (a22 : Nat) (a23 : Nat) (rdn : Nat) (rfa : Int32) (rmn : Nat) (rpn : Nat) (rre : Int32) (rrn : Nat) (rfn : Nat) (rkn : Nat) (rcn : Nat) (rwd : Nat → Int32) (rd : Nat → Int32) (sz : Nat) : Met l yX9_read wsX9_read ({ frames := 4, cells := 0, slots := 0, locals := 95 }) (mP D (tz cI cJ cZ) [.ref w0] sz [(w0, .inr (9, [.ref a1, .ref a2, .int (nI rdn), .int rfa, .int (nI rmn), .ref a3, .ref a4, .ref a5, .ref a6, .ref a7, .ref a8, .ref a9, .ref a10, .ref a11, .ref a12, .ref a13, .int (nI rpn), .int rre, .ref a14, .ref a15, .int (nI rrn), .ref a16, .int (nI rfn), .ref a17, .ref a18, .ref a19, .int (nI rkn), .ref a20, .ref a21, .int (nI rcn), .ref a22, .ref a23])), (a1, .inl (cI, 64, .inl rwd)), (a2, .inl (cI, 16, .inl rd))]) (mQ D (some (.int ((FX9_read rwd rd).1))) [(w0, .inr (9, [.ref a1, .ref a2, .int (nI ((FX9_read rwd rd).2.2.2)), .int ((FX9_read rwd rd).2.1), .int (nI rmn), .ref a3, .ref a4, .ref a5, .ref a6, .ref a7, .ref a8, .ref a9, .ref a10, .ref a11, .ref a12, .ref a13, .int (nI rpn), .int rre, .ref a14, .ref a15, .int (nI rrn), .ref a16, .int (nI rfn), .ref a17, .ref a18, .ref a19, .int (nI rkn), .ref a20, .ref a21, .int (nI rcn), .ref a22, .ref a23])), (a1, .inl (cI, 64, .inl rwd)), (a2, .inl (cI, 16, .inl ((FX9_read rwd rd).2.2.1)))] (va_A [(w0, .inr (9, [.ref a1, .ref a2, .int (nI rdn), .int rfa, .int (nI rmn), .ref a3, .ref a4, .ref a5, .ref a6, .ref a7, .ref a8, .ref a9, .ref a10, .ref a11, .ref a12, .ref a13, .int (nI rpn), .int rre, .ref a14, .ref a15, .int (nI rrn), .ref a16, .int (nI rfn), .ref a17, .ref a18, .ref a19, .int (nI rkn), .ref a20, .ref a21, .int (nI rcn), .ref a22, .ref a23])), (a1, .inl (cI, 64, .inl rwd)), (a2, .inl (cI, 16, .inl rd))] sz)) 0 0 (va_A [(w0, .inr (9, [.ref a1, .ref a2, .int (nI rdn), .int rfa, .int (nI rmn), .ref a3, .ref a4, .ref a5, .ref a6, .ref a7, .ref a8, .ref a9, .ref a10, .ref a11, .ref a12, .ref a13, .int (nI rpn), .int rre, .ref a14, .ref a15, .int (nI rrn), .ref a16, .int (nI rfn), .ref a17, .ref a18, .ref a19, .int (nI rkn), .ref a20, .ref a21, .int (nI rcn), .ref a22, .ref a23])), (a1, .inl (cI, 64, .inl rwd)), (a2, .inl (cI, 16, .inl rd))] sz) := by
  refine Met.ofW (cc := cX9_read) (maxL := 1) (ret := (some .int)) (by decide) rfl ?_
  intro p e s m args below meth c s₁ B hml hv
  obtain ⟨rfl, hsz, hP, hK, hD0, hN⟩ := hv
  have hx := B.exec
  have hb := B.bytes
  have hr := B.returns
  have hts := atoms_spec (ws := wsX9_read) B.pre
  have hown : s.vm.findClass RX9 = some m.cls := findClass_of_methodNamed B.named
  have hlocks := B.notSynchronized
  have iw_9 : ∀ w ∈ u_ws RX9 TX9 32, w ∈ wsX9_read := by decide +kernel
  subst hsz
  have hD := hD0.self (sz := s.heap.size)
  generalize hE : FX9_read rwd rd = R0
  generalize hAe : va_A [(w0, .inr (9, [.ref a1, .ref a2, .int (nI rdn), .int rfa, .int (nI rmn), .ref a3, .ref a4, .ref a5, .ref a6, .ref a7, .ref a8, .ref a9, .ref a10, .ref a11, .ref a12, .ref a13, .int (nI rpn), .int rre, .ref a14, .ref a15, .int (nI rrn), .ref a16, .int (nI rfn), .ref a17, .ref a18, .ref a19, .int (nI rkn), .ref a20, .ref a21, .int (nI rcn), .ref a22, .ref a23])), (a1, .inl (cI, 64, .inl rwd)), (a2, .inl (cI, 16, .inl rd))] s.heap.size = A at hD ⊢
  have hA : ∀ q : Nat, s.heap.size ≤ q → A q := fun q h => by rw [← hAe]; exact Or.inr h
  have hS : va_S A s.heap s.heap [] := va_S.rf
  rw [FX9_read] at hE
  have hl := lv_entry ([.ref w0]) (n := 1) (Nat.le_of_ble_eq_true rfl)
  rw [lg_entry_eq]
  generalize (lg_sl ([.ref w0]) ++ List.replicate (1 - (lg_sl ([.ref w0])).length) Slot.unset).toArray = ls at hl ⊢
  have hl : lv_has ls 1 [(0, .ref w0)] := hl
  refine lv_aload_n hx hb dX9_read_0 rfl (lv_at hl 0 rfl) ?_
  refine lv_iconst (v := 0) hx hb dX9_read_1 (by decide) ?_
  refine va_put (D := D) (ci := 9) (v := .int 0) (ty := .int) (C := RX9) (T := TX9) (N := 32) hx hb hts iw_9 tyX9 tyX9_ok nmX9 hown hK hP hD hS 0 rfl rfl 3 (by decide) (hts (.fieldLink RX9 81 "DepositCodesModel" "fault" "I") (by decide +kernel)) (fun _ h9 => h9) rfl (by decide +kernel) rfl rfl (Nat.le_of_ble_eq_true rfl) dX9_read_2 (fun H locs hP hD hS => ?_)
  have hP : va_P D vwCl [(w0, .inr (9, [.ref a1, .ref a2, .int (nI rdn), .int 0, .int (nI rmn), .ref a3, .ref a4, .ref a5, .ref a6, .ref a7, .ref a8, .ref a9, .ref a10, .ref a11, .ref a12, .ref a13, .int (nI rpn), .int rre, .ref a14, .ref a15, .int (nI rrn), .ref a16, .int (nI rfn), .ref a17, .ref a18, .ref a19, .int (nI rkn), .ref a20, .ref a21, .int (nI rcn), .ref a22, .ref a23])), (a1, .inl (cI, 64, .inl rwd)), (a2, .inl (cI, 16, .inl rd))] H := hP
  have hD : va_D A [(w0, .inr (9, [.ref a1, .ref a2, .int (nI rdn), .int 0, .int (nI rmn), .ref a3, .ref a4, .ref a5, .ref a6, .ref a7, .ref a8, .ref a9, .ref a10, .ref a11, .ref a12, .ref a13, .int (nI rpn), .int rre, .ref a14, .ref a15, .int (nI rrn), .ref a16, .int (nI rfn), .ref a17, .ref a18, .ref a19, .int (nI rkn), .ref a20, .ref a21, .int (nI rcn), .ref a22, .ref a23])), (a1, .inl (cI, 64, .inl rwd)), (a2, .inl (cI, 16, .inl rd))] := hD
  refine lv_aload_n hx hb dX9_read_5 rfl (lv_at hl 0 rfl) ?_
  refine lv_iconst (v := 0) hx hb dX9_read_6 (by decide) ?_
  refine mt_call0 (wr := []) (ws' := [(w0, .inr (9, [.ref a1, .ref a2, .int (nI ((FX9_readSo rwd rd 0).2.2)), .int 0, .int (nI rmn), .ref a3, .ref a4, .ref a5, .ref a6, .ref a7, .ref a8, .ref a9, .ref a10, .ref a11, .ref a12, .ref a13, .int (nI rpn), .int rre, .ref a14, .ref a15, .int (nI rrn), .ref a16, .int (nI rfn), .ref a17, .ref a18, .ref a19, .int (nI rkn), .ref a20, .ref a21, .int (nI rcn), .ref a22, .ref a23])), (a1, .inl (cI, 64, .inl rwd)), (a2, .inl (cI, 16, .inl ((FX9_readSo rwd rd 0).2.1)))]) (st1 := [.int ((FX9_readSo rwd rd 0).1)]) (va_runV (As := [.int 0]) (rest := []) ⟨hx, hb, hml, hown, hts⟩ (kX9_readSo l D cI cJ cZ w0 a1 a2 a3 a4 a5 a6 a7 a8 a9 a10 a11 a12 a13 a14 a15 a16 a17 a18 a19 a20 a21 a22 a23 rdn 0 rmn rpn rre rrn rfn rkn rcn rwd rd 0 _) (cwV 1 hts gX9_read_X9_readSo rfl rfl rfl (by decide +kernel) ⟨Nat.le_of_ble_eq_true rfl, Nat.le_of_ble_eq_true rfl⟩) ⟨mP_blind, va_recv hK hP (ci := 9) (q0 := 0) rfl rfl, mP_pre (hP.sub [0, 1, 2] rfl) (hD.sub [0, 1, 2] (by decide) rfl) hK hN⟩ rfl rfl hl.1 rfl (lv_room (Nat.le_of_ble_eq_true rfl)) dX9_read_7 ⟨Nat.zero_le _, Nat.zero_le _⟩) hP hD hS hA [0, 1, 2] [] [0, 1, 2] rfl rfl (by decide) (by decide) (by decide) rfl rfl (fun H locs hP hD hS => ?_)
  refine lv_if_ne (tgt := 21) hx hb dX9_read_10 (by decide) (fun c_1 => ?_) (fun c_1 => ?_)
  · rw [if_neg c_1] at hE
    refine lv_aload_n hx hb dX9_read_21 rfl (lv_at hl 0 rfl) ?_
    refine va_get (D := D) (ci := 9) (v := .int (nI ((FX9_readSo rwd rd 0).2.2))) (C := RX9) (T := TX9) (N := 32) hx hb hts iw_9 hown hK hP 0 rfl rfl 2 (by decide) (hts (.fieldLink RX9 105 "DepositCodesModel" "digitCount" "I") (by decide +kernel)) (fun _ h9 => h9) rfl dX9_read_22 ?_
    refine lv_goto (tgt := 29) hx hb dX9_read_25 (by decide) ?_
    subst hE
    exact W.iret hx hb hr (fun t ht hW => ⟨rfl, by rw [ht]; exact hP, hD, hS.F ht⟩) hS.2.2 dX9_read_29
  · rw [if_pos c_1] at hE
    refine lv_aload_n hx hb dX9_read_13 rfl (lv_at hl 0 rfl) ?_
    refine lv_iconst (v := 1) hx hb dX9_read_14 (by decide) ?_
    refine mt_call0 (wr := []) (ws' := [(w0, .inr (9, [.ref a1, .ref a2, .int (nI ((FX9_readSo rwd ((FX9_readSo rwd rd 0).2.1) 1).2.2)), .int 0, .int (nI rmn), .ref a3, .ref a4, .ref a5, .ref a6, .ref a7, .ref a8, .ref a9, .ref a10, .ref a11, .ref a12, .ref a13, .int (nI rpn), .int rre, .ref a14, .ref a15, .int (nI rrn), .ref a16, .int (nI rfn), .ref a17, .ref a18, .ref a19, .int (nI rkn), .ref a20, .ref a21, .int (nI rcn), .ref a22, .ref a23])), (a1, .inl (cI, 64, .inl rwd)), (a2, .inl (cI, 16, .inl ((FX9_readSo rwd ((FX9_readSo rwd rd 0).2.1) 1).2.1)))]) (st1 := [.int ((FX9_readSo rwd ((FX9_readSo rwd rd 0).2.1) 1).1)]) (va_runV (As := [.int 1]) (rest := []) ⟨hx, hb, hml, hown, hts⟩ (kX9_readSo l D cI cJ cZ w0 a1 a2 a3 a4 a5 a6 a7 a8 a9 a10 a11 a12 a13 a14 a15 a16 a17 a18 a19 a20 a21 a22 a23 ((FX9_readSo rwd rd 0).2.2) 0 rmn rpn rre rrn rfn rkn rcn rwd ((FX9_readSo rwd rd 0).2.1) 1 _) (cwV 1 hts gX9_read_X9_readSo rfl rfl rfl (by decide +kernel) ⟨Nat.le_of_ble_eq_true rfl, Nat.le_of_ble_eq_true rfl⟩) ⟨mP_blind, va_recv hK hP (ci := 9) (q0 := 0) rfl rfl, mP_pre (hP.sub [0, 1, 2] rfl) (hD.sub [0, 1, 2] (by decide) rfl) hK hN⟩ rfl rfl hl.1 rfl (lv_room (Nat.le_of_ble_eq_true rfl)) dX9_read_15 ⟨Nat.zero_le _, Nat.zero_le _⟩) hP hD hS hA [0, 1, 2] [] [0, 1, 2] rfl rfl (by decide) (by decide) (by decide) rfl rfl (fun H locs hP hD hS => ?_)
    refine lv_if_eq (tgt := 28) hx hb dX9_read_18 (by decide) (fun c_2 => ?_) (fun c_2 => ?_)
    · rw [if_pos c_2] at hE
      refine lv_iconst (v := (-1)) hx hb dX9_read_28 (by decide) ?_
      subst hE
      exact W.iret hx hb hr (fun t ht hW => ⟨rfl, by rw [ht]; exact hP, hD, hS.F ht⟩) hS.2.2 dX9_read_29
    · rw [if_neg c_2] at hE
      refine lv_aload_n hx hb dX9_read_21 rfl (lv_at hl 0 rfl) ?_
      refine va_get (D := D) (ci := 9) (v := .int (nI ((FX9_readSo rwd ((FX9_readSo rwd rd 0).2.1) 1).2.2))) (C := RX9) (T := TX9) (N := 32) hx hb hts iw_9 hown hK hP 0 rfl rfl 2 (by decide) (hts (.fieldLink RX9 105 "DepositCodesModel" "digitCount" "I") (by decide +kernel)) (fun _ h9 => h9) rfl dX9_read_22 ?_
      refine lv_goto (tgt := 29) hx hb dX9_read_25 (by decide) ?_
      subst hE
      exact W.iret hx hb hr (fun t ht hW => ⟨rfl, by rw [ht]; exact hP, hD, hS.F ht⟩) hS.2.2 dX9_read_29
def FX9_back (rwd : Nat → Int32) (rd : Nat → Int32) : Int32 × Int32 × (Nat → Int32) × Nat := if ((FX9_readSo rwd rd 1).1) = 0 then (if ((FX9_readSo rwd ((FX9_readSo rwd rd 1).2.1) 0).1) = 0 then ((-1), 0, (FX9_readSo rwd ((FX9_readSo rwd rd 1).2.1) 0).2.1, (FX9_readSo rwd ((FX9_readSo rwd rd 1).2.1) 0).2.2) else (nI ((FX9_readSo rwd ((FX9_readSo rwd rd 1).2.1) 0).2.2), 0, (FX9_readSo rwd ((FX9_readSo rwd rd 1).2.1) 0).2.1, (FX9_readSo rwd ((FX9_readSo rwd rd 1).2.1) 0).2.2)) else (nI ((FX9_readSo rwd rd 1).2.2), 0, (FX9_readSo rwd rd 1).2.1, (FX9_readSo rwd rd 1).2.2)
set_option maxHeartbeats 4000000 in
set_option maxRecDepth 100000 in
theorem kX9_back (l : Launch) (D : va_G) (cI cJ cZ : ClassId) (w0 : Nat) (a1 : Nat) (a2 : Nat) (a3 : Nat) (a4 : Nat) (a5 : Nat) (a6 : Nat) (a7 : Nat) (a8 : Nat) (a9 : Nat) (a10 : Nat) (a11 : Nat) (a12 : Nat) (a13 : Nat) (a14 : Nat) (a15 : Nat) (a16 : Nat) (a17 : Nat) (a18 : Nat) (a19 : Nat) (a20 : Nat) (a21 : Nat) (a22 : Nat) (a23 : Nat) (rdn : Nat) (rfa : Int32) (rmn : Nat) (rpn : Nat) (rre : Int32) (rrn : Nat) (rfn : Nat) (rkn : Nat) (rcn : Nat) (rwd : Nat → Int32) (rd : Nat → Int32) (sz : Nat) : Met l yX9_back wsX9_back ({ frames := 4, cells := 0, slots := 0, locals := 95 }) (mP D (tz cI cJ cZ) [.ref w0] sz [(w0, .inr (9, [.ref a1, .ref a2, .int (nI rdn), .int rfa, .int (nI rmn), .ref a3, .ref a4, .ref a5, .ref a6, .ref a7, .ref a8, .ref a9, .ref a10, .ref a11, .ref a12, .ref a13, .int (nI rpn), .int rre, .ref a14, .ref a15, .int (nI rrn), .ref a16, .int (nI rfn), .ref a17, .ref a18, .ref a19, .int (nI rkn), .ref a20, .ref a21, .int (nI rcn), .ref a22, .ref a23])), (a1, .inl (cI, 64, .inl rwd)), (a2, .inl (cI, 16, .inl rd))]) (mQ D (some (.int ((FX9_back rwd rd).1))) [(w0, .inr (9, [.ref a1, .ref a2, .int (nI ((FX9_back rwd rd).2.2.2)), .int ((FX9_back rwd rd).2.1), .int (nI rmn), .ref a3, .ref a4, .ref a5, .ref a6, .ref a7, .ref a8, .ref a9, .ref a10, .ref a11, .ref a12, .ref a13, .int (nI rpn), .int rre, .ref a14, .ref a15, .int (nI rrn), .ref a16, .int (nI rfn), .ref a17, .ref a18, .ref a19, .int (nI rkn), .ref a20, .ref a21, .int (nI rcn), .ref a22, .ref a23])), (a1, .inl (cI, 64, .inl rwd)), (a2, .inl (cI, 16, .inl ((FX9_back rwd rd).2.2.1)))] (va_A [(w0, .inr (9, [.ref a1, .ref a2, .int (nI rdn), .int rfa, .int (nI rmn), .ref a3, .ref a4, .ref a5, .ref a6, .ref a7, .ref a8, .ref a9, .ref a10, .ref a11, .ref a12, .ref a13, .int (nI rpn), .int rre, .ref a14, .ref a15, .int (nI rrn), .ref a16, .int (nI rfn), .ref a17, .ref a18, .ref a19, .int (nI rkn), .ref a20, .ref a21, .int (nI rcn), .ref a22, .ref a23])), (a1, .inl (cI, 64, .inl rwd)), (a2, .inl (cI, 16, .inl rd))] sz)) 0 0 (va_A [(w0, .inr (9, [.ref a1, .ref a2, .int (nI rdn), .int rfa, .int (nI rmn), .ref a3, .ref a4, .ref a5, .ref a6, .ref a7, .ref a8, .ref a9, .ref a10, .ref a11, .ref a12, .ref a13, .int (nI rpn), .int rre, .ref a14, .ref a15, .int (nI rrn), .ref a16, .int (nI rfn), .ref a17, .ref a18, .ref a19, .int (nI rkn), .ref a20, .ref a21, .int (nI rcn), .ref a22, .ref a23])), (a1, .inl (cI, 64, .inl rwd)), (a2, .inl (cI, 16, .inl rd))] sz) := by
  refine Met.ofW (cc := cX9_back) (maxL := 1) (ret := (some .int)) (by decide) rfl ?_
  intro p e s m args below meth c s₁ B hml hv
  obtain ⟨rfl, hsz, hP, hK, hD0, hN⟩ := hv
  have hx := B.exec
  have hb := B.bytes
  have hr := B.returns
  have hts := atoms_spec (ws := wsX9_back) B.pre
  have hown : s.vm.findClass RX9 = some m.cls := findClass_of_methodNamed B.named
  have hlocks := B.notSynchronized
  have iw_9 : ∀ w ∈ u_ws RX9 TX9 32, w ∈ wsX9_back := by decide +kernel
  subst hsz
  have hD := hD0.self (sz := s.heap.size)
  generalize hE : FX9_back rwd rd = R0
  generalize hAe : va_A [(w0, .inr (9, [.ref a1, .ref a2, .int (nI rdn), .int rfa, .int (nI rmn), .ref a3, .ref a4, .ref a5, .ref a6, .ref a7, .ref a8, .ref a9, .ref a10, .ref a11, .ref a12, .ref a13, .int (nI rpn), .int rre, .ref a14, .ref a15, .int (nI rrn), .ref a16, .int (nI rfn), .ref a17, .ref a18, .ref a19, .int (nI rkn), .ref a20, .ref a21, .int (nI rcn), .ref a22, .ref a23])), (a1, .inl (cI, 64, .inl rwd)), (a2, .inl (cI, 16, .inl rd))] s.heap.size = A at hD ⊢
  have hA : ∀ q : Nat, s.heap.size ≤ q → A q := fun q h => by rw [← hAe]; exact Or.inr h
  have hS : va_S A s.heap s.heap [] := va_S.rf
  rw [FX9_back] at hE
  have hl := lv_entry ([.ref w0]) (n := 1) (Nat.le_of_ble_eq_true rfl)
  rw [lg_entry_eq]
  generalize (lg_sl ([.ref w0]) ++ List.replicate (1 - (lg_sl ([.ref w0])).length) Slot.unset).toArray = ls at hl ⊢
  have hl : lv_has ls 1 [(0, .ref w0)] := hl
  refine lv_aload_n hx hb dX9_back_0 rfl (lv_at hl 0 rfl) ?_
  refine lv_iconst (v := 0) hx hb dX9_back_1 (by decide) ?_
  refine va_put (D := D) (ci := 9) (v := .int 0) (ty := .int) (C := RX9) (T := TX9) (N := 32) hx hb hts iw_9 tyX9 tyX9_ok nmX9 hown hK hP hD hS 0 rfl rfl 3 (by decide) (hts (.fieldLink RX9 81 "DepositCodesModel" "fault" "I") (by decide +kernel)) (fun _ h9 => h9) rfl (by decide +kernel) rfl rfl (Nat.le_of_ble_eq_true rfl) dX9_back_2 (fun H locs hP hD hS => ?_)
  have hP : va_P D vwCl [(w0, .inr (9, [.ref a1, .ref a2, .int (nI rdn), .int 0, .int (nI rmn), .ref a3, .ref a4, .ref a5, .ref a6, .ref a7, .ref a8, .ref a9, .ref a10, .ref a11, .ref a12, .ref a13, .int (nI rpn), .int rre, .ref a14, .ref a15, .int (nI rrn), .ref a16, .int (nI rfn), .ref a17, .ref a18, .ref a19, .int (nI rkn), .ref a20, .ref a21, .int (nI rcn), .ref a22, .ref a23])), (a1, .inl (cI, 64, .inl rwd)), (a2, .inl (cI, 16, .inl rd))] H := hP
  have hD : va_D A [(w0, .inr (9, [.ref a1, .ref a2, .int (nI rdn), .int 0, .int (nI rmn), .ref a3, .ref a4, .ref a5, .ref a6, .ref a7, .ref a8, .ref a9, .ref a10, .ref a11, .ref a12, .ref a13, .int (nI rpn), .int rre, .ref a14, .ref a15, .int (nI rrn), .ref a16, .int (nI rfn), .ref a17, .ref a18, .ref a19, .int (nI rkn), .ref a20, .ref a21, .int (nI rcn), .ref a22, .ref a23])), (a1, .inl (cI, 64, .inl rwd)), (a2, .inl (cI, 16, .inl rd))] := hD
  refine lv_aload_n hx hb dX9_back_5 rfl (lv_at hl 0 rfl) ?_
  refine lv_iconst (v := 1) hx hb dX9_back_6 (by decide) ?_
  refine mt_call0 (wr := []) (ws' := [(w0, .inr (9, [.ref a1, .ref a2, .int (nI ((FX9_readSo rwd rd 1).2.2)), .int 0, .int (nI rmn), .ref a3, .ref a4, .ref a5, .ref a6, .ref a7, .ref a8, .ref a9, .ref a10, .ref a11, .ref a12, .ref a13, .int (nI rpn), .int rre, .ref a14, .ref a15, .int (nI rrn), .ref a16, .int (nI rfn), .ref a17, .ref a18, .ref a19, .int (nI rkn), .ref a20, .ref a21, .int (nI rcn), .ref a22, .ref a23])), (a1, .inl (cI, 64, .inl rwd)), (a2, .inl (cI, 16, .inl ((FX9_readSo rwd rd 1).2.1)))]) (st1 := [.int ((FX9_readSo rwd rd 1).1)]) (va_runV (As := [.int 1]) (rest := []) ⟨hx, hb, hml, hown, hts⟩ (kX9_readSo l D cI cJ cZ w0 a1 a2 a3 a4 a5 a6 a7 a8 a9 a10 a11 a12 a13 a14 a15 a16 a17 a18 a19 a20 a21 a22 a23 rdn 0 rmn rpn rre rrn rfn rkn rcn rwd rd 1 _) (cwV 1 hts gX9_back_X9_readSo rfl rfl rfl (by decide +kernel) ⟨Nat.le_of_ble_eq_true rfl, Nat.le_of_ble_eq_true rfl⟩) ⟨mP_blind, va_recv hK hP (ci := 9) (q0 := 0) rfl rfl, mP_pre (hP.sub [0, 1, 2] rfl) (hD.sub [0, 1, 2] (by decide) rfl) hK hN⟩ rfl rfl hl.1 rfl (lv_room (Nat.le_of_ble_eq_true rfl)) dX9_back_7 ⟨Nat.zero_le _, Nat.zero_le _⟩) hP hD hS hA [0, 1, 2] [] [0, 1, 2] rfl rfl (by decide) (by decide) (by decide) rfl rfl (fun H locs hP hD hS => ?_)
  refine lv_if_ne (tgt := 21) hx hb dX9_back_10 (by decide) (fun c_1 => ?_) (fun c_1 => ?_)
  · rw [if_neg c_1] at hE
    refine lv_aload_n hx hb dX9_back_21 rfl (lv_at hl 0 rfl) ?_
    refine va_get (D := D) (ci := 9) (v := .int (nI ((FX9_readSo rwd rd 1).2.2))) (C := RX9) (T := TX9) (N := 32) hx hb hts iw_9 hown hK hP 0 rfl rfl 2 (by decide) (hts (.fieldLink RX9 105 "DepositCodesModel" "digitCount" "I") (by decide +kernel)) (fun _ h9 => h9) rfl dX9_back_22 ?_
    refine lv_goto (tgt := 29) hx hb dX9_back_25 (by decide) ?_
    subst hE
    exact W.iret hx hb hr (fun t ht hW => ⟨rfl, by rw [ht]; exact hP, hD, hS.F ht⟩) hS.2.2 dX9_back_29
  · rw [if_pos c_1] at hE
    refine lv_aload_n hx hb dX9_back_13 rfl (lv_at hl 0 rfl) ?_
    refine lv_iconst (v := 0) hx hb dX9_back_14 (by decide) ?_
    refine mt_call0 (wr := []) (ws' := [(w0, .inr (9, [.ref a1, .ref a2, .int (nI ((FX9_readSo rwd ((FX9_readSo rwd rd 1).2.1) 0).2.2)), .int 0, .int (nI rmn), .ref a3, .ref a4, .ref a5, .ref a6, .ref a7, .ref a8, .ref a9, .ref a10, .ref a11, .ref a12, .ref a13, .int (nI rpn), .int rre, .ref a14, .ref a15, .int (nI rrn), .ref a16, .int (nI rfn), .ref a17, .ref a18, .ref a19, .int (nI rkn), .ref a20, .ref a21, .int (nI rcn), .ref a22, .ref a23])), (a1, .inl (cI, 64, .inl rwd)), (a2, .inl (cI, 16, .inl ((FX9_readSo rwd ((FX9_readSo rwd rd 1).2.1) 0).2.1)))]) (st1 := [.int ((FX9_readSo rwd ((FX9_readSo rwd rd 1).2.1) 0).1)]) (va_runV (As := [.int 0]) (rest := []) ⟨hx, hb, hml, hown, hts⟩ (kX9_readSo l D cI cJ cZ w0 a1 a2 a3 a4 a5 a6 a7 a8 a9 a10 a11 a12 a13 a14 a15 a16 a17 a18 a19 a20 a21 a22 a23 ((FX9_readSo rwd rd 1).2.2) 0 rmn rpn rre rrn rfn rkn rcn rwd ((FX9_readSo rwd rd 1).2.1) 0 _) (cwV 1 hts gX9_back_X9_readSo rfl rfl rfl (by decide +kernel) ⟨Nat.le_of_ble_eq_true rfl, Nat.le_of_ble_eq_true rfl⟩) ⟨mP_blind, va_recv hK hP (ci := 9) (q0 := 0) rfl rfl, mP_pre (hP.sub [0, 1, 2] rfl) (hD.sub [0, 1, 2] (by decide) rfl) hK hN⟩ rfl rfl hl.1 rfl (lv_room (Nat.le_of_ble_eq_true rfl)) dX9_back_15 ⟨Nat.zero_le _, Nat.zero_le _⟩) hP hD hS hA [0, 1, 2] [] [0, 1, 2] rfl rfl (by decide) (by decide) (by decide) rfl rfl (fun H locs hP hD hS => ?_)
    refine lv_if_eq (tgt := 28) hx hb dX9_back_18 (by decide) (fun c_2 => ?_) (fun c_2 => ?_)
    · rw [if_pos c_2] at hE
      refine lv_iconst (v := (-1)) hx hb dX9_back_28 (by decide) ?_
      subst hE
      exact W.iret hx hb hr (fun t ht hW => ⟨rfl, by rw [ht]; exact hP, hD, hS.F ht⟩) hS.2.2 dX9_back_29
    · rw [if_neg c_2] at hE
      refine lv_aload_n hx hb dX9_back_21 rfl (lv_at hl 0 rfl) ?_
      refine va_get (D := D) (ci := 9) (v := .int (nI ((FX9_readSo rwd ((FX9_readSo rwd rd 1).2.1) 0).2.2))) (C := RX9) (T := TX9) (N := 32) hx hb hts iw_9 hown hK hP 0 rfl rfl 2 (by decide) (hts (.fieldLink RX9 105 "DepositCodesModel" "digitCount" "I") (by decide +kernel)) (fun _ h9 => h9) rfl dX9_back_22 ?_
      refine lv_goto (tgt := 29) hx hb dX9_back_25 (by decide) ?_
      subst hE
      exact W.iret hx hb hr (fun t ht hW => ⟨rfl, by rw [ht]; exact hP, hD, hS.F ht⟩) hS.2.2 dX9_back_29
theorem pos_i {w : Int32} {i : Nat} (h3 : 3 ≤ w) (hw : w ≤ 20) (h : ¬ nI i ≤ w - 3) : 0 < i := by
  rcases Nat.eq_zero_or_pos i with rfl | h1
  · exfalso
    apply h
    rw [Int32.le_iff_toInt_le] at *
    have e3 : (3 : Int32).toInt = 3 := rfl
    have e20 : (20 : Int32).toInt = 20 := rfl
    have e0 : (nI 0).toInt = 0 := rfl
    rw [e0, Int32.toInt_sub, e3, Int.bmod_def]
    omega
  · exact h1
def FX9_double2_l95 (w : Int32) : Nat → Nat → Int64 → Int32 × Int32
  | 0, _, _ => (0, 0)
  | n + 1, i, r => if (nI i) ≤ (w - 3) then ((r - r / 10 * 10).toInt32, 0) else FX9_double2_l95 w n (i - 1) (r / 10)
def FX9_double2 (rkn : Nat) (rdz : Nat → Int64) (rdA : Nat → Int32) (rdB : Nat → Int32) (k : Int32) (w : Int32) : Int32 × Int32 := if k < 0 then ((-1), 0) else (if (nI rkn) ≤ k then ((-1), 0) else (if w < 0 then ((-1), 0) else (if w ≤ 20 then (if 3 ≤ w then (if (w - 3) < (nI (FX9_decimals (rdz k.toNatClampNeg))) then FX9_double2_l95 w 20 ((FX9_decimals (rdz k.toNatClampNeg)) - 1) (rdz k.toNatClampNeg) else ((-1), 0)) else (if w = 0 then (rdA k.toNatClampNeg, 0) else (if w = 1 then (rdB k.toNatClampNeg, 0) else (nI (FX9_decimals (rdz k.toNatClampNeg)), 0)))) else ((-1), 0))))
set_option maxHeartbeats 4000000 in
set_option maxRecDepth 100000 in
theorem kX9_double2 (l : Launch) (D : va_G) (cI cJ cZ : ClassId) (w0 : Nat) (a1 : Nat) (a2 : Nat) (a3 : Nat) (a4 : Nat) (a5 : Nat) (a6 : Nat) (a7 : Nat) (a8 : Nat) (a9 : Nat) (a10 : Nat) (a11 : Nat) (a12 : Nat) (a13 : Nat) (a14 : Nat) (a15 : Nat) (a16 : Nat) (a17 : Nat) (a18 : Nat) (a19 : Nat) (a20 : Nat) (a21 : Nat) (a22 : Nat) (a23 : Nat) (rdn : Nat) (rfa : Int32) (rmn : Nat) (rpn : Nat) (rre : Int32) (rrn : Nat) (rfn : Nat) (rkn : Nat) (rcn : Nat) (rdz : Nat → Int64) (rdA : Nat → Int32) (rdB : Nat → Int32) (k : Int32) (w : Int32) (sz : Nat) (hkn : rkn ≤ 1100) : Met l yX9_double2 wsX9_double2 ({ frames := 1, cells := 0, slots := 0, locals := 24 }) (mP D (tz cI cJ cZ) [.ref w0, .int k, .int w] sz [(w0, .inr (9, [.ref a1, .ref a2, .int (nI rdn), .int rfa, .int (nI rmn), .ref a3, .ref a4, .ref a5, .ref a6, .ref a7, .ref a8, .ref a9, .ref a10, .ref a11, .ref a12, .ref a13, .int (nI rpn), .int rre, .ref a14, .ref a15, .int (nI rrn), .ref a16, .int (nI rfn), .ref a17, .ref a18, .ref a19, .int (nI rkn), .ref a20, .ref a21, .int (nI rcn), .ref a22, .ref a23])), (a17, .inl (cJ, 1100, .inr (.inl rdz))), (a18, .inl (cI, 1100, .inl rdA)), (a19, .inl (cI, 1100, .inl rdB))]) (mQ D (some (.int ((FX9_double2 rkn rdz rdA rdB k w).1))) [(w0, .inr (9, [.ref a1, .ref a2, .int (nI rdn), .int ((FX9_double2 rkn rdz rdA rdB k w).2), .int (nI rmn), .ref a3, .ref a4, .ref a5, .ref a6, .ref a7, .ref a8, .ref a9, .ref a10, .ref a11, .ref a12, .ref a13, .int (nI rpn), .int rre, .ref a14, .ref a15, .int (nI rrn), .ref a16, .int (nI rfn), .ref a17, .ref a18, .ref a19, .int (nI rkn), .ref a20, .ref a21, .int (nI rcn), .ref a22, .ref a23])), (a17, .inl (cJ, 1100, .inr (.inl rdz))), (a18, .inl (cI, 1100, .inl rdA)), (a19, .inl (cI, 1100, .inl rdB))] (va_A [(w0, .inr (9, [.ref a1, .ref a2, .int (nI rdn), .int rfa, .int (nI rmn), .ref a3, .ref a4, .ref a5, .ref a6, .ref a7, .ref a8, .ref a9, .ref a10, .ref a11, .ref a12, .ref a13, .int (nI rpn), .int rre, .ref a14, .ref a15, .int (nI rrn), .ref a16, .int (nI rfn), .ref a17, .ref a18, .ref a19, .int (nI rkn), .ref a20, .ref a21, .int (nI rcn), .ref a22, .ref a23])), (a17, .inl (cJ, 1100, .inr (.inl rdz))), (a18, .inl (cI, 1100, .inl rdA)), (a19, .inl (cI, 1100, .inl rdB))] sz)) 0 0 (va_A [(w0, .inr (9, [.ref a1, .ref a2, .int (nI rdn), .int rfa, .int (nI rmn), .ref a3, .ref a4, .ref a5, .ref a6, .ref a7, .ref a8, .ref a9, .ref a10, .ref a11, .ref a12, .ref a13, .int (nI rpn), .int rre, .ref a14, .ref a15, .int (nI rrn), .ref a16, .int (nI rfn), .ref a17, .ref a18, .ref a19, .int (nI rkn), .ref a20, .ref a21, .int (nI rcn), .ref a22, .ref a23])), (a17, .inl (cJ, 1100, .inr (.inl rdz))), (a18, .inl (cI, 1100, .inl rdA)), (a19, .inl (cI, 1100, .inl rdB))] sz) := by
  refine Met.ofW (cc := cX9_double2) (maxL := 7) (ret := (some .int)) (by decide) rfl ?_
  intro p e s m args below meth c s₁ B hml hv
  obtain ⟨rfl, hsz, hP, hK, hD0, hN⟩ := hv
  have hx := B.exec
  have hb := B.bytes
  have hr := B.returns
  have hts := atoms_spec (ws := wsX9_double2) B.pre
  have hown : s.vm.findClass RX9 = some m.cls := findClass_of_methodNamed B.named
  have hlocks := B.notSynchronized
  have iw_9 : ∀ w ∈ u_ws RX9 TX9 32, w ∈ wsX9_double2 := by decide +kernel
  subst hsz
  have hD := hD0.self (sz := s.heap.size)
  generalize hE : FX9_double2 rkn rdz rdA rdB k w = R0
  generalize hAe : va_A [(w0, .inr (9, [.ref a1, .ref a2, .int (nI rdn), .int rfa, .int (nI rmn), .ref a3, .ref a4, .ref a5, .ref a6, .ref a7, .ref a8, .ref a9, .ref a10, .ref a11, .ref a12, .ref a13, .int (nI rpn), .int rre, .ref a14, .ref a15, .int (nI rrn), .ref a16, .int (nI rfn), .ref a17, .ref a18, .ref a19, .int (nI rkn), .ref a20, .ref a21, .int (nI rcn), .ref a22, .ref a23])), (a17, .inl (cJ, 1100, .inr (.inl rdz))), (a18, .inl (cI, 1100, .inl rdA)), (a19, .inl (cI, 1100, .inl rdB))] s.heap.size = A at hD ⊢
  have hA : ∀ q : Nat, s.heap.size ≤ q → A q := fun q h => by rw [← hAe]; exact Or.inr h
  have hS : va_S A s.heap s.heap [] := va_S.rf
  rw [FX9_double2] at hE
  have hl := lv_entry ([.ref w0, .int k, .int w]) (n := 7) (Nat.le_of_ble_eq_true rfl)
  rw [lg_entry_eq]
  generalize (lg_sl ([.ref w0, .int k, .int w]) ++ List.replicate (7 - (lg_sl ([.ref w0, .int k, .int w])).length) Slot.unset).toArray = ls at hl ⊢
  have hl : lv_has ls 7 [(0, .ref w0), (1, .int k), (2, .int w)] := hl
  have loop_95 : ∀ (n : Nat) (i : Nat) (r : Int64), i < n → 3 ≤ w → w ≤ 20 → FX9_double2_l95 w n i r = R0 → ∀ (H : Heap) (locs : List Loc), va_P D vwCl [(w0, .inr (9, [.ref a1, .ref a2, .int (nI rdn), .int 0, .int (nI rmn), .ref a3, .ref a4, .ref a5, .ref a6, .ref a7, .ref a8, .ref a9, .ref a10, .ref a11, .ref a12, .ref a13, .int (nI rpn), .int rre, .ref a14, .ref a15, .int (nI rrn), .ref a16, .int (nI rfn), .ref a17, .ref a18, .ref a19, .int (nI rkn), .ref a20, .ref a21, .int (nI rcn), .ref a22, .ref a23])), (a17, .inl (cJ, 1100, .inr (.inl rdz))), (a18, .inl (cI, 1100, .inl rdA)), (a19, .inl (cI, 1100, .inl rdB))] H → va_D A [(w0, .inr (9, [.ref a1, .ref a2, .int (nI rdn), .int 0, .int (nI rmn), .ref a3, .ref a4, .ref a5, .ref a6, .ref a7, .ref a8, .ref a9, .ref a10, .ref a11, .ref a12, .ref a13, .int (nI rpn), .int rre, .ref a14, .ref a15, .int (nI rrn), .ref a16, .int (nI rfn), .ref a17, .ref a18, .ref a19, .int (nI rkn), .ref a20, .ref a21, .int (nI rcn), .ref a22, .ref a23])), (a17, .inl (cJ, 1100, .inr (.inl rdz))), (a18, .inl (cI, 1100, .inl rdA)), (a19, .inl (cI, 1100, .inl rdB))] → va_S A s.heap H locs → ∀ ls : Array Slot, lv_has ls 7 [(6, .int (nI i)), (4, .long r), (3, .int (nI (FX9_decimals (rdz k.toNatClampNeg)))), (0, .ref w0), (1, .int k), (2, .int w)] → W p l e (headSpec wsX9_double2 ({ frames := 1, cells := 0, slots := 0, locals := 24 })).room s m ([.ref w0, .int k, .int w] : List Value).toArray below meth c H locs 0 0 (MQ below (mQ D (some (.int R0.1)) [(w0, .inr (9, [.ref a1, .ref a2, .int (nI rdn), .int R0.2, .int (nI rmn), .ref a3, .ref a4, .ref a5, .ref a6, .ref a7, .ref a8, .ref a9, .ref a10, .ref a11, .ref a12, .ref a13, .int (nI rpn), .int rre, .ref a14, .ref a15, .int (nI rrn), .ref a16, .int (nI rfn), .ref a17, .ref a18, .ref a19, .int (nI rkn), .ref a20, .ref a21, .int (nI rcn), .ref a22, .ref a23])), (a17, .inl (cJ, 1100, .inr (.inl rdz))), (a18, .inl (cI, 1100, .inl rdA)), (a19, .inl (cI, 1100, .inl rdB))] A) ([.ref w0, .int k, .int w] : List Value).toArray s 0 0 A) (F0 m 95 ls []) := by
    intro n
    induction n with
    | zero =>
      intro i r i_1 i_2 i_3
      exact absurd i_1 (by omega)
    | succ n ih =>
      intro i r i_1 i_2 i_3 hE H locs hP hD hS ls hl
      rw [FX9_double2_l95] at hE
      refine lv_iload hx hb dX9_double2_95 (lv_at hl 0 rfl) ?_
      refine lv_iload_n hx hb dX9_double2_97 rfl (lv_at hl 5 rfl) ?_
      refine lv_iconst (v := 3) hx hb dX9_double2_98 (by decide) ?_
      refine lv_isub hx hb dX9_double2_99 ?_
      refine lv_icmp_le (tgt := 117) hx hb dX9_double2_100 (by decide) (fun c_9 => ?_) (fun c_9 => ?_)
      · rw [if_pos c_9] at hE
        refine lv_lload hx hb dX9_double2_117 (lv_at hl 1 rfl) ?_
        refine lv_ldc2 hx hb hown (hts (.constantLong RX9 115 10) (by decide +kernel)) dX9_double2_119 ?_
        refine lv_lrem hx hb dX9_double2_122 (by decide) ?_
        refine lv_l2i hx hb dX9_double2_123 rfl ?_
        subst hE
        exact W.iret hx hb hr (fun t ht hW => ⟨rfl, by rw [ht]; exact hP, hD, hS.F ht⟩) hS.2.2 dX9_double2_124
      · rw [if_neg c_9] at hE
        have hpos : 0 < i := pos_i i_2 i_3 (by assumption)
        refine lv_lload hx hb dX9_double2_103 (lv_at hl 1 rfl) ?_
        refine lv_ldc2 hx hb hown (hts (.constantLong RX9 115 10) (by decide +kernel)) dX9_double2_105 ?_
        refine lv_ldiv hx hb dX9_double2_108 (by decide) ?_
        refine lv_lstore (lv' := [(4, .long (r / 10)), (6, .int (nI i)), (3, .int (nI (FX9_decimals (rdz k.toNatClampNeg)))), (0, .ref w0), (1, .int k), (2, .int w)]) hx hb dX9_double2_109 hl (by decide) rfl (fun ls hl => ?_)
        refine lv_iinc (v := nI (i - 1)) (lv' := [(6, .int (nI (i - 1))), (4, .long (r / 10)), (3, .int (nI (FX9_decimals (rdz k.toNatClampNeg)))), (0, .ref w0), (1, .int k), (2, .int w)]) hx hb dX9_double2_111 hl (k := 1) rfl (sb_m1 (p := i) (by omega)) (by decide) rfl (fun ls hl => ?_)
        refine lv_goto (tgt := 95) hx hb dX9_double2_114 (by decide) ?_
        exact ih (i - 1) (r / 10) (by omega) i_2 i_3 hE _ _ hP hD hS ls (lv_sub hl [0, 1, 2, 3, 4, 5] rfl)
  refine lv_aload_n hx hb dX9_double2_0 rfl (lv_at hl 0 rfl) ?_
  refine lv_iconst (v := 0) hx hb dX9_double2_1 (by decide) ?_
  refine va_put (D := D) (ci := 9) (v := .int 0) (ty := .int) (C := RX9) (T := TX9) (N := 32) hx hb hts iw_9 tyX9 tyX9_ok nmX9 hown hK hP hD hS 0 rfl rfl 3 (by decide) (hts (.fieldLink RX9 81 "DepositCodesModel" "fault" "I") (by decide +kernel)) (fun _ h9 => h9) rfl (by decide +kernel) rfl rfl (Nat.le_of_ble_eq_true rfl) dX9_double2_2 (fun H locs hP hD hS => ?_)
  have hP : va_P D vwCl [(w0, .inr (9, [.ref a1, .ref a2, .int (nI rdn), .int 0, .int (nI rmn), .ref a3, .ref a4, .ref a5, .ref a6, .ref a7, .ref a8, .ref a9, .ref a10, .ref a11, .ref a12, .ref a13, .int (nI rpn), .int rre, .ref a14, .ref a15, .int (nI rrn), .ref a16, .int (nI rfn), .ref a17, .ref a18, .ref a19, .int (nI rkn), .ref a20, .ref a21, .int (nI rcn), .ref a22, .ref a23])), (a17, .inl (cJ, 1100, .inr (.inl rdz))), (a18, .inl (cI, 1100, .inl rdA)), (a19, .inl (cI, 1100, .inl rdB))] H := hP
  have hD : va_D A [(w0, .inr (9, [.ref a1, .ref a2, .int (nI rdn), .int 0, .int (nI rmn), .ref a3, .ref a4, .ref a5, .ref a6, .ref a7, .ref a8, .ref a9, .ref a10, .ref a11, .ref a12, .ref a13, .int (nI rpn), .int rre, .ref a14, .ref a15, .int (nI rrn), .ref a16, .int (nI rfn), .ref a17, .ref a18, .ref a19, .int (nI rkn), .ref a20, .ref a21, .int (nI rcn), .ref a22, .ref a23])), (a17, .inl (cJ, 1100, .inr (.inl rdz))), (a18, .inl (cI, 1100, .inl rdA)), (a19, .inl (cI, 1100, .inl rdB))] := hD
  refine lv_iload_n hx hb dX9_double2_5 rfl (lv_at hl 1 rfl) ?_
  refine lv_if_lt (tgt := 27) hx hb dX9_double2_6 (by decide) (fun c_1 => ?_) (fun c_1 => ?_)
  · rw [if_pos c_1] at hE
    refine lv_iconst (v := (-1)) hx hb dX9_double2_27 (by decide) ?_
    subst hE
    exact W.iret hx hb hr (fun t ht hW => ⟨rfl, by rw [ht]; exact hP, hD, hS.F ht⟩) hS.2.2 dX9_double2_28
  · rw [if_neg c_1] at hE
    refine lv_iload_n hx hb dX9_double2_9 rfl (lv_at hl 1 rfl) ?_
    refine lv_aload_n hx hb dX9_double2_10 rfl (lv_at hl 0 rfl) ?_
    refine va_get (D := D) (ci := 9) (v := .int (nI rkn)) (C := RX9) (T := TX9) (N := 32) hx hb hts iw_9 hown hK hP 0 rfl rfl 26 (by decide) (hts (.fieldLink RX9 170 "DepositCodesModel" "doubleCount" "I") (by decide +kernel)) (fun _ h9 => h9) rfl dX9_double2_11 ?_
    refine lv_icmp_ge (tgt := 27) hx hb dX9_double2_14 (by decide) (fun c_2 => ?_) (fun c_2 => ?_)
    · rw [if_pos c_2] at hE
      refine lv_iconst (v := (-1)) hx hb dX9_double2_27 (by decide) ?_
      subst hE
      exact W.iret hx hb hr (fun t ht hW => ⟨rfl, by rw [ht]; exact hP, hD, hS.F ht⟩) hS.2.2 dX9_double2_28
    · rw [if_neg c_2] at hE
      refine lv_iload_n hx hb dX9_double2_17 rfl (lv_at hl 2 rfl) ?_
      refine lv_if_lt (tgt := 27) hx hb dX9_double2_18 (by decide) (fun c_3 => ?_) (fun c_3 => ?_)
      · rw [if_pos c_3] at hE
        refine lv_iconst (v := (-1)) hx hb dX9_double2_27 (by decide) ?_
        subst hE
        exact W.iret hx hb hr (fun t ht hW => ⟨rfl, by rw [ht]; exact hP, hD, hS.F ht⟩) hS.2.2 dX9_double2_28
      · rw [if_neg c_3] at hE
        refine lv_iload_n hx hb dX9_double2_21 rfl (lv_at hl 2 rfl) ?_
        refine lv_bipush (v := 20) hx hb dX9_double2_22 (by decide) ?_
        refine lv_icmp_le (tgt := 29) hx hb dX9_double2_24 (by decide) (fun c_4 => ?_) (fun c_4 => ?_)
        · rw [if_pos c_4] at hE
          have hin : vp_in k 1100 := nle_in (n := rkn) (by assumption) (by assumption) hkn (by decide)
          refine lv_aload_n hx hb dX9_double2_29 rfl (lv_at hl 0 rfl) ?_
          refine va_get (D := D) (ci := 9) (v := .ref a17) (C := RX9) (T := TX9) (N := 32) hx hb hts iw_9 hown hK hP 0 rfl rfl 23 (by decide) (hts (.fieldLink RX9 60 "DepositCodesModel" "doubles" "[J") (by decide +kernel)) (fun _ h9 => h9) rfl dX9_double2_30 ?_
          refine lv_iload_n hx hb dX9_double2_33 rfl (lv_at hl 1 rfl) ?_
          refine va_lald hx hb hK hP 1 1 rfl rfl (by assumption) dX9_double2_34 ?_
          refine rd_call (va_runS (As := [.long (rdz k.toNatClampNeg)]) (rest := []) ⟨hx, hb, hml, hown, hts⟩ (kX9_decimals l D cI cJ cZ (rdz k.toNatClampNeg)) (va_cwS 1 hts gX9_double2_X9_decimals rfl rfl rfl (by decide +kernel) ⟨Nat.le_of_ble_eq_true rfl, Nat.le_of_ble_eq_true rfl⟩) ⟨rP_blind, rP_pre (va_P_nil) hK hN⟩ rfl rfl hl.1 rfl (lv_room (Nat.le_of_ble_eq_true rfl)) dX9_double2_35 ⟨Nat.zero_le _, Nat.zero_le _⟩) ?_
          have hdc := FX9_decimals_in (rdz k.toNatClampNeg)
          refine lv_istore_n (lv' := [(3, .int (nI (FX9_decimals (rdz k.toNatClampNeg)))), (0, .ref w0), (1, .int k), (2, .int w)]) hx hb dX9_double2_38 rfl hl (by decide) rfl (fun ls hl => ?_)
          refine lv_iload_n hx hb dX9_double2_39 rfl (lv_at hl 3 rfl) ?_
          refine lv_iconst (v := 3) hx hb dX9_double2_40 (by decide) ?_
          refine lv_icmp_ge (tgt := 73) hx hb dX9_double2_41 (by decide) (fun c_5 => ?_) (fun c_5 => ?_)
          · rw [if_pos c_5] at hE
            refine lv_iload_n hx hb dX9_double2_73 rfl (lv_at hl 3 rfl) ?_
            refine lv_iconst (v := 3) hx hb dX9_double2_74 (by decide) ?_
            refine lv_isub hx hb dX9_double2_75 ?_
            refine lv_iload_n hx hb dX9_double2_76 rfl (lv_at hl 0 rfl) ?_
            refine lv_icmp_lt (tgt := 82) hx hb dX9_double2_77 (by decide) (fun c_6 => ?_) (fun c_6 => ?_)
            · rw [if_pos c_6] at hE
              refine lv_aload_n hx hb dX9_double2_82 rfl (lv_at hl 1 rfl) ?_
              refine va_get (D := D) (ci := 9) (v := .ref a17) (C := RX9) (T := TX9) (N := 32) hx hb hts iw_9 hown hK hP 0 rfl rfl 23 (by decide) (hts (.fieldLink RX9 60 "DepositCodesModel" "doubles" "[J") (by decide +kernel)) (fun _ h9 => h9) rfl dX9_double2_83 ?_
              refine lv_iload_n hx hb dX9_double2_86 rfl (lv_at hl 2 rfl) ?_
              refine va_lald hx hb hK hP 1 1 rfl rfl (by assumption) dX9_double2_87 ?_
              refine lv_lstore (lv' := [(4, .long (rdz k.toNatClampNeg)), (3, .int (nI (FX9_decimals (rdz k.toNatClampNeg)))), (0, .ref w0), (1, .int k), (2, .int w)]) hx hb dX9_double2_88 hl (by decide) rfl (fun ls hl => ?_)
              refine lv_iload_n hx hb dX9_double2_90 rfl (lv_at hl 1 rfl) ?_
              refine lv_iconst (v := 1) hx hb dX9_double2_91 (by decide) ?_
              refine lv_isub hx hb dX9_double2_92 ?_
              refine na_top (show (nI (FX9_decimals (rdz k.toNatClampNeg))) - 1 = nI ((FX9_decimals (rdz k.toNatClampNeg)) - 1) from pk_sub (a := (FX9_decimals (rdz k.toNatClampNeg))) (b := 1) (by omega)) ?_
              refine lv_istore (lv' := [(6, .int (nI ((FX9_decimals (rdz k.toNatClampNeg)) - 1))), (4, .long (rdz k.toNatClampNeg)), (3, .int (nI (FX9_decimals (rdz k.toNatClampNeg)))), (0, .ref w0), (1, .int k), (2, .int w)]) hx hb dX9_double2_93 hl (by decide) rfl (fun ls hl => ?_)
              exact loop_95 20 ((FX9_decimals (rdz k.toNatClampNeg)) - 1) (rdz k.toNatClampNeg) (by omega) (by assumption) (by assumption) hE _ _ hP hD hS ls (lv_sub hl [0, 1, 2, 3, 4, 5] rfl)
            · rw [if_neg c_6] at hE
              refine lv_iconst (v := (-1)) hx hb dX9_double2_80 (by decide) ?_
              subst hE
              exact W.iret hx hb hr (fun t ht hW => ⟨rfl, by rw [ht]; exact hP, hD, hS.F ht⟩) hS.2.2 dX9_double2_81
          · rw [if_neg c_5] at hE
            refine lv_iload_n hx hb dX9_double2_44 rfl (lv_at hl 3 rfl) ?_
            refine lv_if_ne (tgt := 57) hx hb dX9_double2_45 (by decide) (fun c_7 => ?_) (fun c_7 => ?_)
            · rw [if_neg c_7] at hE
              refine lv_iload_n hx hb dX9_double2_57 rfl (lv_at hl 3 rfl) ?_
              refine lv_iconst (v := 1) hx hb dX9_double2_58 (by decide) ?_
              refine lv_icmp_ne (tgt := 71) hx hb dX9_double2_59 (by decide) (fun c_8 => ?_) (fun c_8 => ?_)
              · rw [if_neg c_8] at hE
                refine lv_iload_n hx hb dX9_double2_71 rfl (lv_at hl 0 rfl) ?_
                subst hE
                exact W.iret hx hb hr (fun t ht hW => ⟨rfl, by rw [ht]; exact hP, hD, hS.F ht⟩) hS.2.2 dX9_double2_72
              · rw [if_pos c_8] at hE
                refine lv_aload_n hx hb dX9_double2_62 rfl (lv_at hl 1 rfl) ?_
                refine va_get (D := D) (ci := 9) (v := .ref a19) (C := RX9) (T := TX9) (N := 32) hx hb hts iw_9 hown hK hP 0 rfl rfl 25 (by decide) (hts (.fieldLink RX9 66 "DepositCodesModel" "doubleB" "[I") (by decide +kernel)) (fun _ h9 => h9) rfl dX9_double2_63 ?_
                refine lv_iload_n hx hb dX9_double2_66 rfl (lv_at hl 2 rfl) ?_
                refine va_iald hx hb hK hP 3 0 rfl rfl (by assumption) dX9_double2_67 ?_
                refine lv_goto (tgt := 72) hx hb dX9_double2_68 (by decide) ?_
                subst hE
                exact W.iret hx hb hr (fun t ht hW => ⟨rfl, by rw [ht]; exact hP, hD, hS.F ht⟩) hS.2.2 dX9_double2_72
            · rw [if_pos c_7] at hE
              refine lv_aload_n hx hb dX9_double2_48 rfl (lv_at hl 1 rfl) ?_
              refine va_get (D := D) (ci := 9) (v := .ref a18) (C := RX9) (T := TX9) (N := 32) hx hb hts iw_9 hown hK hP 0 rfl rfl 24 (by decide) (hts (.fieldLink RX9 63 "DepositCodesModel" "doubleA" "[I") (by decide +kernel)) (fun _ h9 => h9) rfl dX9_double2_49 ?_
              refine lv_iload_n hx hb dX9_double2_52 rfl (lv_at hl 2 rfl) ?_
              refine va_iald hx hb hK hP 2 0 rfl rfl (by assumption) dX9_double2_53 ?_
              refine lv_goto (tgt := 72) hx hb dX9_double2_54 (by decide) ?_
              subst hE
              exact W.iret hx hb hr (fun t ht hW => ⟨rfl, by rw [ht]; exact hP, hD, hS.F ht⟩) hS.2.2 dX9_double2_72
        · rw [if_neg c_4] at hE
          refine lv_iconst (v := (-1)) hx hb dX9_double2_27 (by decide) ?_
          subst hE
          exact W.iret hx hb hr (fun t ht hW => ⟨rfl, by rw [ht]; exact hP, hD, hS.F ht⟩) hS.2.2 dX9_double2_28
def FX9_clear_l37 (rpn : Nat) (rsn : Nat → Int64) (rpa : Nat → Int32) (rmt : Nat → Int64) (mo : Int32) (sy : Nat) : Nat → Nat → (Nat → Int64) → (Nat × (Nat → Int64))
  | 0, j, bx => (j, bx)
  | n + 1, j, bx => if rpn ≤ j then (j, bx) else (if (lg_cmp (rmt j) mo.toInt64) = 0 then (if ((rpa j) - (rpa j) / 3 * 3) = (nI sy) then (if (lg_cmp ((((rsn j) / 10) - ((rsn j) / 10) / 10 * 10) - (((rsn j) / 10) - ((rsn j) / 10) / 10 * 10) / 3 * 3) ((nI sy).toInt64)) = 0 then FX9_clear_l37 rpn rsn rpa rmt mo sy n (j + 1) (vp_updL (vp_updL bx sy ((bx sy) - 25)) sy (((vp_updL bx sy ((bx sy) - 25)) sy) + 25)) else FX9_clear_l37 rpn rsn rpa rmt mo sy n (j + 1) (vp_updL (vp_updL bx sy ((bx sy) - 25)) sy (((vp_updL bx sy ((bx sy) - 25)) sy) + 0))) else (if (lg_cmp ((((rsn j) / 10) - ((rsn j) / 10) / 10 * 10) - (((rsn j) / 10) - ((rsn j) / 10) / 10 * 10) / 3 * 3) ((nI sy).toInt64)) = 0 then FX9_clear_l37 rpn rsn rpa rmt mo sy n (j + 1) (vp_updL (vp_updL bx sy ((bx sy) - 0)) sy (((vp_updL bx sy ((bx sy) - 0)) sy) + 25)) else FX9_clear_l37 rpn rsn rpa rmt mo sy n (j + 1) (vp_updL (vp_updL bx sy ((bx sy) - 0)) sy (((vp_updL bx sy ((bx sy) - 0)) sy) + 0)))) else FX9_clear_l37 rpn rsn rpa rmt mo sy n (j + 1) bx)
def FX9_clear_l22 (rpn : Nat) (rsn : Nat → Int64) (rpa : Nat → Int32) (rmt : Nat → Int64) (mo : Int32) : Nat → Nat → Nat → (Nat → Int64) → Int32 × Int32 × (Nat → Int64)
  | 0, _, _, _ => (0, 0, fun _ => 0)
  | n + 1, sy, q, bax => if 3 ≤ sy then (nI q, 0, bax) else (if (lg_cmp (((FX9_clear_l37 rpn rsn rpa rmt mo sy (rpn + 1) 0 (vp_updL bax sy 0)).2) sy) 0) = 0 then FX9_clear_l22 rpn rsn rpa rmt mo n (sy + 1) q ((FX9_clear_l37 rpn rsn rpa rmt mo sy (rpn + 1) 0 (vp_updL bax sy 0)).2) else FX9_clear_l22 rpn rsn rpa rmt mo n (sy + 1) (q + 1) ((FX9_clear_l37 rpn rsn rpa rmt mo sy (rpn + 1) 0 (vp_updL bax sy 0)).2))
def FX9_clear (rpn : Nat) (rsn : Nat → Int64) (rpa : Nat → Int32) (rmt : Nat → Int64) (rba : Nat → Int64) (mo : Int32) : Int32 × Int32 × (Nat → Int64) := if (FX9_isIn mo.toInt64 40000) = 0 then ((-1), 0, rba) else FX9_clear_l22 rpn rsn rpa rmt mo 4 0 0 rba
set_option maxHeartbeats 4000000 in
set_option maxRecDepth 100000 in
theorem kX9_clear (l : Launch) (D : va_G) (cI cJ cZ : ClassId) (w0 : Nat) (a1 : Nat) (a2 : Nat) (a3 : Nat) (a4 : Nat) (a5 : Nat) (a6 : Nat) (a7 : Nat) (a8 : Nat) (a9 : Nat) (a10 : Nat) (a11 : Nat) (a12 : Nat) (a13 : Nat) (a14 : Nat) (a15 : Nat) (a16 : Nat) (a17 : Nat) (a18 : Nat) (a19 : Nat) (a20 : Nat) (a21 : Nat) (a22 : Nat) (a23 : Nat) (rdn : Nat) (rfa : Int32) (rmn : Nat) (rpn : Nat) (rre : Int32) (rrn : Nat) (rfn : Nat) (rkn : Nat) (rcn : Nat) (rsn : Nat → Int64) (rpa : Nat → Int32) (rmt : Nat → Int64) (rba : Nat → Int64) (mo : Int32) (sz : Nat) (hpn : rpn ≤ 200) : Met l yX9_clear wsX9_clear ({ frames := 1, cells := 0, slots := 0, locals := 23 }) (mP D (tz cI cJ cZ) [.ref w0, .int mo] sz [(w0, .inr (9, [.ref a1, .ref a2, .int (nI rdn), .int rfa, .int (nI rmn), .ref a3, .ref a4, .ref a5, .ref a6, .ref a7, .ref a8, .ref a9, .ref a10, .ref a11, .ref a12, .ref a13, .int (nI rpn), .int rre, .ref a14, .ref a15, .int (nI rrn), .ref a16, .int (nI rfn), .ref a17, .ref a18, .ref a19, .int (nI rkn), .ref a20, .ref a21, .int (nI rcn), .ref a22, .ref a23])), (a8, .inl (cJ, 200, .inr (.inl rsn))), (a9, .inl (cI, 200, .inl rpa)), (a11, .inl (cJ, 200, .inr (.inl rmt))), (a23, .inl (cJ, 3, .inr (.inl rba)))]) (mQ D (some (.int ((FX9_clear rpn rsn rpa rmt rba mo).1))) [(w0, .inr (9, [.ref a1, .ref a2, .int (nI rdn), .int ((FX9_clear rpn rsn rpa rmt rba mo).2.1), .int (nI rmn), .ref a3, .ref a4, .ref a5, .ref a6, .ref a7, .ref a8, .ref a9, .ref a10, .ref a11, .ref a12, .ref a13, .int (nI rpn), .int rre, .ref a14, .ref a15, .int (nI rrn), .ref a16, .int (nI rfn), .ref a17, .ref a18, .ref a19, .int (nI rkn), .ref a20, .ref a21, .int (nI rcn), .ref a22, .ref a23])), (a8, .inl (cJ, 200, .inr (.inl rsn))), (a9, .inl (cI, 200, .inl rpa)), (a11, .inl (cJ, 200, .inr (.inl rmt))), (a23, .inl (cJ, 3, .inr (.inl ((FX9_clear rpn rsn rpa rmt rba mo).2.2))))] (va_A [(w0, .inr (9, [.ref a1, .ref a2, .int (nI rdn), .int rfa, .int (nI rmn), .ref a3, .ref a4, .ref a5, .ref a6, .ref a7, .ref a8, .ref a9, .ref a10, .ref a11, .ref a12, .ref a13, .int (nI rpn), .int rre, .ref a14, .ref a15, .int (nI rrn), .ref a16, .int (nI rfn), .ref a17, .ref a18, .ref a19, .int (nI rkn), .ref a20, .ref a21, .int (nI rcn), .ref a22, .ref a23])), (a8, .inl (cJ, 200, .inr (.inl rsn))), (a9, .inl (cI, 200, .inl rpa)), (a11, .inl (cJ, 200, .inr (.inl rmt))), (a23, .inl (cJ, 3, .inr (.inl rba)))] sz)) 0 0 (va_A [(w0, .inr (9, [.ref a1, .ref a2, .int (nI rdn), .int rfa, .int (nI rmn), .ref a3, .ref a4, .ref a5, .ref a6, .ref a7, .ref a8, .ref a9, .ref a10, .ref a11, .ref a12, .ref a13, .int (nI rpn), .int rre, .ref a14, .ref a15, .int (nI rrn), .ref a16, .int (nI rfn), .ref a17, .ref a18, .ref a19, .int (nI rkn), .ref a20, .ref a21, .int (nI rcn), .ref a22, .ref a23])), (a8, .inl (cJ, 200, .inr (.inl rsn))), (a9, .inl (cI, 200, .inl rpa)), (a11, .inl (cJ, 200, .inr (.inl rmt))), (a23, .inl (cJ, 3, .inr (.inl rba)))] sz) := by
  refine Met.ofW (cc := cX9_clear) (maxL := 5) (ret := (some .int)) (by decide) rfl ?_
  intro p e s m args below meth c s₁ B hml hv
  obtain ⟨rfl, hsz, hP, hK, hD0, hN⟩ := hv
  have hx := B.exec
  have hb := B.bytes
  have hr := B.returns
  have hts := atoms_spec (ws := wsX9_clear) B.pre
  have hown : s.vm.findClass RX9 = some m.cls := findClass_of_methodNamed B.named
  have hlocks := B.notSynchronized
  have iw_9 : ∀ w ∈ u_ws RX9 TX9 32, w ∈ wsX9_clear := by decide +kernel
  subst hsz
  have hD := hD0.self (sz := s.heap.size)
  generalize hE : FX9_clear rpn rsn rpa rmt rba mo = R0
  generalize hAe : va_A [(w0, .inr (9, [.ref a1, .ref a2, .int (nI rdn), .int rfa, .int (nI rmn), .ref a3, .ref a4, .ref a5, .ref a6, .ref a7, .ref a8, .ref a9, .ref a10, .ref a11, .ref a12, .ref a13, .int (nI rpn), .int rre, .ref a14, .ref a15, .int (nI rrn), .ref a16, .int (nI rfn), .ref a17, .ref a18, .ref a19, .int (nI rkn), .ref a20, .ref a21, .int (nI rcn), .ref a22, .ref a23])), (a8, .inl (cJ, 200, .inr (.inl rsn))), (a9, .inl (cI, 200, .inl rpa)), (a11, .inl (cJ, 200, .inr (.inl rmt))), (a23, .inl (cJ, 3, .inr (.inl rba)))] s.heap.size = A at hD ⊢
  have hA : ∀ q : Nat, s.heap.size ≤ q → A q := fun q h => by rw [← hAe]; exact Or.inr h
  have hS : va_S A s.heap s.heap [] := va_S.rf
  rw [FX9_clear] at hE
  have hl := lv_entry ([.ref w0, .int mo]) (n := 5) (Nat.le_of_ble_eq_true rfl)
  rw [lg_entry_eq]
  generalize (lg_sl ([.ref w0, .int mo]) ++ List.replicate (5 - (lg_sl ([.ref w0, .int mo])).length) Slot.unset).toArray = ls at hl ⊢
  have hl : lv_has ls 5 [(0, .ref w0), (1, .int mo)] := hl
  have loop_22 : ∀ (n : Nat) (sy : Nat) (q : Nat) (bax : Nat → Int64), sy ≤ 3 → sy + n = 4 → FX9_clear_l22 rpn rsn rpa rmt mo n sy q bax = R0 → ∀ (H : Heap) (locs : List Loc), va_P D vwCl [(w0, .inr (9, [.ref a1, .ref a2, .int (nI rdn), .int 0, .int (nI rmn), .ref a3, .ref a4, .ref a5, .ref a6, .ref a7, .ref a8, .ref a9, .ref a10, .ref a11, .ref a12, .ref a13, .int (nI rpn), .int rre, .ref a14, .ref a15, .int (nI rrn), .ref a16, .int (nI rfn), .ref a17, .ref a18, .ref a19, .int (nI rkn), .ref a20, .ref a21, .int (nI rcn), .ref a22, .ref a23])), (a8, .inl (cJ, 200, .inr (.inl rsn))), (a9, .inl (cI, 200, .inl rpa)), (a11, .inl (cJ, 200, .inr (.inl rmt))), (a23, .inl (cJ, 3, .inr (.inl bax)))] H → va_D A [(w0, .inr (9, [.ref a1, .ref a2, .int (nI rdn), .int 0, .int (nI rmn), .ref a3, .ref a4, .ref a5, .ref a6, .ref a7, .ref a8, .ref a9, .ref a10, .ref a11, .ref a12, .ref a13, .int (nI rpn), .int rre, .ref a14, .ref a15, .int (nI rrn), .ref a16, .int (nI rfn), .ref a17, .ref a18, .ref a19, .int (nI rkn), .ref a20, .ref a21, .int (nI rcn), .ref a22, .ref a23])), (a8, .inl (cJ, 200, .inr (.inl rsn))), (a9, .inl (cI, 200, .inl rpa)), (a11, .inl (cJ, 200, .inr (.inl rmt))), (a23, .inl (cJ, 3, .inr (.inl bax)))] → va_S A s.heap H locs → ∀ ls : Array Slot, lv_has ls 5 [(3, .int (nI sy)), (2, .int (nI q)), (0, .ref w0), (1, .int mo)] → W p l e (headSpec wsX9_clear ({ frames := 1, cells := 0, slots := 0, locals := 23 })).room s m ([.ref w0, .int mo] : List Value).toArray below meth c H locs 0 0 (MQ below (mQ D (some (.int R0.1)) [(w0, .inr (9, [.ref a1, .ref a2, .int (nI rdn), .int R0.2.1, .int (nI rmn), .ref a3, .ref a4, .ref a5, .ref a6, .ref a7, .ref a8, .ref a9, .ref a10, .ref a11, .ref a12, .ref a13, .int (nI rpn), .int rre, .ref a14, .ref a15, .int (nI rrn), .ref a16, .int (nI rfn), .ref a17, .ref a18, .ref a19, .int (nI rkn), .ref a20, .ref a21, .int (nI rcn), .ref a22, .ref a23])), (a8, .inl (cJ, 200, .inr (.inl rsn))), (a9, .inl (cI, 200, .inl rpa)), (a11, .inl (cJ, 200, .inr (.inl rmt))), (a23, .inl (cJ, 3, .inr (.inl R0.2.2)))] A) ([.ref w0, .int mo] : List Value).toArray s 0 0 A) (F0 m 22 ls []) := by
    intro n
    induction n with
    | zero =>
      intro sy q bax i_1 i_2
      exact absurd i_1 (by omega)
    | succ n ih =>
      intro sy q bax i_1 i_2 hE H locs hP hD hS ls hl
      rw [FX9_clear_l22] at hE
      refine lv_iload_n hx hb dX9_clear_22 rfl (lv_at hl 0 rfl) ?_
      refine lv_iconst (v := 3) hx hb dX9_clear_23 (by decide) ?_
      refine lv_icmp_ge (tgt := 160) hx hb dX9_clear_24 (by decide) (fun c_2 => ?_) (fun c_2 => ?_)
      · have c_2 : 3 ≤ sy := (nI_leI (a := 3) (b := sy) (by omega) (by omega)).mp c_2
        rw [if_pos c_2] at hE
        refine lv_iload_n hx hb dX9_clear_160 rfl (lv_at hl 1 rfl) ?_
        subst hE
        exact W.iret hx hb hr (fun t ht hW => ⟨rfl, by rw [ht]; exact hP, hD, hS.F ht⟩) hS.2.2 dX9_clear_161
      · have c_2 : ¬ 3 ≤ sy := fun h9 => c_2 ((nI_leI (a := 3) (b := sy) (by omega) (by omega)).mpr h9)
        rw [if_neg c_2] at hE
        refine lv_aload_n hx hb dX9_clear_27 rfl (lv_at hl 2 rfl) ?_
        refine va_get (D := D) (ci := 9) (v := .ref a23) (C := RX9) (T := TX9) (N := 32) hx hb hts iw_9 hown hK hP 0 rfl rfl 31 (by decide) (hts (.fieldLink RX9 78 "DepositCodesModel" "balances" "[J") (by decide +kernel)) (fun _ h9 => h9) rfl dX9_clear_28 ?_
        refine lv_iload_n hx hb dX9_clear_31 rfl (lv_at hl 0 rfl) ?_
        refine lv_lconst (v := 0) hx hb dX9_clear_32 (by decide) ?_
        refine na_last hx hb hK hP hD hS 4 1 rfl rfl (by omega) (by decide) dX9_clear_33 (fun H locs hP hD hS => ?_)
        have hP : va_P D vwCl [(w0, .inr (9, [.ref a1, .ref a2, .int (nI rdn), .int 0, .int (nI rmn), .ref a3, .ref a4, .ref a5, .ref a6, .ref a7, .ref a8, .ref a9, .ref a10, .ref a11, .ref a12, .ref a13, .int (nI rpn), .int rre, .ref a14, .ref a15, .int (nI rrn), .ref a16, .int (nI rfn), .ref a17, .ref a18, .ref a19, .int (nI rkn), .ref a20, .ref a21, .int (nI rcn), .ref a22, .ref a23])), (a8, .inl (cJ, 200, .inr (.inl rsn))), (a9, .inl (cI, 200, .inl rpa)), (a11, .inl (cJ, 200, .inr (.inl rmt))), (a23, .inl (cJ, 3, .inr (.inl (vp_updL bax sy 0))))] H := hP
        have hD : va_D A [(w0, .inr (9, [.ref a1, .ref a2, .int (nI rdn), .int 0, .int (nI rmn), .ref a3, .ref a4, .ref a5, .ref a6, .ref a7, .ref a8, .ref a9, .ref a10, .ref a11, .ref a12, .ref a13, .int (nI rpn), .int rre, .ref a14, .ref a15, .int (nI rrn), .ref a16, .int (nI rfn), .ref a17, .ref a18, .ref a19, .int (nI rkn), .ref a20, .ref a21, .int (nI rcn), .ref a22, .ref a23])), (a8, .inl (cJ, 200, .inr (.inl rsn))), (a9, .inl (cI, 200, .inl rpa)), (a11, .inl (cJ, 200, .inr (.inl rmt))), (a23, .inl (cJ, 3, .inr (.inl (vp_updL bax sy 0))))] := hD
        refine lv_iconst (v := 0) hx hb dX9_clear_34 (by decide) ?_
        refine lv_istore (lv' := [(4, .int 0), (3, .int (nI sy)), (2, .int (nI q)), (0, .ref w0), (1, .int mo)]) hx hb dX9_clear_35 hl (by decide) rfl (fun ls hl => ?_)
        have loop_37 : ∀ (n : Nat) (j : Nat) (bx : Nat → Int64), j ≤ rpn → j + n = rpn + 1 → ∀ R1 : Nat × (Nat → Int64), FX9_clear_l37 rpn rsn rpa rmt mo sy n j bx = R1 → ∀ (H : Heap) (locs : List Loc), va_P D vwCl [(w0, .inr (9, [.ref a1, .ref a2, .int (nI rdn), .int 0, .int (nI rmn), .ref a3, .ref a4, .ref a5, .ref a6, .ref a7, .ref a8, .ref a9, .ref a10, .ref a11, .ref a12, .ref a13, .int (nI rpn), .int rre, .ref a14, .ref a15, .int (nI rrn), .ref a16, .int (nI rfn), .ref a17, .ref a18, .ref a19, .int (nI rkn), .ref a20, .ref a21, .int (nI rcn), .ref a22, .ref a23])), (a8, .inl (cJ, 200, .inr (.inl rsn))), (a9, .inl (cI, 200, .inl rpa)), (a11, .inl (cJ, 200, .inr (.inl rmt))), (a23, .inl (cJ, 3, .inr (.inl bx)))] H → va_D A [(w0, .inr (9, [.ref a1, .ref a2, .int (nI rdn), .int 0, .int (nI rmn), .ref a3, .ref a4, .ref a5, .ref a6, .ref a7, .ref a8, .ref a9, .ref a10, .ref a11, .ref a12, .ref a13, .int (nI rpn), .int rre, .ref a14, .ref a15, .int (nI rrn), .ref a16, .int (nI rfn), .ref a17, .ref a18, .ref a19, .int (nI rkn), .ref a20, .ref a21, .int (nI rcn), .ref a22, .ref a23])), (a8, .inl (cJ, 200, .inr (.inl rsn))), (a9, .inl (cI, 200, .inl rpa)), (a11, .inl (cJ, 200, .inr (.inl rmt))), (a23, .inl (cJ, 3, .inr (.inl bx)))] → va_S A s.heap H locs → ∀ ls : Array Slot, lv_has ls 5 [(4, .int (nI j)), (3, .int (nI sy)), (2, .int (nI q)), (0, .ref w0), (1, .int mo)] → (∀ (H : Heap) (locs : List Loc), va_P D vwCl [(w0, .inr (9, [.ref a1, .ref a2, .int (nI rdn), .int 0, .int (nI rmn), .ref a3, .ref a4, .ref a5, .ref a6, .ref a7, .ref a8, .ref a9, .ref a10, .ref a11, .ref a12, .ref a13, .int (nI rpn), .int rre, .ref a14, .ref a15, .int (nI rrn), .ref a16, .int (nI rfn), .ref a17, .ref a18, .ref a19, .int (nI rkn), .ref a20, .ref a21, .int (nI rcn), .ref a22, .ref a23])), (a8, .inl (cJ, 200, .inr (.inl rsn))), (a9, .inl (cI, 200, .inl rpa)), (a11, .inl (cJ, 200, .inr (.inl rmt))), (a23, .inl (cJ, 3, .inr (.inl R1.2)))] H → va_D A [(w0, .inr (9, [.ref a1, .ref a2, .int (nI rdn), .int 0, .int (nI rmn), .ref a3, .ref a4, .ref a5, .ref a6, .ref a7, .ref a8, .ref a9, .ref a10, .ref a11, .ref a12, .ref a13, .int (nI rpn), .int rre, .ref a14, .ref a15, .int (nI rrn), .ref a16, .int (nI rfn), .ref a17, .ref a18, .ref a19, .int (nI rkn), .ref a20, .ref a21, .int (nI rcn), .ref a22, .ref a23])), (a8, .inl (cJ, 200, .inr (.inl rsn))), (a9, .inl (cI, 200, .inl rpa)), (a11, .inl (cJ, 200, .inr (.inl rmt))), (a23, .inl (cJ, 3, .inr (.inl R1.2)))] → va_S A s.heap H locs → ∀ ls : Array Slot, lv_has ls 5 [(4, .int (nI R1.1)), (3, .int (nI sy)), (2, .int (nI q)), (0, .ref w0), (1, .int mo)] → W p l e (headSpec wsX9_clear ({ frames := 1, cells := 0, slots := 0, locals := 23 })).room s m ([.ref w0, .int mo] : List Value).toArray below meth c H locs 0 0 (MQ below (mQ D (some (.int R0.1)) [(w0, .inr (9, [.ref a1, .ref a2, .int (nI rdn), .int R0.2.1, .int (nI rmn), .ref a3, .ref a4, .ref a5, .ref a6, .ref a7, .ref a8, .ref a9, .ref a10, .ref a11, .ref a12, .ref a13, .int (nI rpn), .int rre, .ref a14, .ref a15, .int (nI rrn), .ref a16, .int (nI rfn), .ref a17, .ref a18, .ref a19, .int (nI rkn), .ref a20, .ref a21, .int (nI rcn), .ref a22, .ref a23])), (a8, .inl (cJ, 200, .inr (.inl rsn))), (a9, .inl (cI, 200, .inl rpa)), (a11, .inl (cJ, 200, .inr (.inl rmt))), (a23, .inl (cJ, 3, .inr (.inl R0.2.2)))] A) ([.ref w0, .int mo] : List Value).toArray s 0 0 A) (F0 m 135 ls [])) → W p l e (headSpec wsX9_clear ({ frames := 1, cells := 0, slots := 0, locals := 23 })).room s m ([.ref w0, .int mo] : List Value).toArray below meth c H locs 0 0 (MQ below (mQ D (some (.int R0.1)) [(w0, .inr (9, [.ref a1, .ref a2, .int (nI rdn), .int R0.2.1, .int (nI rmn), .ref a3, .ref a4, .ref a5, .ref a6, .ref a7, .ref a8, .ref a9, .ref a10, .ref a11, .ref a12, .ref a13, .int (nI rpn), .int rre, .ref a14, .ref a15, .int (nI rrn), .ref a16, .int (nI rfn), .ref a17, .ref a18, .ref a19, .int (nI rkn), .ref a20, .ref a21, .int (nI rcn), .ref a22, .ref a23])), (a8, .inl (cJ, 200, .inr (.inl rsn))), (a9, .inl (cI, 200, .inl rpa)), (a11, .inl (cJ, 200, .inr (.inl rmt))), (a23, .inl (cJ, 3, .inr (.inl R0.2.2)))] A) ([.ref w0, .int mo] : List Value).toArray s 0 0 A) (F0 m 37 ls []) := by
          intro n
          induction n with
          | zero =>
            intro j bx j_1 j_2
            exact absurd j_1 (by omega)
          | succ n ih =>
            intro j bx j_1 j_2 R1 hE H locs hP hD hS ls hl hG
            rw [FX9_clear_l37] at hE
            refine lv_iload hx hb dX9_clear_37 (lv_at hl 0 rfl) ?_
            refine lv_aload_n hx hb dX9_clear_39 rfl (lv_at hl 3 rfl) ?_
            refine va_get (D := D) (ci := 9) (v := .int (nI rpn)) (C := RX9) (T := TX9) (N := 32) hx hb hts iw_9 hown hK hP 0 rfl rfl 16 (by decide) (hts (.fieldLink RX9 140 "DepositCodesModel" "paid" "I") (by decide +kernel)) (fun _ h9 => h9) rfl dX9_clear_40 ?_
            refine lv_icmp_ge (tgt := 135) hx hb dX9_clear_43 (by decide) (fun c_3 => ?_) (fun c_3 => ?_)
            · have c_3 : rpn ≤ j := (nI_leI (a := rpn) (b := j) (by omega) (by omega)).mp c_3
              rw [if_pos c_3] at hE
              subst hE
              exact hG _ _ hP hD hS ls (lv_sub hl [0, 1, 2, 3, 4] rfl)
            · have c_3 : ¬ rpn ≤ j := fun h9 => c_3 ((nI_leI (a := rpn) (b := j) (by omega) (by omega)).mpr h9)
              rw [if_neg c_3] at hE
              refine lv_aload_n hx hb dX9_clear_46 rfl (lv_at hl 3 rfl) ?_
              refine va_get (D := D) (ci := 9) (v := .ref a11) (C := RX9) (T := TX9) (N := 32) hx hb hts iw_9 hown hK hP 0 rfl rfl 13 (by decide) (hts (.fieldLink RX9 42 "DepositCodesModel" "months" "[J") (by decide +kernel)) (fun _ h9 => h9) rfl dX9_clear_47 ?_
              refine lv_iload hx hb dX9_clear_50 (lv_at hl 0 rfl) ?_
              refine na_lald hx hb hK hP 3 1 rfl rfl (by omega) (by decide) dX9_clear_52 ?_
              refine lv_iload_n hx hb dX9_clear_53 rfl (lv_at hl 4 rfl) ?_
              refine lv_i2l hx hb dX9_clear_54 rfl ?_
              refine W.lcmp hx hb dX9_clear_55 ?_
              refine lv_if_ne (tgt := 129) hx hb dX9_clear_56 (by decide) (fun c_4 => ?_) (fun c_4 => ?_)
              · rw [if_neg c_4] at hE
                refine lv_iinc (v := nI (j + 1)) (lv' := [(4, .int (nI (j + 1))), (3, .int (nI sy)), (2, .int (nI q)), (0, .ref w0), (1, .int mo)]) hx hb dX9_clear_129 hl (k := 0) rfl (nI_1 j) (by decide) rfl (fun ls hl => ?_)
                refine lv_goto (tgt := 37) hx hb dX9_clear_132 (by decide) ?_
                exact ih (j + 1) bx (by omega) (by omega) _ hE _ _ hP hD hS ls (lv_sub hl [0, 1, 2, 3, 4] rfl) hG
              · rw [if_pos c_4] at hE
                refine lv_aload_n hx hb dX9_clear_59 rfl (lv_at hl 3 rfl) ?_
                refine va_get (D := D) (ci := 9) (v := .ref a23) (C := RX9) (T := TX9) (N := 32) hx hb hts iw_9 hown hK hP 0 rfl rfl 31 (by decide) (hts (.fieldLink RX9 78 "DepositCodesModel" "balances" "[J") (by decide +kernel)) (fun _ h9 => h9) rfl dX9_clear_60 ?_
                refine lv_iload_n hx hb dX9_clear_63 rfl (lv_at hl 1 rfl) ?_
                refine lv_dup2_11 hx hb dX9_clear_64 rfl rfl ?_
                refine na_lald hx hb hK hP 4 1 rfl rfl (by omega) (by decide) dX9_clear_65 ?_
                refine lv_aload_n hx hb dX9_clear_66 rfl (lv_at hl 3 rfl) ?_
                refine va_get (D := D) (ci := 9) (v := .ref a9) (C := RX9) (T := TX9) (N := 32) hx hb hts iw_9 hown hK hP 0 rfl rfl 11 (by decide) (hts (.fieldLink RX9 36 "DepositCodesModel" "payers" "[I") (by decide +kernel)) (fun _ h9 => h9) rfl dX9_clear_67 ?_
                refine lv_iload hx hb dX9_clear_70 (lv_at hl 0 rfl) ?_
                refine na_iald hx hb hK hP 2 0 rfl rfl (by omega) (by decide) dX9_clear_72 ?_
                refine lv_iconst (v := 3) hx hb dX9_clear_73 (by decide) ?_
                refine lv_irem hx hb dX9_clear_74 (by decide) ?_
                refine lv_iload_n hx hb dX9_clear_75 rfl (lv_at hl 1 rfl) ?_
                refine lv_icmp_ne (tgt := 85) hx hb dX9_clear_76 (by decide) (fun c_5 => ?_) (fun c_5 => ?_)
                · rw [if_neg c_5] at hE
                  refine lv_lconst (v := 0) hx hb dX9_clear_85 (by decide) ?_
                  refine lv_lsub hx hb dX9_clear_86 ?_
                  refine na_last hx hb hK hP hD hS 4 1 rfl rfl (by omega) (by decide) dX9_clear_87 (fun H locs hP hD hS => ?_)
                  have hP : va_P D vwCl [(w0, .inr (9, [.ref a1, .ref a2, .int (nI rdn), .int 0, .int (nI rmn), .ref a3, .ref a4, .ref a5, .ref a6, .ref a7, .ref a8, .ref a9, .ref a10, .ref a11, .ref a12, .ref a13, .int (nI rpn), .int rre, .ref a14, .ref a15, .int (nI rrn), .ref a16, .int (nI rfn), .ref a17, .ref a18, .ref a19, .int (nI rkn), .ref a20, .ref a21, .int (nI rcn), .ref a22, .ref a23])), (a8, .inl (cJ, 200, .inr (.inl rsn))), (a9, .inl (cI, 200, .inl rpa)), (a11, .inl (cJ, 200, .inr (.inl rmt))), (a23, .inl (cJ, 3, .inr (.inl (vp_updL bx sy ((bx sy) - 0)))))] H := hP
                  have hD : va_D A [(w0, .inr (9, [.ref a1, .ref a2, .int (nI rdn), .int 0, .int (nI rmn), .ref a3, .ref a4, .ref a5, .ref a6, .ref a7, .ref a8, .ref a9, .ref a10, .ref a11, .ref a12, .ref a13, .int (nI rpn), .int rre, .ref a14, .ref a15, .int (nI rrn), .ref a16, .int (nI rfn), .ref a17, .ref a18, .ref a19, .int (nI rkn), .ref a20, .ref a21, .int (nI rcn), .ref a22, .ref a23])), (a8, .inl (cJ, 200, .inr (.inl rsn))), (a9, .inl (cI, 200, .inl rpa)), (a11, .inl (cJ, 200, .inr (.inl rmt))), (a23, .inl (cJ, 3, .inr (.inl (vp_updL bx sy ((bx sy) - 0)))))] := hD
                  refine lv_aload_n hx hb dX9_clear_88 rfl (lv_at hl 3 rfl) ?_
                  refine va_get (D := D) (ci := 9) (v := .ref a23) (C := RX9) (T := TX9) (N := 32) hx hb hts iw_9 hown hK hP 0 rfl rfl 31 (by decide) (hts (.fieldLink RX9 78 "DepositCodesModel" "balances" "[J") (by decide +kernel)) (fun _ h9 => h9) rfl dX9_clear_89 ?_
                  refine lv_iload_n hx hb dX9_clear_92 rfl (lv_at hl 1 rfl) ?_
                  refine lv_dup2_11 hx hb dX9_clear_93 rfl rfl ?_
                  refine na_lald hx hb hK hP 4 1 rfl rfl (by omega) (by decide) dX9_clear_94 ?_
                  refine lv_aload_n hx hb dX9_clear_95 rfl (lv_at hl 3 rfl) ?_
                  refine va_get (D := D) (ci := 9) (v := .ref a8) (C := RX9) (T := TX9) (N := 32) hx hb hts iw_9 hown hK hP 0 rfl rfl 10 (by decide) (hts (.fieldLink RX9 32 "DepositCodesModel" "serials" "[J") (by decide +kernel)) (fun _ h9 => h9) rfl dX9_clear_96 ?_
                  refine lv_iload hx hb dX9_clear_99 (lv_at hl 0 rfl) ?_
                  refine na_lald hx hb hK hP 1 1 rfl rfl (by omega) (by decide) dX9_clear_101 ?_
                  refine lv_ldc2 hx hb hown (hts (.constantLong RX9 115 10) (by decide +kernel)) dX9_clear_102 ?_
                  refine lv_ldiv hx hb dX9_clear_105 (by decide) ?_
                  refine lv_ldc2 hx hb hown (hts (.constantLong RX9 115 10) (by decide +kernel)) dX9_clear_106 ?_
                  refine lv_lrem hx hb dX9_clear_109 (by decide) ?_
                  refine lv_ldc2 hx hb hown (hts (.constantLong RX9 192 3) (by decide +kernel)) dX9_clear_110 ?_
                  refine lv_lrem hx hb dX9_clear_113 (by decide) ?_
                  refine lv_iload_n hx hb dX9_clear_114 rfl (lv_at hl 1 rfl) ?_
                  refine lv_i2l hx hb dX9_clear_115 rfl ?_
                  refine W.lcmp hx hb dX9_clear_116 ?_
                  refine lv_if_ne (tgt := 126) hx hb dX9_clear_117 (by decide) (fun c_6 => ?_) (fun c_6 => ?_)
                  · rw [if_neg c_6] at hE
                    refine lv_lconst (v := 0) hx hb dX9_clear_126 (by decide) ?_
                    refine lv_ladd hx hb dX9_clear_127 ?_
                    refine na_last hx hb hK hP hD hS 4 1 rfl rfl (by omega) (by decide) dX9_clear_128 (fun H locs hP hD hS => ?_)
                    have hP : va_P D vwCl [(w0, .inr (9, [.ref a1, .ref a2, .int (nI rdn), .int 0, .int (nI rmn), .ref a3, .ref a4, .ref a5, .ref a6, .ref a7, .ref a8, .ref a9, .ref a10, .ref a11, .ref a12, .ref a13, .int (nI rpn), .int rre, .ref a14, .ref a15, .int (nI rrn), .ref a16, .int (nI rfn), .ref a17, .ref a18, .ref a19, .int (nI rkn), .ref a20, .ref a21, .int (nI rcn), .ref a22, .ref a23])), (a8, .inl (cJ, 200, .inr (.inl rsn))), (a9, .inl (cI, 200, .inl rpa)), (a11, .inl (cJ, 200, .inr (.inl rmt))), (a23, .inl (cJ, 3, .inr (.inl (vp_updL (vp_updL bx sy ((bx sy) - 0)) sy (((vp_updL bx sy ((bx sy) - 0)) sy) + 0)))))] H := hP
                    have hD : va_D A [(w0, .inr (9, [.ref a1, .ref a2, .int (nI rdn), .int 0, .int (nI rmn), .ref a3, .ref a4, .ref a5, .ref a6, .ref a7, .ref a8, .ref a9, .ref a10, .ref a11, .ref a12, .ref a13, .int (nI rpn), .int rre, .ref a14, .ref a15, .int (nI rrn), .ref a16, .int (nI rfn), .ref a17, .ref a18, .ref a19, .int (nI rkn), .ref a20, .ref a21, .int (nI rcn), .ref a22, .ref a23])), (a8, .inl (cJ, 200, .inr (.inl rsn))), (a9, .inl (cI, 200, .inl rpa)), (a11, .inl (cJ, 200, .inr (.inl rmt))), (a23, .inl (cJ, 3, .inr (.inl (vp_updL (vp_updL bx sy ((bx sy) - 0)) sy (((vp_updL bx sy ((bx sy) - 0)) sy) + 0)))))] := hD
                    refine lv_iinc (v := nI (j + 1)) (lv' := [(4, .int (nI (j + 1))), (3, .int (nI sy)), (2, .int (nI q)), (0, .ref w0), (1, .int mo)]) hx hb dX9_clear_129 hl (k := 0) rfl (nI_1 j) (by decide) rfl (fun ls hl => ?_)
                    refine lv_goto (tgt := 37) hx hb dX9_clear_132 (by decide) ?_
                    exact ih (j + 1) (vp_updL (vp_updL bx sy ((bx sy) - 0)) sy (((vp_updL bx sy ((bx sy) - 0)) sy) + 0)) (by omega) (by omega) _ hE _ _ hP hD hS ls (lv_sub hl [0, 1, 2, 3, 4] rfl) hG
                  · rw [if_pos c_6] at hE
                    refine lv_ldc2 hx hb hown (hts (.constantLong RX9 190 25) (by decide +kernel)) dX9_clear_120 ?_
                    refine lv_goto (tgt := 127) hx hb dX9_clear_123 (by decide) ?_
                    refine lv_ladd hx hb dX9_clear_127 ?_
                    refine na_last hx hb hK hP hD hS 4 1 rfl rfl (by omega) (by decide) dX9_clear_128 (fun H locs hP hD hS => ?_)
                    have hP : va_P D vwCl [(w0, .inr (9, [.ref a1, .ref a2, .int (nI rdn), .int 0, .int (nI rmn), .ref a3, .ref a4, .ref a5, .ref a6, .ref a7, .ref a8, .ref a9, .ref a10, .ref a11, .ref a12, .ref a13, .int (nI rpn), .int rre, .ref a14, .ref a15, .int (nI rrn), .ref a16, .int (nI rfn), .ref a17, .ref a18, .ref a19, .int (nI rkn), .ref a20, .ref a21, .int (nI rcn), .ref a22, .ref a23])), (a8, .inl (cJ, 200, .inr (.inl rsn))), (a9, .inl (cI, 200, .inl rpa)), (a11, .inl (cJ, 200, .inr (.inl rmt))), (a23, .inl (cJ, 3, .inr (.inl (vp_updL (vp_updL bx sy ((bx sy) - 0)) sy (((vp_updL bx sy ((bx sy) - 0)) sy) + 25)))))] H := hP
                    have hD : va_D A [(w0, .inr (9, [.ref a1, .ref a2, .int (nI rdn), .int 0, .int (nI rmn), .ref a3, .ref a4, .ref a5, .ref a6, .ref a7, .ref a8, .ref a9, .ref a10, .ref a11, .ref a12, .ref a13, .int (nI rpn), .int rre, .ref a14, .ref a15, .int (nI rrn), .ref a16, .int (nI rfn), .ref a17, .ref a18, .ref a19, .int (nI rkn), .ref a20, .ref a21, .int (nI rcn), .ref a22, .ref a23])), (a8, .inl (cJ, 200, .inr (.inl rsn))), (a9, .inl (cI, 200, .inl rpa)), (a11, .inl (cJ, 200, .inr (.inl rmt))), (a23, .inl (cJ, 3, .inr (.inl (vp_updL (vp_updL bx sy ((bx sy) - 0)) sy (((vp_updL bx sy ((bx sy) - 0)) sy) + 25)))))] := hD
                    refine lv_iinc (v := nI (j + 1)) (lv' := [(4, .int (nI (j + 1))), (3, .int (nI sy)), (2, .int (nI q)), (0, .ref w0), (1, .int mo)]) hx hb dX9_clear_129 hl (k := 0) rfl (nI_1 j) (by decide) rfl (fun ls hl => ?_)
                    refine lv_goto (tgt := 37) hx hb dX9_clear_132 (by decide) ?_
                    exact ih (j + 1) (vp_updL (vp_updL bx sy ((bx sy) - 0)) sy (((vp_updL bx sy ((bx sy) - 0)) sy) + 25)) (by omega) (by omega) _ hE _ _ hP hD hS ls (lv_sub hl [0, 1, 2, 3, 4] rfl) hG
                · rw [if_pos c_5] at hE
                  refine lv_ldc2 hx hb hown (hts (.constantLong RX9 190 25) (by decide +kernel)) dX9_clear_79 ?_
                  refine lv_goto (tgt := 86) hx hb dX9_clear_82 (by decide) ?_
                  refine lv_lsub hx hb dX9_clear_86 ?_
                  refine na_last hx hb hK hP hD hS 4 1 rfl rfl (by omega) (by decide) dX9_clear_87 (fun H locs hP hD hS => ?_)
                  have hP : va_P D vwCl [(w0, .inr (9, [.ref a1, .ref a2, .int (nI rdn), .int 0, .int (nI rmn), .ref a3, .ref a4, .ref a5, .ref a6, .ref a7, .ref a8, .ref a9, .ref a10, .ref a11, .ref a12, .ref a13, .int (nI rpn), .int rre, .ref a14, .ref a15, .int (nI rrn), .ref a16, .int (nI rfn), .ref a17, .ref a18, .ref a19, .int (nI rkn), .ref a20, .ref a21, .int (nI rcn), .ref a22, .ref a23])), (a8, .inl (cJ, 200, .inr (.inl rsn))), (a9, .inl (cI, 200, .inl rpa)), (a11, .inl (cJ, 200, .inr (.inl rmt))), (a23, .inl (cJ, 3, .inr (.inl (vp_updL bx sy ((bx sy) - 25)))))] H := hP
                  have hD : va_D A [(w0, .inr (9, [.ref a1, .ref a2, .int (nI rdn), .int 0, .int (nI rmn), .ref a3, .ref a4, .ref a5, .ref a6, .ref a7, .ref a8, .ref a9, .ref a10, .ref a11, .ref a12, .ref a13, .int (nI rpn), .int rre, .ref a14, .ref a15, .int (nI rrn), .ref a16, .int (nI rfn), .ref a17, .ref a18, .ref a19, .int (nI rkn), .ref a20, .ref a21, .int (nI rcn), .ref a22, .ref a23])), (a8, .inl (cJ, 200, .inr (.inl rsn))), (a9, .inl (cI, 200, .inl rpa)), (a11, .inl (cJ, 200, .inr (.inl rmt))), (a23, .inl (cJ, 3, .inr (.inl (vp_updL bx sy ((bx sy) - 25)))))] := hD
                  refine lv_aload_n hx hb dX9_clear_88 rfl (lv_at hl 3 rfl) ?_
                  refine va_get (D := D) (ci := 9) (v := .ref a23) (C := RX9) (T := TX9) (N := 32) hx hb hts iw_9 hown hK hP 0 rfl rfl 31 (by decide) (hts (.fieldLink RX9 78 "DepositCodesModel" "balances" "[J") (by decide +kernel)) (fun _ h9 => h9) rfl dX9_clear_89 ?_
                  refine lv_iload_n hx hb dX9_clear_92 rfl (lv_at hl 1 rfl) ?_
                  refine lv_dup2_11 hx hb dX9_clear_93 rfl rfl ?_
                  refine na_lald hx hb hK hP 4 1 rfl rfl (by omega) (by decide) dX9_clear_94 ?_
                  refine lv_aload_n hx hb dX9_clear_95 rfl (lv_at hl 3 rfl) ?_
                  refine va_get (D := D) (ci := 9) (v := .ref a8) (C := RX9) (T := TX9) (N := 32) hx hb hts iw_9 hown hK hP 0 rfl rfl 10 (by decide) (hts (.fieldLink RX9 32 "DepositCodesModel" "serials" "[J") (by decide +kernel)) (fun _ h9 => h9) rfl dX9_clear_96 ?_
                  refine lv_iload hx hb dX9_clear_99 (lv_at hl 0 rfl) ?_
                  refine na_lald hx hb hK hP 1 1 rfl rfl (by omega) (by decide) dX9_clear_101 ?_
                  refine lv_ldc2 hx hb hown (hts (.constantLong RX9 115 10) (by decide +kernel)) dX9_clear_102 ?_
                  refine lv_ldiv hx hb dX9_clear_105 (by decide) ?_
                  refine lv_ldc2 hx hb hown (hts (.constantLong RX9 115 10) (by decide +kernel)) dX9_clear_106 ?_
                  refine lv_lrem hx hb dX9_clear_109 (by decide) ?_
                  refine lv_ldc2 hx hb hown (hts (.constantLong RX9 192 3) (by decide +kernel)) dX9_clear_110 ?_
                  refine lv_lrem hx hb dX9_clear_113 (by decide) ?_
                  refine lv_iload_n hx hb dX9_clear_114 rfl (lv_at hl 1 rfl) ?_
                  refine lv_i2l hx hb dX9_clear_115 rfl ?_
                  refine W.lcmp hx hb dX9_clear_116 ?_
                  refine lv_if_ne (tgt := 126) hx hb dX9_clear_117 (by decide) (fun c_7 => ?_) (fun c_7 => ?_)
                  · rw [if_neg c_7] at hE
                    refine lv_lconst (v := 0) hx hb dX9_clear_126 (by decide) ?_
                    refine lv_ladd hx hb dX9_clear_127 ?_
                    refine na_last hx hb hK hP hD hS 4 1 rfl rfl (by omega) (by decide) dX9_clear_128 (fun H locs hP hD hS => ?_)
                    have hP : va_P D vwCl [(w0, .inr (9, [.ref a1, .ref a2, .int (nI rdn), .int 0, .int (nI rmn), .ref a3, .ref a4, .ref a5, .ref a6, .ref a7, .ref a8, .ref a9, .ref a10, .ref a11, .ref a12, .ref a13, .int (nI rpn), .int rre, .ref a14, .ref a15, .int (nI rrn), .ref a16, .int (nI rfn), .ref a17, .ref a18, .ref a19, .int (nI rkn), .ref a20, .ref a21, .int (nI rcn), .ref a22, .ref a23])), (a8, .inl (cJ, 200, .inr (.inl rsn))), (a9, .inl (cI, 200, .inl rpa)), (a11, .inl (cJ, 200, .inr (.inl rmt))), (a23, .inl (cJ, 3, .inr (.inl (vp_updL (vp_updL bx sy ((bx sy) - 25)) sy (((vp_updL bx sy ((bx sy) - 25)) sy) + 0)))))] H := hP
                    have hD : va_D A [(w0, .inr (9, [.ref a1, .ref a2, .int (nI rdn), .int 0, .int (nI rmn), .ref a3, .ref a4, .ref a5, .ref a6, .ref a7, .ref a8, .ref a9, .ref a10, .ref a11, .ref a12, .ref a13, .int (nI rpn), .int rre, .ref a14, .ref a15, .int (nI rrn), .ref a16, .int (nI rfn), .ref a17, .ref a18, .ref a19, .int (nI rkn), .ref a20, .ref a21, .int (nI rcn), .ref a22, .ref a23])), (a8, .inl (cJ, 200, .inr (.inl rsn))), (a9, .inl (cI, 200, .inl rpa)), (a11, .inl (cJ, 200, .inr (.inl rmt))), (a23, .inl (cJ, 3, .inr (.inl (vp_updL (vp_updL bx sy ((bx sy) - 25)) sy (((vp_updL bx sy ((bx sy) - 25)) sy) + 0)))))] := hD
                    refine lv_iinc (v := nI (j + 1)) (lv' := [(4, .int (nI (j + 1))), (3, .int (nI sy)), (2, .int (nI q)), (0, .ref w0), (1, .int mo)]) hx hb dX9_clear_129 hl (k := 0) rfl (nI_1 j) (by decide) rfl (fun ls hl => ?_)
                    refine lv_goto (tgt := 37) hx hb dX9_clear_132 (by decide) ?_
                    exact ih (j + 1) (vp_updL (vp_updL bx sy ((bx sy) - 25)) sy (((vp_updL bx sy ((bx sy) - 25)) sy) + 0)) (by omega) (by omega) _ hE _ _ hP hD hS ls (lv_sub hl [0, 1, 2, 3, 4] rfl) hG
                  · rw [if_pos c_7] at hE
                    refine lv_ldc2 hx hb hown (hts (.constantLong RX9 190 25) (by decide +kernel)) dX9_clear_120 ?_
                    refine lv_goto (tgt := 127) hx hb dX9_clear_123 (by decide) ?_
                    refine lv_ladd hx hb dX9_clear_127 ?_
                    refine na_last hx hb hK hP hD hS 4 1 rfl rfl (by omega) (by decide) dX9_clear_128 (fun H locs hP hD hS => ?_)
                    have hP : va_P D vwCl [(w0, .inr (9, [.ref a1, .ref a2, .int (nI rdn), .int 0, .int (nI rmn), .ref a3, .ref a4, .ref a5, .ref a6, .ref a7, .ref a8, .ref a9, .ref a10, .ref a11, .ref a12, .ref a13, .int (nI rpn), .int rre, .ref a14, .ref a15, .int (nI rrn), .ref a16, .int (nI rfn), .ref a17, .ref a18, .ref a19, .int (nI rkn), .ref a20, .ref a21, .int (nI rcn), .ref a22, .ref a23])), (a8, .inl (cJ, 200, .inr (.inl rsn))), (a9, .inl (cI, 200, .inl rpa)), (a11, .inl (cJ, 200, .inr (.inl rmt))), (a23, .inl (cJ, 3, .inr (.inl (vp_updL (vp_updL bx sy ((bx sy) - 25)) sy (((vp_updL bx sy ((bx sy) - 25)) sy) + 25)))))] H := hP
                    have hD : va_D A [(w0, .inr (9, [.ref a1, .ref a2, .int (nI rdn), .int 0, .int (nI rmn), .ref a3, .ref a4, .ref a5, .ref a6, .ref a7, .ref a8, .ref a9, .ref a10, .ref a11, .ref a12, .ref a13, .int (nI rpn), .int rre, .ref a14, .ref a15, .int (nI rrn), .ref a16, .int (nI rfn), .ref a17, .ref a18, .ref a19, .int (nI rkn), .ref a20, .ref a21, .int (nI rcn), .ref a22, .ref a23])), (a8, .inl (cJ, 200, .inr (.inl rsn))), (a9, .inl (cI, 200, .inl rpa)), (a11, .inl (cJ, 200, .inr (.inl rmt))), (a23, .inl (cJ, 3, .inr (.inl (vp_updL (vp_updL bx sy ((bx sy) - 25)) sy (((vp_updL bx sy ((bx sy) - 25)) sy) + 25)))))] := hD
                    refine lv_iinc (v := nI (j + 1)) (lv' := [(4, .int (nI (j + 1))), (3, .int (nI sy)), (2, .int (nI q)), (0, .ref w0), (1, .int mo)]) hx hb dX9_clear_129 hl (k := 0) rfl (nI_1 j) (by decide) rfl (fun ls hl => ?_)
                    refine lv_goto (tgt := 37) hx hb dX9_clear_132 (by decide) ?_
                    exact ih (j + 1) (vp_updL (vp_updL bx sy ((bx sy) - 25)) sy (((vp_updL bx sy ((bx sy) - 25)) sy) + 25)) (by omega) (by omega) _ hE _ _ hP hD hS ls (lv_sub hl [0, 1, 2, 3, 4] rfl) hG
        refine loop_37 (rpn + 1) 0 (vp_updL bax sy 0) (by omega) (by omega) _ rfl _ _ hP hD hS ls (lv_sub hl [0, 1, 2, 3, 4] rfl) (fun H locs hP hD hS ls hl => ?_)
        refine lv_aload_n hx hb dX9_clear_135 rfl (lv_at hl 3 rfl) ?_
        refine va_get (D := D) (ci := 9) (v := .ref a23) (C := RX9) (T := TX9) (N := 32) hx hb hts iw_9 hown hK hP 0 rfl rfl 31 (by decide) (hts (.fieldLink RX9 78 "DepositCodesModel" "balances" "[J") (by decide +kernel)) (fun _ h9 => h9) rfl dX9_clear_136 ?_
        refine lv_iload_n hx hb dX9_clear_139 rfl (lv_at hl 1 rfl) ?_
        refine na_lald hx hb hK hP 4 1 rfl rfl (by omega) (by decide) dX9_clear_140 ?_
        refine lv_lconst (v := 0) hx hb dX9_clear_141 (by decide) ?_
        refine W.lcmp hx hb dX9_clear_142 ?_
        refine lv_if_ne (tgt := 150) hx hb dX9_clear_143 (by decide) (fun c_8 => ?_) (fun c_8 => ?_)
        · rw [if_neg c_8] at hE
          refine lv_iload_n hx hb dX9_clear_150 rfl (lv_at hl 2 rfl) ?_
          refine lv_iconst (v := 1) hx hb dX9_clear_151 (by decide) ?_
          refine lv_iadd hx hb dX9_clear_152 ?_
          refine na_top (show (nI q) + 1 = nI (q + 1) from nI_add q 1) ?_
          refine lv_istore_n (lv' := [(2, .int (nI (q + 1))), (4, .int (nI ((FX9_clear_l37 rpn rsn rpa rmt mo sy (rpn + 1) 0 (vp_updL bax sy 0)).1))), (3, .int (nI sy)), (0, .ref w0), (1, .int mo)]) hx hb dX9_clear_153 rfl hl (by decide) rfl (fun ls hl => ?_)
          refine lv_iinc (v := nI (sy + 1)) (lv' := [(3, .int (nI (sy + 1))), (2, .int (nI (q + 1))), (4, .int (nI ((FX9_clear_l37 rpn rsn rpa rmt mo sy (rpn + 1) 0 (vp_updL bax sy 0)).1))), (0, .ref w0), (1, .int mo)]) hx hb dX9_clear_154 hl (k := 2) rfl (nI_1 sy) (by decide) rfl (fun ls hl => ?_)
          refine lv_goto (tgt := 22) hx hb dX9_clear_157 (by decide) ?_
          exact ih (sy + 1) (q + 1) ((FX9_clear_l37 rpn rsn rpa rmt mo sy (rpn + 1) 0 (vp_updL bax sy 0)).2) (by omega) (by omega) hE _ _ hP hD hS ls (lv_sub hl [0, 1, 3, 4] rfl)
        · rw [if_pos c_8] at hE
          refine lv_iload_n hx hb dX9_clear_146 rfl (lv_at hl 2 rfl) ?_
          refine lv_goto (tgt := 153) hx hb dX9_clear_147 (by decide) ?_
          refine lv_istore_n (lv' := [(2, .int (nI q)), (4, .int (nI ((FX9_clear_l37 rpn rsn rpa rmt mo sy (rpn + 1) 0 (vp_updL bax sy 0)).1))), (3, .int (nI sy)), (0, .ref w0), (1, .int mo)]) hx hb dX9_clear_153 rfl hl (by decide) rfl (fun ls hl => ?_)
          refine lv_iinc (v := nI (sy + 1)) (lv' := [(3, .int (nI (sy + 1))), (2, .int (nI q)), (4, .int (nI ((FX9_clear_l37 rpn rsn rpa rmt mo sy (rpn + 1) 0 (vp_updL bax sy 0)).1))), (0, .ref w0), (1, .int mo)]) hx hb dX9_clear_154 hl (k := 2) rfl (nI_1 sy) (by decide) rfl (fun ls hl => ?_)
          refine lv_goto (tgt := 22) hx hb dX9_clear_157 (by decide) ?_
          exact ih (sy + 1) q ((FX9_clear_l37 rpn rsn rpa rmt mo sy (rpn + 1) 0 (vp_updL bax sy 0)).2) (by omega) (by omega) hE _ _ hP hD hS ls (lv_sub hl [0, 1, 3, 4] rfl)
  refine lv_aload_n hx hb dX9_clear_0 rfl (lv_at hl 0 rfl) ?_
  refine lv_iconst (v := 0) hx hb dX9_clear_1 (by decide) ?_
  refine va_put (D := D) (ci := 9) (v := .int 0) (ty := .int) (C := RX9) (T := TX9) (N := 32) hx hb hts iw_9 tyX9 tyX9_ok nmX9 hown hK hP hD hS 0 rfl rfl 3 (by decide) (hts (.fieldLink RX9 81 "DepositCodesModel" "fault" "I") (by decide +kernel)) (fun _ h9 => h9) rfl (by decide +kernel) rfl rfl (Nat.le_of_ble_eq_true rfl) dX9_clear_2 (fun H locs hP hD hS => ?_)
  have hP : va_P D vwCl [(w0, .inr (9, [.ref a1, .ref a2, .int (nI rdn), .int 0, .int (nI rmn), .ref a3, .ref a4, .ref a5, .ref a6, .ref a7, .ref a8, .ref a9, .ref a10, .ref a11, .ref a12, .ref a13, .int (nI rpn), .int rre, .ref a14, .ref a15, .int (nI rrn), .ref a16, .int (nI rfn), .ref a17, .ref a18, .ref a19, .int (nI rkn), .ref a20, .ref a21, .int (nI rcn), .ref a22, .ref a23])), (a8, .inl (cJ, 200, .inr (.inl rsn))), (a9, .inl (cI, 200, .inl rpa)), (a11, .inl (cJ, 200, .inr (.inl rmt))), (a23, .inl (cJ, 3, .inr (.inl rba)))] H := hP
  have hD : va_D A [(w0, .inr (9, [.ref a1, .ref a2, .int (nI rdn), .int 0, .int (nI rmn), .ref a3, .ref a4, .ref a5, .ref a6, .ref a7, .ref a8, .ref a9, .ref a10, .ref a11, .ref a12, .ref a13, .int (nI rpn), .int rre, .ref a14, .ref a15, .int (nI rrn), .ref a16, .int (nI rfn), .ref a17, .ref a18, .ref a19, .int (nI rkn), .ref a20, .ref a21, .int (nI rcn), .ref a22, .ref a23])), (a8, .inl (cJ, 200, .inr (.inl rsn))), (a9, .inl (cI, 200, .inl rpa)), (a11, .inl (cJ, 200, .inr (.inl rmt))), (a23, .inl (cJ, 3, .inr (.inl rba)))] := hD
  refine lv_iload_n hx hb dX9_clear_5 rfl (lv_at hl 1 rfl) ?_
  refine lv_i2l hx hb dX9_clear_6 rfl ?_
  refine lv_ldc2 hx hb hown (hts (.constantLong RX9 188 40000) (by decide +kernel)) dX9_clear_7 ?_
  refine rd_call (va_runS (As := [.long mo.toInt64, .long 40000]) (rest := []) ⟨hx, hb, hml, hown, hts⟩ (kX9_isIn l D cI cJ cZ mo.toInt64 40000) (va_cwS 2 hts gX9_clear_X9_isIn rfl rfl rfl (by decide +kernel) ⟨Nat.le_of_ble_eq_true rfl, Nat.le_of_ble_eq_true rfl⟩) ⟨rP_blind, rP_pre (va_P_nil) hK hN⟩ rfl rfl hl.1 rfl (lv_room (Nat.le_of_ble_eq_true rfl)) dX9_clear_10 ⟨Nat.zero_le _, Nat.zero_le _⟩) ?_
  refine lv_if_ne (tgt := 18) hx hb dX9_clear_13 (by decide) (fun c_1 => ?_) (fun c_1 => ?_)
  · rw [if_neg c_1] at hE
    refine lv_iconst (v := 0) hx hb dX9_clear_18 (by decide) ?_
    refine lv_istore_n (lv' := [(2, .int 0), (0, .ref w0), (1, .int mo)]) hx hb dX9_clear_19 rfl hl (by decide) rfl (fun ls hl => ?_)
    refine lv_iconst (v := 0) hx hb dX9_clear_20 (by decide) ?_
    refine lv_istore_n (lv' := [(3, .int 0), (2, .int 0), (0, .ref w0), (1, .int mo)]) hx hb dX9_clear_21 rfl hl (by decide) rfl (fun ls hl => ?_)
    exact loop_22 4 0 0 rba (by omega) (by omega) hE _ _ hP hD hS ls (lv_sub hl [0, 1, 2, 3] rfl)
  · rw [if_pos c_1] at hE
    refine lv_iconst (v := (-1)) hx hb dX9_clear_16 (by decide) ?_
    subst hE
    exact W.iret hx hb hr (fun t ht hW => ⟨rfl, by rw [ht]; exact hP, hD, hS.F ht⟩) hS.2.2 dX9_clear_17
