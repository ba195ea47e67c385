theorem i64_lt (x : Int64) : x.toInt < 10 ^ 19 := by
  have := Int64.toInt_lt x
  omega
theorem i64_div10 {r : Int64} (h : 0 < r) : (r / 10).toInt = r.toInt / 10 := by
  rw [Int64.lt_iff_toInt_lt] at h
  have h0 : (0 : Int64).toInt = 0 := rfl
  have h1 := Int64.toInt_lt r
  obtain ⟨k, hk, rfl⟩ := pk_lOf (x := r) (by rw [Int64.lt_iff_toInt_lt]; omega)
  rw [show (10 : Int64) = lN 10 from rfl, pk_lDiv hk (by decide) (by decide), pk_lT hk, pk_lT (by omega)]
  omega
theorem ck_1 {r : Int64} {n : Nat} (h : ¬ lg_cmp r 0 ≤ 0) (hi : r.toInt < 10 ^ (n + 1 - 1)) : 1 ≤ n := by
  rw [lgc_le, Int64.le_iff_toInt_le] at h
  have h0 : (0 : Int64).toInt = 0 := rfl
  cases n with
  | zero => simp at hi; omega
  | succ n => omega
theorem ck_2 {r : Int64} {n : Nat} (h : ¬ lg_cmp r 0 ≤ 0) (hi : r.toInt < 10 ^ (n + 1 - 1)) : (r / 10).toInt < 10 ^ (n - 1) := by
  have h1 := ck_1 h hi
  rw [lgc_le, Int64.le_iff_toInt_le] at h
  have h0 : (0 : Int64).toInt = 0 := rfl
  rw [i64_div10 (by rw [Int64.lt_iff_toInt_lt]; omega)]
  obtain ⟨k, rfl⟩ : ∃ k, n = k + 1 := ⟨n - 1, by omega⟩
  simp only [Nat.add_sub_cancel] at hi ⊢
  rw [Int.pow_succ] at hi
  omega
theorem dk_1 {r : Int64} {n : Nat} (h : ¬ lg_cmp r 9 ≤ 0) (hi : r.toInt < 10 ^ (n + 1)) : 1 ≤ n := by
  rw [lgc_le, Int64.le_iff_toInt_le] at h
  have h0 : (9 : Int64).toInt = 9 := rfl
  cases n with
  | zero => simp at hi; omega
  | succ n => omega
theorem dk_2 {r : Int64} {n : Nat} (h : ¬ lg_cmp r 9 ≤ 0) (hi : r.toInt < 10 ^ (n + 1)) : (r / 10).toInt < 10 ^ n := by
  rw [lgc_le, Int64.le_iff_toInt_le] at h
  have h0 : (9 : Int64).toInt = 9 := rfl
  have h00 : (0 : Int64).toInt = 0 := rfl
  rw [i64_div10 (by rw [Int64.lt_iff_toInt_lt]; omega)]
  rw [Int.pow_succ] at hi
  omega
def FX9_checkOf_l8 (kd : Int32) : Nat → Int32 → Int32 → Int64 → Int32
  | 0, _, _, _ => 0
  | n + 1, sm, od, r => if (lg_cmp r 0) ≤ 0 then (10 - (sm - sm / 10 * 10)) - (10 - (sm - sm / 10 * 10)) / 10 * 10 else (if (2 * ((r - r / 10 * 10).toInt32)) ≤ 9 then (if od = 0 then (if od = 0 then FX9_checkOf_l8 kd n (sm + ((r - r / 10 * 10).toInt32)) 1 (r / 10) else FX9_checkOf_l8 kd n (sm + ((r - r / 10 * 10).toInt32)) 0 (r / 10)) else (if kd = 0 then (if od = 0 then FX9_checkOf_l8 kd n (sm + (3 * ((r - r / 10 * 10).toInt32))) 1 (r / 10) else FX9_checkOf_l8 kd n (sm + (3 * ((r - r / 10 * 10).toInt32))) 0 (r / 10)) else (if od = 0 then FX9_checkOf_l8 kd n (sm + (2 * ((r - r / 10 * 10).toInt32))) 1 (r / 10) else FX9_checkOf_l8 kd n (sm + (2 * ((r - r / 10 * 10).toInt32))) 0 (r / 10)))) else (if od = 0 then (if od = 0 then FX9_checkOf_l8 kd n (sm + ((r - r / 10 * 10).toInt32)) 1 (r / 10) else FX9_checkOf_l8 kd n (sm + ((r - r / 10 * 10).toInt32)) 0 (r / 10)) else (if kd = 0 then (if od = 0 then FX9_checkOf_l8 kd n (sm + (3 * ((r - r / 10 * 10).toInt32))) 1 (r / 10) else FX9_checkOf_l8 kd n (sm + (3 * ((r - r / 10 * 10).toInt32))) 0 (r / 10)) else (if od = 0 then FX9_checkOf_l8 kd n (sm + ((2 * ((r - r / 10 * 10).toInt32)) - 9)) 1 (r / 10) else FX9_checkOf_l8 kd n (sm + ((2 * ((r - r / 10 * 10).toInt32)) - 9)) 0 (r / 10)))))
def FX9_checkOf (kd : Int32) (v : Int64) : Int32 := FX9_checkOf_l8 kd 20 0 1 v
set_option maxHeartbeats 4000000 in
set_option maxRecDepth 100000 in
theorem kX9_checkOf (l : Launch) (D : va_G) (cI cJ cZ : ClassId) (kd : Int32) (v : Int64) : Met l yX9_checkOf wsX9_checkOf ({ frames := 0, cells := 0, slots := 0, locals := 0 }) (rP D (tz cI cJ cZ) [.int kd, .long v] []) (k2_QcV (.int (FX9_checkOf kd v))) 0 0 (fun _ => False) := by
  refine Met.ofW (cc := cX9_checkOf) (maxL := 9) (ret := (some .int)) (by decide) rfl ?_
  intro p e s m args below meth c s₁ B hml hv
  obtain ⟨rfl, hP, hK, hN⟩ := hv
  have hx := B.exec
  have hb := B.bytes
  have hr := B.returns
  have hts := atoms_spec (ws := wsX9_checkOf) B.pre
  have hown : s.vm.findClass RX9 = some m.cls := findClass_of_methodNamed B.named
  have hlocks := B.notSynchronized
  generalize hE : FX9_checkOf kd v = R0
  rw [FX9_checkOf] at hE
  have hl := lv_entry ([.int kd, .long v]) (n := 9) (Nat.le_of_ble_eq_true rfl)
  rw [lg_entry_eq]
  generalize (lg_sl ([.int kd, .long v]) ++ List.replicate (9 - (lg_sl ([.int kd, .long v])).length) Slot.unset).toArray = ls at hl ⊢
  have hl : lv_has ls 9 [(0, .int kd), (1, .long v)] := hl
  have loop_8 : ∀ (n : Nat) (sm : Int32) (od : Int32) (r : Int64), 1 ≤ n → r.toInt < 10 ^ (n - 1) → FX9_checkOf_l8 kd n sm od r = R0 → ∀ ls : Array Slot, lv_has ls 9 [(5, .long r), (4, .int od), (3, .int sm), (0, .int kd), (1, .long v)] → W p l e (headSpec wsX9_checkOf ({ frames := 0, cells := 0, slots := 0, locals := 0 })).room s m ([.int kd, .long v] : List Value).toArray below meth c s.heap [] 0 0 (MQ below (k2_QcV (.int R0)) ([.int kd, .long v] : List Value).toArray s 0 0 (fun _ => False)) (F0 m 8 ls []) := by
    intro n
    induction n with
    | zero =>
      intro sm od r i_1 i_2
      exact absurd i_1 (by omega)
    | succ n ih =>
      intro sm od r i_1 i_2 hE ls hl
      rw [FX9_checkOf_l8] at hE
      refine lv_lload hx hb dX9_checkOf_8 (lv_at hl 0 rfl) ?_
      refine lv_lconst (v := 0) hx hb dX9_checkOf_10 (by decide) ?_
      refine W.lcmp hx hb dX9_checkOf_11 ?_
      refine lv_if_le (tgt := 98) hx hb dX9_checkOf_12 (by decide) (fun c_1 => ?_) (fun c_1 => ?_)
      · rw [if_pos c_1] at hE
        refine lv_bipush (v := 10) hx hb dX9_checkOf_98 (by decide) ?_
        refine lv_iload_n hx hb dX9_checkOf_100 rfl (lv_at hl 2 rfl) ?_
        refine lv_bipush (v := 10) hx hb dX9_checkOf_101 (by decide) ?_
        refine lv_irem hx hb dX9_checkOf_103 (by decide) ?_
        refine lv_isub hx hb dX9_checkOf_104 ?_
        refine lv_bipush (v := 10) hx hb dX9_checkOf_105 (by decide) ?_
        refine lv_irem hx hb dX9_checkOf_107 (by decide) ?_
        exact W.iret hx hb hr (fun t ht hW => ⟨by rw [← hE], ht⟩) (fun q h => absurd h List.not_mem_nil) dX9_checkOf_108
      · rw [if_neg c_1] at hE
        refine lv_lload hx hb dX9_checkOf_15 (lv_at hl 0 rfl) ?_
        refine lv_ldc2 hx hb hown (hts (.constantLong RX9 115 10) (by decide +kernel)) dX9_checkOf_17 ?_
        refine lv_lrem hx hb dX9_checkOf_20 (by decide) ?_
        refine lv_l2i hx hb dX9_checkOf_21 rfl ?_
        refine lv_istore (lv' := [(7, .int ((r - r / 10 * 10).toInt32)), (5, .long r), (4, .int od), (3, .int sm), (0, .int kd), (1, .long v)]) hx hb dX9_checkOf_22 hl (by decide) rfl (fun ls hl => ?_)
        refine lv_iconst (v := 2) hx hb dX9_checkOf_24 (by decide) ?_
        refine lv_iload hx hb dX9_checkOf_25 (lv_at hl 0 rfl) ?_
        refine lv_imul hx hb dX9_checkOf_27 ?_
        refine lv_bipush (v := 9) hx hb dX9_checkOf_28 (by decide) ?_
        refine lv_icmp_le (tgt := 43) hx hb dX9_checkOf_30 (by decide) (fun c_2 => ?_) (fun c_2 => ?_)
        · rw [if_pos c_2] at hE
          refine lv_iconst (v := 2) hx hb dX9_checkOf_43 (by decide) ?_
          refine lv_iload hx hb dX9_checkOf_44 (lv_at hl 0 rfl) ?_
          refine lv_imul hx hb dX9_checkOf_46 ?_
          refine lv_istore (lv' := [(8, .int (2 * ((r - r / 10 * 10).toInt32))), (7, .int ((r - r / 10 * 10).toInt32)), (5, .long r), (4, .int od), (3, .int sm), (0, .int kd), (1, .long v)]) hx hb dX9_checkOf_47 hl (by decide) rfl (fun ls hl => ?_)
          refine lv_iload_n hx hb dX9_checkOf_49 rfl (lv_at hl 4 rfl) ?_
          refine lv_iload hx hb dX9_checkOf_50 (lv_at hl 3 rfl) ?_
          refine lv_if_ne (tgt := 60) hx hb dX9_checkOf_52 (by decide) (fun c_3 => ?_) (fun c_3 => ?_)
          · rw [if_neg c_3] at hE
            refine lv_iload_n hx hb dX9_checkOf_60 rfl (lv_at hl 5 rfl) ?_
            refine lv_if_ne (tgt := 71) hx hb dX9_checkOf_61 (by decide) (fun c_4 => ?_) (fun c_4 => ?_)
            · rw [if_neg c_4] at hE
              refine lv_iload hx hb dX9_checkOf_71 (lv_at hl 0 rfl) ?_
              refine lv_iadd hx hb dX9_checkOf_73 ?_
              refine lv_istore_n (lv' := [(3, .int (sm + (2 * ((r - r / 10 * 10).toInt32)))), (8, .int (2 * ((r - r / 10 * 10).toInt32))), (7, .int ((r - r / 10 * 10).toInt32)), (5, .long r), (4, .int od), (0, .int kd), (1, .long v)]) hx hb dX9_checkOf_74 rfl hl (by decide) rfl (fun ls hl => ?_)
              refine lv_iload hx hb dX9_checkOf_75 (lv_at hl 4 rfl) ?_
              refine lv_if_ne (tgt := 84) hx hb dX9_checkOf_77 (by decide) (fun c_5 => ?_) (fun c_5 => ?_)
              · rw [if_neg c_5] at hE
                refine lv_iconst (v := 0) hx hb dX9_checkOf_84 (by decide) ?_
                refine lv_istore (lv' := [(4, .int 0), (3, .int (sm + (2 * ((r - r / 10 * 10).toInt32)))), (8, .int (2 * ((r - r / 10 * 10).toInt32))), (7, .int ((r - r / 10 * 10).toInt32)), (5, .long r), (0, .int kd), (1, .long v)]) hx hb dX9_checkOf_85 hl (by decide) rfl (fun ls hl => ?_)
                refine lv_lload hx hb dX9_checkOf_87 (lv_at hl 4 rfl) ?_
                refine lv_ldc2 hx hb hown (hts (.constantLong RX9 115 10) (by decide +kernel)) dX9_checkOf_89 ?_
                refine lv_ldiv hx hb dX9_checkOf_92 (by decide) ?_
                refine lv_lstore (lv' := [(5, .long (r / 10)), (4, .int 0), (3, .int (sm + (2 * ((r - r / 10 * 10).toInt32)))), (8, .int (2 * ((r - r / 10 * 10).toInt32))), (7, .int ((r - r / 10 * 10).toInt32)), (0, .int kd), (1, .long v)]) hx hb dX9_checkOf_93 hl (by decide) rfl (fun ls hl => ?_)
                refine lv_goto (tgt := 8) hx hb dX9_checkOf_95 (by decide) ?_
                exact ih (sm + (2 * ((r - r / 10 * 10).toInt32))) 0 (r / 10) (ck_1 (by assumption) i_2) (ck_2 (by assumption) i_2) hE ls (lv_sub hl [0, 1, 2, 5, 6] rfl)
              · rw [if_pos c_5] at hE
                refine lv_iconst (v := 1) hx hb dX9_checkOf_80 (by decide) ?_
                refine lv_goto (tgt := 85) hx hb dX9_checkOf_81 (by decide) ?_
                refine lv_istore (lv' := [(4, .int 1), (3, .int (sm + (2 * ((r - r / 10 * 10).toInt32)))), (8, .int (2 * ((r - r / 10 * 10).toInt32))), (7, .int ((r - r / 10 * 10).toInt32)), (5, .long r), (0, .int kd), (1, .long v)]) hx hb dX9_checkOf_85 hl (by decide) rfl (fun ls hl => ?_)
                refine lv_lload hx hb dX9_checkOf_87 (lv_at hl 4 rfl) ?_
                refine lv_ldc2 hx hb hown (hts (.constantLong RX9 115 10) (by decide +kernel)) dX9_checkOf_89 ?_
                refine lv_ldiv hx hb dX9_checkOf_92 (by decide) ?_
                refine lv_lstore (lv' := [(5, .long (r / 10)), (4, .int 1), (3, .int (sm + (2 * ((r - r / 10 * 10).toInt32)))), (8, .int (2 * ((r - r / 10 * 10).toInt32))), (7, .int ((r - r / 10 * 10).toInt32)), (0, .int kd), (1, .long v)]) hx hb dX9_checkOf_93 hl (by decide) rfl (fun ls hl => ?_)
                refine lv_goto (tgt := 8) hx hb dX9_checkOf_95 (by decide) ?_
                exact ih (sm + (2 * ((r - r / 10 * 10).toInt32))) 1 (r / 10) (ck_1 (by assumption) i_2) (ck_2 (by assumption) i_2) hE ls (lv_sub hl [0, 1, 2, 5, 6] rfl)
            · rw [if_pos c_4] at hE
              refine lv_iconst (v := 3) hx hb dX9_checkOf_64 (by decide) ?_
              refine lv_iload hx hb dX9_checkOf_65 (lv_at hl 1 rfl) ?_
              refine lv_imul hx hb dX9_checkOf_67 ?_
              refine lv_goto (tgt := 73) hx hb dX9_checkOf_68 (by decide) ?_
              refine lv_iadd hx hb dX9_checkOf_73 ?_
              refine lv_istore_n (lv' := [(3, .int (sm + (3 * ((r - r / 10 * 10).toInt32)))), (8, .int (2 * ((r - r / 10 * 10).toInt32))), (7, .int ((r - r / 10 * 10).toInt32)), (5, .long r), (4, .int od), (0, .int kd), (1, .long v)]) hx hb dX9_checkOf_74 rfl hl (by decide) rfl (fun ls hl => ?_)
              refine lv_iload hx hb dX9_checkOf_75 (lv_at hl 4 rfl) ?_
              refine lv_if_ne (tgt := 84) hx hb dX9_checkOf_77 (by decide) (fun c_6 => ?_) (fun c_6 => ?_)
              · rw [if_neg c_6] at hE
                refine lv_iconst (v := 0) hx hb dX9_checkOf_84 (by decide) ?_
                refine lv_istore (lv' := [(4, .int 0), (3, .int (sm + (3 * ((r - r / 10 * 10).toInt32)))), (8, .int (2 * ((r - r / 10 * 10).toInt32))), (7, .int ((r - r / 10 * 10).toInt32)), (5, .long r), (0, .int kd), (1, .long v)]) hx hb dX9_checkOf_85 hl (by decide) rfl (fun ls hl => ?_)
                refine lv_lload hx hb dX9_checkOf_87 (lv_at hl 4 rfl) ?_
                refine lv_ldc2 hx hb hown (hts (.constantLong RX9 115 10) (by decide +kernel)) dX9_checkOf_89 ?_
                refine lv_ldiv hx hb dX9_checkOf_92 (by decide) ?_
                refine lv_lstore (lv' := [(5, .long (r / 10)), (4, .int 0), (3, .int (sm + (3 * ((r - r / 10 * 10).toInt32)))), (8, .int (2 * ((r - r / 10 * 10).toInt32))), (7, .int ((r - r / 10 * 10).toInt32)), (0, .int kd), (1, .long v)]) hx hb dX9_checkOf_93 hl (by decide) rfl (fun ls hl => ?_)
                refine lv_goto (tgt := 8) hx hb dX9_checkOf_95 (by decide) ?_
                exact ih (sm + (3 * ((r - r / 10 * 10).toInt32))) 0 (r / 10) (ck_1 (by assumption) i_2) (ck_2 (by assumption) i_2) hE ls (lv_sub hl [0, 1, 2, 5, 6] rfl)
              · rw [if_pos c_6] at hE
                refine lv_iconst (v := 1) hx hb dX9_checkOf_80 (by decide) ?_
                refine lv_goto (tgt := 85) hx hb dX9_checkOf_81 (by decide) ?_
                refine lv_istore (lv' := [(4, .int 1), (3, .int (sm + (3 * ((r - r / 10 * 10).toInt32)))), (8, .int (2 * ((r - r / 10 * 10).toInt32))), (7, .int ((r - r / 10 * 10).toInt32)), (5, .long r), (0, .int kd), (1, .long v)]) hx hb dX9_checkOf_85 hl (by decide) rfl (fun ls hl => ?_)
                refine lv_lload hx hb dX9_checkOf_87 (lv_at hl 4 rfl) ?_
                refine lv_ldc2 hx hb hown (hts (.constantLong RX9 115 10) (by decide +kernel)) dX9_checkOf_89 ?_
                refine lv_ldiv hx hb dX9_checkOf_92 (by decide) ?_
                refine lv_lstore (lv' := [(5, .long (r / 10)), (4, .int 1), (3, .int (sm + (3 * ((r - r / 10 * 10).toInt32)))), (8, .int (2 * ((r - r / 10 * 10).toInt32))), (7, .int ((r - r / 10 * 10).toInt32)), (0, .int kd), (1, .long v)]) hx hb dX9_checkOf_93 hl (by decide) rfl (fun ls hl => ?_)
                refine lv_goto (tgt := 8) hx hb dX9_checkOf_95 (by decide) ?_
                exact ih (sm + (3 * ((r - r / 10 * 10).toInt32))) 1 (r / 10) (ck_1 (by assumption) i_2) (ck_2 (by assumption) i_2) hE ls (lv_sub hl [0, 1, 2, 5, 6] rfl)
          · rw [if_pos c_3] at hE
            refine lv_iload hx hb dX9_checkOf_55 (lv_at hl 1 rfl) ?_
            refine lv_goto (tgt := 73) hx hb dX9_checkOf_57 (by decide) ?_
            refine lv_iadd hx hb dX9_checkOf_73 ?_
            refine lv_istore_n (lv' := [(3, .int (sm + ((r - r / 10 * 10).toInt32))), (8, .int (2 * ((r - r / 10 * 10).toInt32))), (7, .int ((r - r / 10 * 10).toInt32)), (5, .long r), (4, .int od), (0, .int kd), (1, .long v)]) hx hb dX9_checkOf_74 rfl hl (by decide) rfl (fun ls hl => ?_)
            refine lv_iload hx hb dX9_checkOf_75 (lv_at hl 4 rfl) ?_
            refine lv_if_ne (tgt := 84) hx hb dX9_checkOf_77 (by decide) (fun c_7 => ?_) (fun c_7 => ?_)
            · rw [if_neg c_7] at hE
              refine lv_iconst (v := 0) hx hb dX9_checkOf_84 (by decide) ?_
              refine lv_istore (lv' := [(4, .int 0), (3, .int (sm + ((r - r / 10 * 10).toInt32))), (8, .int (2 * ((r - r / 10 * 10).toInt32))), (7, .int ((r - r / 10 * 10).toInt32)), (5, .long r), (0, .int kd), (1, .long v)]) hx hb dX9_checkOf_85 hl (by decide) rfl (fun ls hl => ?_)
              refine lv_lload hx hb dX9_checkOf_87 (lv_at hl 4 rfl) ?_
              refine lv_ldc2 hx hb hown (hts (.constantLong RX9 115 10) (by decide +kernel)) dX9_checkOf_89 ?_
              refine lv_ldiv hx hb dX9_checkOf_92 (by decide) ?_
              refine lv_lstore (lv' := [(5, .long (r / 10)), (4, .int 0), (3, .int (sm + ((r - r / 10 * 10).toInt32))), (8, .int (2 * ((r - r / 10 * 10).toInt32))), (7, .int ((r - r / 10 * 10).toInt32)), (0, .int kd), (1, .long v)]) hx hb dX9_checkOf_93 hl (by decide) rfl (fun ls hl => ?_)
              refine lv_goto (tgt := 8) hx hb dX9_checkOf_95 (by decide) ?_
              exact ih (sm + ((r - r / 10 * 10).toInt32)) 0 (r / 10) (ck_1 (by assumption) i_2) (ck_2 (by assumption) i_2) hE ls (lv_sub hl [0, 1, 2, 5, 6] rfl)
            · rw [if_pos c_7] at hE
              refine lv_iconst (v := 1) hx hb dX9_checkOf_80 (by decide) ?_
              refine lv_goto (tgt := 85) hx hb dX9_checkOf_81 (by decide) ?_
              refine lv_istore (lv' := [(4, .int 1), (3, .int (sm + ((r - r / 10 * 10).toInt32))), (8, .int (2 * ((r - r / 10 * 10).toInt32))), (7, .int ((r - r / 10 * 10).toInt32)), (5, .long r), (0, .int kd), (1, .long v)]) hx hb dX9_checkOf_85 hl (by decide) rfl (fun ls hl => ?_)
              refine lv_lload hx hb dX9_checkOf_87 (lv_at hl 4 rfl) ?_
              refine lv_ldc2 hx hb hown (hts (.constantLong RX9 115 10) (by decide +kernel)) dX9_checkOf_89 ?_
              refine lv_ldiv hx hb dX9_checkOf_92 (by decide) ?_
              refine lv_lstore (lv' := [(5, .long (r / 10)), (4, .int 1), (3, .int (sm + ((r - r / 10 * 10).toInt32))), (8, .int (2 * ((r - r / 10 * 10).toInt32))), (7, .int ((r - r / 10 * 10).toInt32)), (0, .int kd), (1, .long v)]) hx hb dX9_checkOf_93 hl (by decide) rfl (fun ls hl => ?_)
              refine lv_goto (tgt := 8) hx hb dX9_checkOf_95 (by decide) ?_
              exact ih (sm + ((r - r / 10 * 10).toInt32)) 1 (r / 10) (ck_1 (by assumption) i_2) (ck_2 (by assumption) i_2) hE ls (lv_sub hl [0, 1, 2, 5, 6] rfl)
        · rw [if_neg c_2] at hE
          refine lv_iconst (v := 2) hx hb dX9_checkOf_33 (by decide) ?_
          refine lv_iload hx hb dX9_checkOf_34 (lv_at hl 0 rfl) ?_
          refine lv_imul hx hb dX9_checkOf_36 ?_
          refine lv_bipush (v := 9) hx hb dX9_checkOf_37 (by decide) ?_
          refine lv_isub hx hb dX9_checkOf_39 ?_
          refine lv_goto (tgt := 47) hx hb dX9_checkOf_40 (by decide) ?_
          refine lv_istore (lv' := [(8, .int ((2 * ((r - r / 10 * 10).toInt32)) - 9)), (7, .int ((r - r / 10 * 10).toInt32)), (5, .long r), (4, .int od), (3, .int sm), (0, .int kd), (1, .long v)]) hx hb dX9_checkOf_47 hl (by decide) rfl (fun ls hl => ?_)
          refine lv_iload_n hx hb dX9_checkOf_49 rfl (lv_at hl 4 rfl) ?_
          refine lv_iload hx hb dX9_checkOf_50 (lv_at hl 3 rfl) ?_
          refine lv_if_ne (tgt := 60) hx hb dX9_checkOf_52 (by decide) (fun c_8 => ?_) (fun c_8 => ?_)
          · rw [if_neg c_8] at hE
            refine lv_iload_n hx hb dX9_checkOf_60 rfl (lv_at hl 5 rfl) ?_
            refine lv_if_ne (tgt := 71) hx hb dX9_checkOf_61 (by decide) (fun c_9 => ?_) (fun c_9 => ?_)
            · rw [if_neg c_9] at hE
              refine lv_iload hx hb dX9_checkOf_71 (lv_at hl 0 rfl) ?_
              refine lv_iadd hx hb dX9_checkOf_73 ?_
              refine lv_istore_n (lv' := [(3, .int (sm + ((2 * ((r - r / 10 * 10).toInt32)) - 9))), (8, .int ((2 * ((r - r / 10 * 10).toInt32)) - 9)), (7, .int ((r - r / 10 * 10).toInt32)), (5, .long r), (4, .int od), (0, .int kd), (1, .long v)]) hx hb dX9_checkOf_74 rfl hl (by decide) rfl (fun ls hl => ?_)
              refine lv_iload hx hb dX9_checkOf_75 (lv_at hl 4 rfl) ?_
              refine lv_if_ne (tgt := 84) hx hb dX9_checkOf_77 (by decide) (fun c_10 => ?_) (fun c_10 => ?_)
              · rw [if_neg c_10] at hE
                refine lv_iconst (v := 0) hx hb dX9_checkOf_84 (by decide) ?_
                refine lv_istore (lv' := [(4, .int 0), (3, .int (sm + ((2 * ((r - r / 10 * 10).toInt32)) - 9))), (8, .int ((2 * ((r - r / 10 * 10).toInt32)) - 9)), (7, .int ((r - r / 10 * 10).toInt32)), (5, .long r), (0, .int kd), (1, .long v)]) hx hb dX9_checkOf_85 hl (by decide) rfl (fun ls hl => ?_)
                refine lv_lload hx hb dX9_checkOf_87 (lv_at hl 4 rfl) ?_
                refine lv_ldc2 hx hb hown (hts (.constantLong RX9 115 10) (by decide +kernel)) dX9_checkOf_89 ?_
                refine lv_ldiv hx hb dX9_checkOf_92 (by decide) ?_
                refine lv_lstore (lv' := [(5, .long (r / 10)), (4, .int 0), (3, .int (sm + ((2 * ((r - r / 10 * 10).toInt32)) - 9))), (8, .int ((2 * ((r - r / 10 * 10).toInt32)) - 9)), (7, .int ((r - r / 10 * 10).toInt32)), (0, .int kd), (1, .long v)]) hx hb dX9_checkOf_93 hl (by decide) rfl (fun ls hl => ?_)
                refine lv_goto (tgt := 8) hx hb dX9_checkOf_95 (by decide) ?_
                exact ih (sm + ((2 * ((r - r / 10 * 10).toInt32)) - 9)) 0 (r / 10) (ck_1 (by assumption) i_2) (ck_2 (by assumption) i_2) hE ls (lv_sub hl [0, 1, 2, 5, 6] rfl)
              · rw [if_pos c_10] at hE
                refine lv_iconst (v := 1) hx hb dX9_checkOf_80 (by decide) ?_
                refine lv_goto (tgt := 85) hx hb dX9_checkOf_81 (by decide) ?_
                refine lv_istore (lv' := [(4, .int 1), (3, .int (sm + ((2 * ((r - r / 10 * 10).toInt32)) - 9))), (8, .int ((2 * ((r - r / 10 * 10).toInt32)) - 9)), (7, .int ((r - r / 10 * 10).toInt32)), (5, .long r), (0, .int kd), (1, .long v)]) hx hb dX9_checkOf_85 hl (by decide) rfl (fun ls hl => ?_)
                refine lv_lload hx hb dX9_checkOf_87 (lv_at hl 4 rfl) ?_
                refine lv_ldc2 hx hb hown (hts (.constantLong RX9 115 10) (by decide +kernel)) dX9_checkOf_89 ?_
                refine lv_ldiv hx hb dX9_checkOf_92 (by decide) ?_
                refine lv_lstore (lv' := [(5, .long (r / 10)), (4, .int 1), (3, .int (sm + ((2 * ((r - r / 10 * 10).toInt32)) - 9))), (8, .int ((2 * ((r - r / 10 * 10).toInt32)) - 9)), (7, .int ((r - r / 10 * 10).toInt32)), (0, .int kd), (1, .long v)]) hx hb dX9_checkOf_93 hl (by decide) rfl (fun ls hl => ?_)
                refine lv_goto (tgt := 8) hx hb dX9_checkOf_95 (by decide) ?_
                exact ih (sm + ((2 * ((r - r / 10 * 10).toInt32)) - 9)) 1 (r / 10) (ck_1 (by assumption) i_2) (ck_2 (by assumption) i_2) hE ls (lv_sub hl [0, 1, 2, 5, 6] rfl)
            · rw [if_pos c_9] at hE
              refine lv_iconst (v := 3) hx hb dX9_checkOf_64 (by decide) ?_
              refine lv_iload hx hb dX9_checkOf_65 (lv_at hl 1 rfl) ?_
              refine lv_imul hx hb dX9_checkOf_67 ?_
              refine lv_goto (tgt := 73) hx hb dX9_checkOf_68 (by decide) ?_
              refine lv_iadd hx hb dX9_checkOf_73 ?_
              refine lv_istore_n (lv' := [(3, .int (sm + (3 * ((r - r / 10 * 10).toInt32)))), (8, .int ((2 * ((r - r / 10 * 10).toInt32)) - 9)), (7, .int ((r - r / 10 * 10).toInt32)), (5, .long r), (4, .int od), (0, .int kd), (1, .long v)]) hx hb dX9_checkOf_74 rfl hl (by decide) rfl (fun ls hl => ?_)
              refine lv_iload hx hb dX9_checkOf_75 (lv_at hl 4 rfl) ?_
              refine lv_if_ne (tgt := 84) hx hb dX9_checkOf_77 (by decide) (fun c_11 => ?_) (fun c_11 => ?_)
              · rw [if_neg c_11] at hE
                refine lv_iconst (v := 0) hx hb dX9_checkOf_84 (by decide) ?_
                refine lv_istore (lv' := [(4, .int 0), (3, .int (sm + (3 * ((r - r / 10 * 10).toInt32)))), (8, .int ((2 * ((r - r / 10 * 10).toInt32)) - 9)), (7, .int ((r - r / 10 * 10).toInt32)), (5, .long r), (0, .int kd), (1, .long v)]) hx hb dX9_checkOf_85 hl (by decide) rfl (fun ls hl => ?_)
                refine lv_lload hx hb dX9_checkOf_87 (lv_at hl 4 rfl) ?_
                refine lv_ldc2 hx hb hown (hts (.constantLong RX9 115 10) (by decide +kernel)) dX9_checkOf_89 ?_
                refine lv_ldiv hx hb dX9_checkOf_92 (by decide) ?_
                refine lv_lstore (lv' := [(5, .long (r / 10)), (4, .int 0), (3, .int (sm + (3 * ((r - r / 10 * 10).toInt32)))), (8, .int ((2 * ((r - r / 10 * 10).toInt32)) - 9)), (7, .int ((r - r / 10 * 10).toInt32)), (0, .int kd), (1, .long v)]) hx hb dX9_checkOf_93 hl (by decide) rfl (fun ls hl => ?_)
                refine lv_goto (tgt := 8) hx hb dX9_checkOf_95 (by decide) ?_
                exact ih (sm + (3 * ((r - r / 10 * 10).toInt32))) 0 (r / 10) (ck_1 (by assumption) i_2) (ck_2 (by assumption) i_2) hE ls (lv_sub hl [0, 1, 2, 5, 6] rfl)
              · rw [if_pos c_11] at hE
                refine lv_iconst (v := 1) hx hb dX9_checkOf_80 (by decide) ?_
                refine lv_goto (tgt := 85) hx hb dX9_checkOf_81 (by decide) ?_
                refine lv_istore (lv' := [(4, .int 1), (3, .int (sm + (3 * ((r - r / 10 * 10).toInt32)))), (8, .int ((2 * ((r - r / 10 * 10).toInt32)) - 9)), (7, .int ((r - r / 10 * 10).toInt32)), (5, .long r), (0, .int kd), (1, .long v)]) hx hb dX9_checkOf_85 hl (by decide) rfl (fun ls hl => ?_)
                refine lv_lload hx hb dX9_checkOf_87 (lv_at hl 4 rfl) ?_
                refine lv_ldc2 hx hb hown (hts (.constantLong RX9 115 10) (by decide +kernel)) dX9_checkOf_89 ?_
                refine lv_ldiv hx hb dX9_checkOf_92 (by decide) ?_
                refine lv_lstore (lv' := [(5, .long (r / 10)), (4, .int 1), (3, .int (sm + (3 * ((r - r / 10 * 10).toInt32)))), (8, .int ((2 * ((r - r / 10 * 10).toInt32)) - 9)), (7, .int ((r - r / 10 * 10).toInt32)), (0, .int kd), (1, .long v)]) hx hb dX9_checkOf_93 hl (by decide) rfl (fun ls hl => ?_)
                refine lv_goto (tgt := 8) hx hb dX9_checkOf_95 (by decide) ?_
                exact ih (sm + (3 * ((r - r / 10 * 10).toInt32))) 1 (r / 10) (ck_1 (by assumption) i_2) (ck_2 (by assumption) i_2) hE ls (lv_sub hl [0, 1, 2, 5, 6] rfl)
          · rw [if_pos c_8] at hE
            refine lv_iload hx hb dX9_checkOf_55 (lv_at hl 1 rfl) ?_
            refine lv_goto (tgt := 73) hx hb dX9_checkOf_57 (by decide) ?_
            refine lv_iadd hx hb dX9_checkOf_73 ?_
            refine lv_istore_n (lv' := [(3, .int (sm + ((r - r / 10 * 10).toInt32))), (8, .int ((2 * ((r - r / 10 * 10).toInt32)) - 9)), (7, .int ((r - r / 10 * 10).toInt32)), (5, .long r), (4, .int od), (0, .int kd), (1, .long v)]) hx hb dX9_checkOf_74 rfl hl (by decide) rfl (fun ls hl => ?_)
            refine lv_iload hx hb dX9_checkOf_75 (lv_at hl 4 rfl) ?_
            refine lv_if_ne (tgt := 84) hx hb dX9_checkOf_77 (by decide) (fun c_12 => ?_) (fun c_12 => ?_)
            · rw [if_neg c_12] at hE
              refine lv_iconst (v := 0) hx hb dX9_checkOf_84 (by decide) ?_
              refine lv_istore (lv' := [(4, .int 0), (3, .int (sm + ((r - r / 10 * 10).toInt32))), (8, .int ((2 * ((r - r / 10 * 10).toInt32)) - 9)), (7, .int ((r - r / 10 * 10).toInt32)), (5, .long r), (0, .int kd), (1, .long v)]) hx hb dX9_checkOf_85 hl (by decide) rfl (fun ls hl => ?_)
              refine lv_lload hx hb dX9_checkOf_87 (lv_at hl 4 rfl) ?_
              refine lv_ldc2 hx hb hown (hts (.constantLong RX9 115 10) (by decide +kernel)) dX9_checkOf_89 ?_
              refine lv_ldiv hx hb dX9_checkOf_92 (by decide) ?_
              refine lv_lstore (lv' := [(5, .long (r / 10)), (4, .int 0), (3, .int (sm + ((r - r / 10 * 10).toInt32))), (8, .int ((2 * ((r - r / 10 * 10).toInt32)) - 9)), (7, .int ((r - r / 10 * 10).toInt32)), (0, .int kd), (1, .long v)]) hx hb dX9_checkOf_93 hl (by decide) rfl (fun ls hl => ?_)
              refine lv_goto (tgt := 8) hx hb dX9_checkOf_95 (by decide) ?_
              exact ih (sm + ((r - r / 10 * 10).toInt32)) 0 (r / 10) (ck_1 (by assumption) i_2) (ck_2 (by assumption) i_2) hE ls (lv_sub hl [0, 1, 2, 5, 6] rfl)
            · rw [if_pos c_12] at hE
              refine lv_iconst (v := 1) hx hb dX9_checkOf_80 (by decide) ?_
              refine lv_goto (tgt := 85) hx hb dX9_checkOf_81 (by decide) ?_
              refine lv_istore (lv' := [(4, .int 1), (3, .int (sm + ((r - r / 10 * 10).toInt32))), (8, .int ((2 * ((r - r / 10 * 10).toInt32)) - 9)), (7, .int ((r - r / 10 * 10).toInt32)), (5, .long r), (0, .int kd), (1, .long v)]) hx hb dX9_checkOf_85 hl (by decide) rfl (fun ls hl => ?_)
              refine lv_lload hx hb dX9_checkOf_87 (lv_at hl 4 rfl) ?_
              refine lv_ldc2 hx hb hown (hts (.constantLong RX9 115 10) (by decide +kernel)) dX9_checkOf_89 ?_
              refine lv_ldiv hx hb dX9_checkOf_92 (by decide) ?_
              refine lv_lstore (lv' := [(5, .long (r / 10)), (4, .int 1), (3, .int (sm + ((r - r / 10 * 10).toInt32))), (8, .int ((2 * ((r - r / 10 * 10).toInt32)) - 9)), (7, .int ((r - r / 10 * 10).toInt32)), (0, .int kd), (1, .long v)]) hx hb dX9_checkOf_93 hl (by decide) rfl (fun ls hl => ?_)
              refine lv_goto (tgt := 8) hx hb dX9_checkOf_95 (by decide) ?_
              exact ih (sm + ((r - r / 10 * 10).toInt32)) 1 (r / 10) (ck_1 (by assumption) i_2) (ck_2 (by assumption) i_2) hE ls (lv_sub hl [0, 1, 2, 5, 6] rfl)
  refine lv_iconst (v := 0) hx hb dX9_checkOf_0 (by decide) ?_
  refine lv_istore_n (lv' := [(3, .int 0), (0, .int kd), (1, .long v)]) hx hb dX9_checkOf_1 rfl hl (by decide) rfl (fun ls hl => ?_)
  refine lv_iconst (v := 1) hx hb dX9_checkOf_2 (by decide) ?_
  refine lv_istore (lv' := [(4, .int 1), (3, .int 0), (0, .int kd), (1, .long v)]) hx hb dX9_checkOf_3 hl (by decide) rfl (fun ls hl => ?_)
  refine lv_lload_n hx hb dX9_checkOf_5 rfl (lv_at hl 3 rfl) ?_
  refine lv_lstore (lv' := [(5, .long v), (4, .int 1), (3, .int 0), (0, .int kd), (1, .long v)]) hx hb dX9_checkOf_6 hl (by decide) rfl (fun ls hl => ?_)
  exact loop_8 20 0 1 v (by omega) (i64_lt _) hE ls (lv_sub hl [0, 1, 2, 3, 4] rfl)
def FX9_check (kd : Int32) (v : Int64) : Int32 × Int32 := if (FX9_isIn kd.toInt64 1) = 0 then ((-1), 0) else (if (FX9_isIn v 999999999999999999) = 0 then ((-1), 0) else (FX9_checkOf kd v, 0))
set_option maxHeartbeats 4000000 in
set_option maxRecDepth 100000 in
theorem kX9_check (l : Launch) (D : va_G) (cI cJ cZ : ClassId) (w0 : Nat) (a1 : Nat) (a2 : Nat) (a3 : Nat) (a4 : Nat) (a5 : Nat) (a6 : Nat) (a7 : Nat) (a8 : Nat) (a9 : Nat) (a10 : Nat) (a11 : Nat) (a12 : Nat) (a13 : Nat) (a14 : Nat) (a15 : Nat) (a16 : Nat) (a17 : Nat) (a18 : Nat) (a19 : Nat) (a20 : Nat) (a21 : Nat) (a22 : Nat) (a23 : Nat) (rdn : Nat) (rfa : Int32) (rmn : Nat) (rpn : Nat) (rre : Int32) (rrn : Nat) (rfn : Nat) (rkn : Nat) (rcn : Nat) (kd : Int32) (v : Int64) (sz : Nat) : Met l yX9_check wsX9_check ({ frames := 1, cells := 0, slots := 0, locals := 28 }) (mP D (tz cI cJ cZ) [.ref w0, .int kd, .long v] sz [(w0, .inr (9, [.ref a1, .ref a2, .int (nI rdn), .int rfa, .int (nI rmn), .ref a3, .ref a4, .ref a5, .ref a6, .ref a7, .ref a8, .ref a9, .ref a10, .ref a11, .ref a12, .ref a13, .int (nI rpn), .int rre, .ref a14, .ref a15, .int (nI rrn), .ref a16, .int (nI rfn), .ref a17, .ref a18, .ref a19, .int (nI rkn), .ref a20, .ref a21, .int (nI rcn), .ref a22, .ref a23]))]) (mQ D (some (.int ((FX9_check kd v).1))) [(w0, .inr (9, [.ref a1, .ref a2, .int (nI rdn), .int ((FX9_check kd v).2), .int (nI rmn), .ref a3, .ref a4, .ref a5, .ref a6, .ref a7, .ref a8, .ref a9, .ref a10, .ref a11, .ref a12, .ref a13, .int (nI rpn), .int rre, .ref a14, .ref a15, .int (nI rrn), .ref a16, .int (nI rfn), .ref a17, .ref a18, .ref a19, .int (nI rkn), .ref a20, .ref a21, .int (nI rcn), .ref a22, .ref a23]))] (va_A [(w0, .inr (9, [.ref a1, .ref a2, .int (nI rdn), .int rfa, .int (nI rmn), .ref a3, .ref a4, .ref a5, .ref a6, .ref a7, .ref a8, .ref a9, .ref a10, .ref a11, .ref a12, .ref a13, .int (nI rpn), .int rre, .ref a14, .ref a15, .int (nI rrn), .ref a16, .int (nI rfn), .ref a17, .ref a18, .ref a19, .int (nI rkn), .ref a20, .ref a21, .int (nI rcn), .ref a22, .ref a23]))] sz)) 0 0 (va_A [(w0, .inr (9, [.ref a1, .ref a2, .int (nI rdn), .int rfa, .int (nI rmn), .ref a3, .ref a4, .ref a5, .ref a6, .ref a7, .ref a8, .ref a9, .ref a10, .ref a11, .ref a12, .ref a13, .int (nI rpn), .int rre, .ref a14, .ref a15, .int (nI rrn), .ref a16, .int (nI rfn), .ref a17, .ref a18, .ref a19, .int (nI rkn), .ref a20, .ref a21, .int (nI rcn), .ref a22, .ref a23]))] sz) := by
  refine Met.ofW (cc := cX9_check) (maxL := 4) (ret := (some .int)) (by decide) rfl ?_
  intro p e s m args below meth c s₁ B hml hv
  obtain ⟨rfl, hsz, hP, hK, hD0, hN⟩ := hv
  have hx := B.exec
  have hb := B.bytes
  have hr := B.returns
  have hts := atoms_spec (ws := wsX9_check) B.pre
  have hown : s.vm.findClass RX9 = some m.cls := findClass_of_methodNamed B.named
  have hlocks := B.notSynchronized
  have iw_9 : ∀ w ∈ u_ws RX9 TX9 32, w ∈ wsX9_check := by decide +kernel
  subst hsz
  have hD := hD0.self (sz := s.heap.size)
  generalize hE : FX9_check kd v = R0
  generalize hAe : va_A [(w0, .inr (9, [.ref a1, .ref a2, .int (nI rdn), .int rfa, .int (nI rmn), .ref a3, .ref a4, .ref a5, .ref a6, .ref a7, .ref a8, .ref a9, .ref a10, .ref a11, .ref a12, .ref a13, .int (nI rpn), .int rre, .ref a14, .ref a15, .int (nI rrn), .ref a16, .int (nI rfn), .ref a17, .ref a18, .ref a19, .int (nI rkn), .ref a20, .ref a21, .int (nI rcn), .ref a22, .ref a23]))] s.heap.size = A at hD ⊢
  have hA : ∀ q : Nat, s.heap.size ≤ q → A q := fun q h => by rw [← hAe]; exact Or.inr h
  have hS : va_S A s.heap s.heap [] := va_S.rf
  rw [FX9_check] at hE
  have hl := lv_entry ([.ref w0, .int kd, .long v]) (n := 4) (Nat.le_of_ble_eq_true rfl)
  rw [lg_entry_eq]
  generalize (lg_sl ([.ref w0, .int kd, .long v]) ++ List.replicate (4 - (lg_sl ([.ref w0, .int kd, .long v])).length) Slot.unset).toArray = ls at hl ⊢
  have hl : lv_has ls 4 [(0, .ref w0), (1, .int kd), (2, .long v)] := hl
  refine lv_aload_n hx hb dX9_check_0 rfl (lv_at hl 0 rfl) ?_
  refine lv_iconst (v := 0) hx hb dX9_check_1 (by decide) ?_
  refine va_put (D := D) (ci := 9) (v := .int 0) (ty := .int) (C := RX9) (T := TX9) (N := 32) hx hb hts iw_9 tyX9 tyX9_ok nmX9 hown hK hP hD hS 0 rfl rfl 3 (by decide) (hts (.fieldLink RX9 81 "DepositCodesModel" "fault" "I") (by decide +kernel)) (fun _ h9 => h9) rfl (by decide +kernel) rfl rfl (Nat.le_of_ble_eq_true rfl) dX9_check_2 (fun H locs hP hD hS => ?_)
  have hP : va_P D vwCl [(w0, .inr (9, [.ref a1, .ref a2, .int (nI rdn), .int 0, .int (nI rmn), .ref a3, .ref a4, .ref a5, .ref a6, .ref a7, .ref a8, .ref a9, .ref a10, .ref a11, .ref a12, .ref a13, .int (nI rpn), .int rre, .ref a14, .ref a15, .int (nI rrn), .ref a16, .int (nI rfn), .ref a17, .ref a18, .ref a19, .int (nI rkn), .ref a20, .ref a21, .int (nI rcn), .ref a22, .ref a23]))] H := hP
  have hD : va_D A [(w0, .inr (9, [.ref a1, .ref a2, .int (nI rdn), .int 0, .int (nI rmn), .ref a3, .ref a4, .ref a5, .ref a6, .ref a7, .ref a8, .ref a9, .ref a10, .ref a11, .ref a12, .ref a13, .int (nI rpn), .int rre, .ref a14, .ref a15, .int (nI rrn), .ref a16, .int (nI rfn), .ref a17, .ref a18, .ref a19, .int (nI rkn), .ref a20, .ref a21, .int (nI rcn), .ref a22, .ref a23]))] := hD
  refine lv_iload_n hx hb dX9_check_5 rfl (lv_at hl 1 rfl) ?_
  refine lv_i2l hx hb dX9_check_6 rfl ?_
  refine lv_lconst (v := 1) hx hb dX9_check_7 (by decide) ?_
  refine rd_call (va_runS (As := [.long kd.toInt64, .long 1]) (rest := []) ⟨hx, hb, hml, hown, hts⟩ (kX9_isIn l D cI cJ cZ kd.toInt64 1) (va_cwS 2 hts gX9_check_X9_isIn rfl rfl rfl (by decide +kernel) ⟨Nat.le_of_ble_eq_true rfl, Nat.le_of_ble_eq_true rfl⟩) ⟨rP_blind, rP_pre (va_P_nil) hK hN⟩ rfl rfl hl.1 rfl (lv_room (Nat.le_of_ble_eq_true rfl)) dX9_check_8 ⟨Nat.zero_le _, Nat.zero_le _⟩) ?_
  refine lv_if_eq (tgt := 32) hx hb dX9_check_11 (by decide) (fun c_1 => ?_) (fun c_1 => ?_)
  · rw [if_pos c_1] at hE
    refine lv_iconst (v := (-1)) hx hb dX9_check_32 (by decide) ?_
    subst hE
    exact W.iret hx hb hr (fun t ht hW => ⟨rfl, by rw [ht]; exact hP, hD, hS.F ht⟩) hS.2.2 dX9_check_33
  · rw [if_neg c_1] at hE
    refine lv_lload_n hx hb dX9_check_14 rfl (lv_at hl 2 rfl) ?_
    refine lv_ldc2 hx hb hown (hts (.constantLong RX9 117 999999999999999999) (by decide +kernel)) dX9_check_15 ?_
    refine rd_call (va_runS (As := [.long v, .long 999999999999999999]) (rest := []) ⟨hx, hb, hml, hown, hts⟩ (kX9_isIn l D cI cJ cZ v 999999999999999999) (va_cwS 2 hts gX9_check_X9_isIn rfl rfl rfl (by decide +kernel) ⟨Nat.le_of_ble_eq_true rfl, Nat.le_of_ble_eq_true rfl⟩) ⟨rP_blind, rP_pre (va_P_nil) hK hN⟩ rfl rfl hl.1 rfl (lv_room (Nat.le_of_ble_eq_true rfl)) dX9_check_18 ⟨Nat.zero_le _, Nat.zero_le _⟩) ?_
    refine lv_if_eq (tgt := 32) hx hb dX9_check_21 (by decide) (fun c_2 => ?_) (fun c_2 => ?_)
    · rw [if_pos c_2] at hE
      refine lv_iconst (v := (-1)) hx hb dX9_check_32 (by decide) ?_
      subst hE
      exact W.iret hx hb hr (fun t ht hW => ⟨rfl, by rw [ht]; exact hP, hD, hS.F ht⟩) hS.2.2 dX9_check_33
    · rw [if_neg c_2] at hE
      refine lv_iload_n hx hb dX9_check_24 rfl (lv_at hl 1 rfl) ?_
      refine lv_lload_n hx hb dX9_check_25 rfl (lv_at hl 2 rfl) ?_
      refine rd_call (va_runS (As := [.int kd, .long v]) (rest := []) ⟨hx, hb, hml, hown, hts⟩ (kX9_checkOf l D cI cJ cZ kd v) (va_cwS 2 hts gX9_check_X9_checkOf rfl rfl rfl (by decide +kernel) ⟨Nat.le_of_ble_eq_true rfl, Nat.le_of_ble_eq_true rfl⟩) ⟨rP_blind, rP_pre (va_P_nil) hK hN⟩ rfl rfl hl.1 rfl (lv_room (Nat.le_of_ble_eq_true rfl)) dX9_check_26 ⟨Nat.zero_le _, Nat.zero_le _⟩) ?_
      refine lv_goto (tgt := 33) hx hb dX9_check_29 (by decide) ?_
      subst hE
      exact W.iret hx hb hr (fun t ht hW => ⟨rfl, by rw [ht]; exact hP, hD, hS.F ht⟩) hS.2.2 dX9_check_33
def FX9_good (kd : Int32) (v : Int64) : Int32 × Int32 := if (FX9_isIn kd.toInt64 1) = 0 then (0, 0) else (if (FX9_isIn v 999999999999999999) = 0 then (0, 0) else (if (lg_cmp (v - v / 10 * 10) ((FX9_checkOf kd (v / 10)).toInt64)) = 0 then (1, 0) else (0, 0)))
theorem FX9_good_b (kd : Int32) (v : Int64) : isB ((FX9_good kd v).1) := by
  unfold FX9_good
  repeat' split
  all_goals first | exact isB_0 | exact isB_1
set_option maxHeartbeats 4000000 in
set_option maxRecDepth 100000 in
theorem kX9_good (l : Launch) (D : va_G) (cI cJ cZ : ClassId) (w0 : Nat) (a1 : Nat) (a2 : Nat) (a3 : Nat) (a4 : Nat) (a5 : Nat) (a6 : Nat) (a7 : Nat) (a8 : Nat) (a9 : Nat) (a10 : Nat) (a11 : Nat) (a12 : Nat) (a13 : Nat) (a14 : Nat) (a15 : Nat) (a16 : Nat) (a17 : Nat) (a18 : Nat) (a19 : Nat) (a20 : Nat) (a21 : Nat) (a22 : Nat) (a23 : Nat) (rdn : Nat) (rfa : Int32) (rmn : Nat) (rpn : Nat) (rre : Int32) (rrn : Nat) (rfn : Nat) (rkn : Nat) (rcn : Nat) (kd : Int32) (v : Int64) (sz : Nat) : Met l yX9_good wsX9_good ({ frames := 1, cells := 0, slots := 0, locals := 28 }) (mP D (tz cI cJ cZ) [.ref w0, .int kd, .long v] sz [(w0, .inr (9, [.ref a1, .ref a2, .int (nI rdn), .int rfa, .int (nI rmn), .ref a3, .ref a4, .ref a5, .ref a6, .ref a7, .ref a8, .ref a9, .ref a10, .ref a11, .ref a12, .ref a13, .int (nI rpn), .int rre, .ref a14, .ref a15, .int (nI rrn), .ref a16, .int (nI rfn), .ref a17, .ref a18, .ref a19, .int (nI rkn), .ref a20, .ref a21, .int (nI rcn), .ref a22, .ref a23]))]) (mQ D (some (.int ((FX9_good kd v).1))) [(w0, .inr (9, [.ref a1, .ref a2, .int (nI rdn), .int ((FX9_good kd v).2), .int (nI rmn), .ref a3, .ref a4, .ref a5, .ref a6, .ref a7, .ref a8, .ref a9, .ref a10, .ref a11, .ref a12, .ref a13, .int (nI rpn), .int rre, .ref a14, .ref a15, .int (nI rrn), .ref a16, .int (nI rfn), .ref a17, .ref a18, .ref a19, .int (nI rkn), .ref a20, .ref a21, .int (nI rcn), .ref a22, .ref a23]))] (va_A [(w0, .inr (9, [.ref a1, .ref a2, .int (nI rdn), .int rfa, .int (nI rmn), .ref a3, .ref a4, .ref a5, .ref a6, .ref a7, .ref a8, .ref a9, .ref a10, .ref a11, .ref a12, .ref a13, .int (nI rpn), .int rre, .ref a14, .ref a15, .int (nI rrn), .ref a16, .int (nI rfn), .ref a17, .ref a18, .ref a19, .int (nI rkn), .ref a20, .ref a21, .int (nI rcn), .ref a22, .ref a23]))] sz)) 0 0 (va_A [(w0, .inr (9, [.ref a1, .ref a2, .int (nI rdn), .int rfa, .int (nI rmn), .ref a3, .ref a4, .ref a5, .ref a6, .ref a7, .ref a8, .ref a9, .ref a10, .ref a11, .ref a12, .ref a13, .int (nI rpn), .int rre, .ref a14, .ref a15, .int (nI rrn), .ref a16, .int (nI rfn), .ref a17, .ref a18, .ref a19, .int (nI rkn), .ref a20, .ref a21, .int (nI rcn), .ref a22, .ref a23]))] sz) := by
  refine Met.ofW (cc := cX9_good) (maxL := 4) (ret := (some .boolean)) (by decide) rfl ?_
  intro p e s m args below meth c s₁ B hml hv
  obtain ⟨rfl, hsz, hP, hK, hD0, hN⟩ := hv
  have hx := B.exec
  have hb := B.bytes
  have hr := B.returns
  have hts := atoms_spec (ws := wsX9_good) B.pre
  have hown : s.vm.findClass RX9 = some m.cls := findClass_of_methodNamed B.named
  have hlocks := B.notSynchronized
  have iw_9 : ∀ w ∈ u_ws RX9 TX9 32, w ∈ wsX9_good := by decide +kernel
  subst hsz
  have hD := hD0.self (sz := s.heap.size)
  generalize hE : FX9_good kd v = R0
  generalize hAe : va_A [(w0, .inr (9, [.ref a1, .ref a2, .int (nI rdn), .int rfa, .int (nI rmn), .ref a3, .ref a4, .ref a5, .ref a6, .ref a7, .ref a8, .ref a9, .ref a10, .ref a11, .ref a12, .ref a13, .int (nI rpn), .int rre, .ref a14, .ref a15, .int (nI rrn), .ref a16, .int (nI rfn), .ref a17, .ref a18, .ref a19, .int (nI rkn), .ref a20, .ref a21, .int (nI rcn), .ref a22, .ref a23]))] s.heap.size = A at hD ⊢
  have hA : ∀ q : Nat, s.heap.size ≤ q → A q := fun q h => by rw [← hAe]; exact Or.inr h
  have hS : va_S A s.heap s.heap [] := va_S.rf
  rw [FX9_good] at hE
  have hl := lv_entry ([.ref w0, .int kd, .long v]) (n := 4) (Nat.le_of_ble_eq_true rfl)
  rw [lg_entry_eq]
  generalize (lg_sl ([.ref w0, .int kd, .long v]) ++ List.replicate (4 - (lg_sl ([.ref w0, .int kd, .long v])).length) Slot.unset).toArray = ls at hl ⊢
  have hl : lv_has ls 4 [(0, .ref w0), (1, .int kd), (2, .long v)] := hl
  refine lv_aload_n hx hb dX9_good_0 rfl (lv_at hl 0 rfl) ?_
  refine lv_iconst (v := 0) hx hb dX9_good_1 (by decide) ?_
  refine va_put (D := D) (ci := 9) (v := .int 0) (ty := .int) (C := RX9) (T := TX9) (N := 32) hx hb hts iw_9 tyX9 tyX9_ok nmX9 hown hK hP hD hS 0 rfl rfl 3 (by decide) (hts (.fieldLink RX9 81 "DepositCodesModel" "fault" "I") (by decide +kernel)) (fun _ h9 => h9) rfl (by decide +kernel) rfl rfl (Nat.le_of_ble_eq_true rfl) dX9_good_2 (fun H locs hP hD hS => ?_)
  have hP : va_P D vwCl [(w0, .inr (9, [.ref a1, .ref a2, .int (nI rdn), .int 0, .int (nI rmn), .ref a3, .ref a4, .ref a5, .ref a6, .ref a7, .ref a8, .ref a9, .ref a10, .ref a11, .ref a12, .ref a13, .int (nI rpn), .int rre, .ref a14, .ref a15, .int (nI rrn), .ref a16, .int (nI rfn), .ref a17, .ref a18, .ref a19, .int (nI rkn), .ref a20, .ref a21, .int (nI rcn), .ref a22, .ref a23]))] H := hP
  have hD : va_D A [(w0, .inr (9, [.ref a1, .ref a2, .int (nI rdn), .int 0, .int (nI rmn), .ref a3, .ref a4, .ref a5, .ref a6, .ref a7, .ref a8, .ref a9, .ref a10, .ref a11, .ref a12, .ref a13, .int (nI rpn), .int rre, .ref a14, .ref a15, .int (nI rrn), .ref a16, .int (nI rfn), .ref a17, .ref a18, .ref a19, .int (nI rkn), .ref a20, .ref a21, .int (nI rcn), .ref a22, .ref a23]))] := hD
  refine lv_iload_n hx hb dX9_good_5 rfl (lv_at hl 1 rfl) ?_
  refine lv_i2l hx hb dX9_good_6 rfl ?_
  refine lv_lconst (v := 1) hx hb dX9_good_7 (by decide) ?_
  refine rd_call (va_runS (As := [.long kd.toInt64, .long 1]) (rest := []) ⟨hx, hb, hml, hown, hts⟩ (kX9_isIn l D cI cJ cZ kd.toInt64 1) (va_cwS 2 hts gX9_good_X9_isIn rfl rfl rfl (by decide +kernel) ⟨Nat.le_of_ble_eq_true rfl, Nat.le_of_ble_eq_true rfl⟩) ⟨rP_blind, rP_pre (va_P_nil) hK hN⟩ rfl rfl hl.1 rfl (lv_room (Nat.le_of_ble_eq_true rfl)) dX9_good_8 ⟨Nat.zero_le _, Nat.zero_le _⟩) ?_
  refine lv_if_eq (tgt := 47) hx hb dX9_good_11 (by decide) (fun c_1 => ?_) (fun c_1 => ?_)
  · rw [if_pos c_1] at hE
    refine lv_iconst (v := 0) hx hb dX9_good_47 (by decide) ?_
    subst hE
    exact W.zret hx hb hr narrow_b0 (fun t ht hW => ⟨rfl, by rw [ht]; exact hP, hD, hS.F ht⟩) hS.2.2 dX9_good_48
  · rw [if_neg c_1] at hE
    refine lv_lload_n hx hb dX9_good_14 rfl (lv_at hl 2 rfl) ?_
    refine lv_ldc2 hx hb hown (hts (.constantLong RX9 117 999999999999999999) (by decide +kernel)) dX9_good_15 ?_
    refine rd_call (va_runS (As := [.long v, .long 999999999999999999]) (rest := []) ⟨hx, hb, hml, hown, hts⟩ (kX9_isIn l D cI cJ cZ v 999999999999999999) (va_cwS 2 hts gX9_good_X9_isIn rfl rfl rfl (by decide +kernel) ⟨Nat.le_of_ble_eq_true rfl, Nat.le_of_ble_eq_true rfl⟩) ⟨rP_blind, rP_pre (va_P_nil) hK hN⟩ rfl rfl hl.1 rfl (lv_room (Nat.le_of_ble_eq_true rfl)) dX9_good_18 ⟨Nat.zero_le _, Nat.zero_le _⟩) ?_
    refine lv_if_eq (tgt := 47) hx hb dX9_good_21 (by decide) (fun c_2 => ?_) (fun c_2 => ?_)
    · rw [if_pos c_2] at hE
      refine lv_iconst (v := 0) hx hb dX9_good_47 (by decide) ?_
      subst hE
      exact W.zret hx hb hr narrow_b0 (fun t ht hW => ⟨rfl, by rw [ht]; exact hP, hD, hS.F ht⟩) hS.2.2 dX9_good_48
    · rw [if_neg c_2] at hE
      refine lv_lload_n hx hb dX9_good_24 rfl (lv_at hl 2 rfl) ?_
      refine lv_ldc2 hx hb hown (hts (.constantLong RX9 115 10) (by decide +kernel)) dX9_good_25 ?_
      refine lv_lrem hx hb dX9_good_28 (by decide) ?_
      refine lv_iload_n hx hb dX9_good_29 rfl (lv_at hl 1 rfl) ?_
      refine lv_lload_n hx hb dX9_good_30 rfl (lv_at hl 2 rfl) ?_
      refine lv_ldc2 hx hb hown (hts (.constantLong RX9 115 10) (by decide +kernel)) dX9_good_31 ?_
      refine lv_ldiv hx hb dX9_good_34 (by decide) ?_
      refine rd_call (va_runS (As := [.int kd, .long (v / 10)]) (rest := [.long (v - v / 10 * 10)]) ⟨hx, hb, hml, hown, hts⟩ (kX9_checkOf l D cI cJ cZ kd (v / 10)) (va_cwS 2 hts gX9_good_X9_checkOf rfl rfl rfl (by decide +kernel) ⟨Nat.le_of_ble_eq_true rfl, Nat.le_of_ble_eq_true rfl⟩) ⟨rP_blind, rP_pre (va_P_nil) hK hN⟩ rfl rfl hl.1 rfl (lv_room (Nat.le_of_ble_eq_true rfl)) dX9_good_35 ⟨Nat.zero_le _, Nat.zero_le _⟩) ?_
      refine lv_i2l hx hb dX9_good_38 rfl ?_
      refine W.lcmp hx hb dX9_good_39 ?_
      refine lv_if_ne (tgt := 47) hx hb dX9_good_40 (by decide) (fun c_3 => ?_) (fun c_3 => ?_)
      · rw [if_neg c_3] at hE
        refine lv_iconst (v := 0) hx hb dX9_good_47 (by decide) ?_
        subst hE
        exact W.zret hx hb hr narrow_b0 (fun t ht hW => ⟨rfl, by rw [ht]; exact hP, hD, hS.F ht⟩) hS.2.2 dX9_good_48
      · rw [if_pos c_3] at hE
        refine lv_iconst (v := 1) hx hb dX9_good_43 (by decide) ?_
        refine lv_goto (tgt := 48) hx hb dX9_good_44 (by decide) ?_
        subst hE
        exact W.zret hx hb hr narrow_b1 (fun t ht hW => ⟨rfl, by rw [ht]; exact hP, hD, hS.F ht⟩) hS.2.2 dX9_good_48
def FX9_payingOf_l6 (rpn : Nat) (rse : Nat → Int32) (rsn : Nat → Int64) (rpa : Nat → Int32) (rco : Nat → Int32) (v : Int64) (st : Int32) : Nat → Nat → Int32 → Int32
  | 0, _, _ => 0
  | n + 1, k, fo => if rpn ≤ k then fo else (if (rco k) = 0 then FX9_payingOf_l6 rpn rse rsn rpa rco v st n (k + 1) fo else (if (lg_cmp (rsn k) v) = 0 then (if (rse ((rpa k).toNatClampNeg)) = st then FX9_payingOf_l6 rpn rse rsn rpa rco v st n (k + 1) (nI k) else FX9_payingOf_l6 rpn rse rsn rpa rco v st n (k + 1) fo) else FX9_payingOf_l6 rpn rse rsn rpa rco v st n (k + 1) fo))
def FX9_payingOf (rpn : Nat) (rse : Nat → Int32) (rsn : Nat → Int64) (rpa : Nat → Int32) (rco : Nat → Int32) (v : Int64) (st : Int32) : Int32 := FX9_payingOf_l6 rpn rse rsn rpa rco v st (rpn + 1) 0 (-1)
set_option maxHeartbeats 4000000 in
set_option maxRecDepth 100000 in
theorem kX9_payingOf (l : Launch) (D : va_G) (cI cJ cZ : ClassId) (w0 : Nat) (a1 : Nat) (a2 : Nat) (a3 : Nat) (a4 : Nat) (a5 : Nat) (a6 : Nat) (a7 : Nat) (a8 : Nat) (a9 : Nat) (a10 : Nat) (a11 : Nat) (a12 : Nat) (a13 : Nat) (a14 : Nat) (a15 : Nat) (a16 : Nat) (a17 : Nat) (a18 : Nat) (a19 : Nat) (a20 : Nat) (a21 : Nat) (a22 : Nat) (a23 : Nat) (rdn : Nat) (rfa : Int32) (rmn : Nat) (rpn : Nat) (rre : Int32) (rrn : Nat) (rfn : Nat) (rkn : Nat) (rcn : Nat) (rse : Nat → Int32) (rsn : Nat → Int64) (rpa : Nat → Int32) (rco : Nat → Int32) (v : Int64) (st : Int32) (hpn : rpn ≤ 200) (hpy : ∀ j, j < rpn → vp_in (rpa j) 6) : Met l yX9_payingOf wsX9_payingOf ({ frames := 0, cells := 0, slots := 0, locals := 0 }) (rP D (tz cI cJ cZ) [.ref w0, .long v, .int st] [(w0, .inr (9, [.ref a1, .ref a2, .int (nI rdn), .int rfa, .int (nI rmn), .ref a3, .ref a4, .ref a5, .ref a6, .ref a7, .ref a8, .ref a9, .ref a10, .ref a11, .ref a12, .ref a13, .int (nI rpn), .int rre, .ref a14, .ref a15, .int (nI rrn), .ref a16, .int (nI rfn), .ref a17, .ref a18, .ref a19, .int (nI rkn), .ref a20, .ref a21, .int (nI rcn), .ref a22, .ref a23])), (a3, .inl (cI, 6, .inl rse)), (a8, .inl (cJ, 200, .inr (.inl rsn))), (a9, .inl (cI, 200, .inl rpa)), (a12, .inl (cZ, 200, .inl rco))]) (k2_QcV (.int (FX9_payingOf rpn rse rsn rpa rco v st))) 0 0 (fun _ => False) := by
  refine Met.ofW (cc := cX9_payingOf) (maxL := 6) (ret := (some .int)) (by decide) rfl ?_
  intro p e s m args below meth c s₁ B hml hv
  obtain ⟨rfl, hP, hK, hN⟩ := hv
  have hx := B.exec
  have hb := B.bytes
  have hr := B.returns
  have hts := atoms_spec (ws := wsX9_payingOf) B.pre
  have hown : s.vm.findClass RX9 = some m.cls := findClass_of_methodNamed B.named
  have hlocks := B.notSynchronized
  have iw_9 : ∀ w ∈ u_ws RX9 TX9 32, w ∈ wsX9_payingOf := by decide +kernel
  generalize hE : FX9_payingOf rpn rse rsn rpa rco v st = R0
  rw [FX9_payingOf] at hE
  have hl := lv_entry ([.ref w0, .long v, .int st]) (n := 6) (Nat.le_of_ble_eq_true rfl)
  rw [lg_entry_eq]
  generalize (lg_sl ([.ref w0, .long v, .int st]) ++ List.replicate (6 - (lg_sl ([.ref w0, .long v, .int st])).length) Slot.unset).toArray = ls at hl ⊢
  have hl : lv_has ls 6 [(0, .ref w0), (1, .long v), (3, .int st)] := hl
  have loop_6 : ∀ (n : Nat) (k : Nat) (fo : Int32), k ≤ rpn → k + n = rpn + 1 → FX9_payingOf_l6 rpn rse rsn rpa rco v st n k fo = R0 → ∀ ls : Array Slot, lv_has ls 6 [(5, .int (nI k)), (4, .int fo), (0, .ref w0), (1, .long v), (3, .int st)] → W p l e (headSpec wsX9_payingOf ({ frames := 0, cells := 0, slots := 0, locals := 0 })).room s m ([.ref w0, .long v, .int st] : List Value).toArray below meth c s.heap [] 0 0 (MQ below (k2_QcV (.int R0)) ([.ref w0, .long v, .int st] : List Value).toArray s 0 0 (fun _ => False)) (F0 m 6 ls []) := by
    intro n
    induction n with
    | zero =>
      intro k fo i_1 i_2
      exact absurd i_1 (by omega)
    | succ n ih =>
      intro k fo i_1 i_2 hE ls hl
      rw [FX9_payingOf_l6] at hE
      refine lv_iload hx hb dX9_payingOf_6 (lv_at hl 0 rfl) ?_
      refine lv_aload_n hx hb dX9_payingOf_8 rfl (lv_at hl 2 rfl) ?_
      refine va_get (D := D) (ci := 9) (v := .int (nI rpn)) (C := RX9) (T := TX9) (N := 32) hx hb hts iw_9 hown hK hP 0 rfl rfl 16 (by decide) (hts (.fieldLink RX9 140 "DepositCodesModel" "paid" "I") (by decide +kernel)) (fun _ h9 => h9) rfl dX9_payingOf_9 ?_
      refine lv_icmp_ge (tgt := 68) hx hb dX9_payingOf_12 (by decide) (fun c_1 => ?_) (fun c_1 => ?_)
      · have c_1 : rpn ≤ k := (nI_leI (a := rpn) (b := k) (by omega) (by omega)).mp c_1
        rw [if_pos c_1] at hE
        refine lv_iload hx hb dX9_payingOf_68 (lv_at hl 1 rfl) ?_
        exact W.iret hx hb hr (fun t ht hW => ⟨by rw [← hE], ht⟩) (fun q h => absurd h List.not_mem_nil) dX9_payingOf_70
      · have c_1 : ¬ rpn ≤ k := fun h9 => c_1 ((nI_leI (a := rpn) (b := k) (by omega) (by omega)).mpr h9)
        rw [if_neg c_1] at hE
        refine lv_aload_n hx hb dX9_payingOf_15 rfl (lv_at hl 2 rfl) ?_
        refine va_get (D := D) (ci := 9) (v := .ref a12) (C := RX9) (T := TX9) (N := 32) hx hb hts iw_9 hown hK hP 0 rfl rfl 14 (by decide) (hts (.fieldLink RX9 45 "DepositCodesModel" "counts" "[Z") (by decide +kernel)) (fun _ h9 => h9) rfl dX9_payingOf_16 ?_
        refine lv_iload hx hb dX9_payingOf_19 (lv_at hl 0 rfl) ?_
        refine na_zald hx hb hK hP 4 2 rfl rfl (by omega) (by decide) dX9_payingOf_21 ?_
        refine lv_if_eq (tgt := 58) hx hb dX9_payingOf_22 (by decide) (fun c_2 => ?_) (fun c_2 => ?_)
        · rw [if_pos c_2] at hE
          refine lv_iload hx hb dX9_payingOf_58 (lv_at hl 1 rfl) ?_
          refine lv_istore (lv' := [(4, .int fo), (5, .int (nI k)), (0, .ref w0), (1, .long v), (3, .int st)]) hx hb dX9_payingOf_60 hl (by decide) rfl (fun ls hl => ?_)
          refine lv_iinc (v := nI (k + 1)) (lv' := [(5, .int (nI (k + 1))), (4, .int fo), (0, .ref w0), (1, .long v), (3, .int st)]) hx hb dX9_payingOf_62 hl (k := 1) rfl (nI_1 k) (by decide) rfl (fun ls hl => ?_)
          refine lv_goto (tgt := 6) hx hb dX9_payingOf_65 (by decide) ?_
          exact ih (k + 1) fo (by omega) (by omega) hE ls (lv_sub hl [0, 1, 2, 3, 4] rfl)
        · rw [if_neg c_2] at hE
          refine lv_aload_n hx hb dX9_payingOf_25 rfl (lv_at hl 2 rfl) ?_
          refine va_get (D := D) (ci := 9) (v := .ref a8) (C := RX9) (T := TX9) (N := 32) hx hb hts iw_9 hown hK hP 0 rfl rfl 10 (by decide) (hts (.fieldLink RX9 32 "DepositCodesModel" "serials" "[J") (by decide +kernel)) (fun _ h9 => h9) rfl dX9_payingOf_26 ?_
          refine lv_iload hx hb dX9_payingOf_29 (lv_at hl 0 rfl) ?_
          refine na_lald hx hb hK hP 2 1 rfl rfl (by omega) (by decide) dX9_payingOf_31 ?_
          refine lv_lload_n hx hb dX9_payingOf_32 rfl (lv_at hl 3 rfl) ?_
          refine W.lcmp hx hb dX9_payingOf_33 ?_
          refine lv_if_ne (tgt := 58) hx hb dX9_payingOf_34 (by decide) (fun c_3 => ?_) (fun c_3 => ?_)
          · rw [if_neg c_3] at hE
            refine lv_iload hx hb dX9_payingOf_58 (lv_at hl 1 rfl) ?_
            refine lv_istore (lv' := [(4, .int fo), (5, .int (nI k)), (0, .ref w0), (1, .long v), (3, .int st)]) hx hb dX9_payingOf_60 hl (by decide) rfl (fun ls hl => ?_)
            refine lv_iinc (v := nI (k + 1)) (lv' := [(5, .int (nI (k + 1))), (4, .int fo), (0, .ref w0), (1, .long v), (3, .int st)]) hx hb dX9_payingOf_62 hl (k := 1) rfl (nI_1 k) (by decide) rfl (fun ls hl => ?_)
            refine lv_goto (tgt := 6) hx hb dX9_payingOf_65 (by decide) ?_
            exact ih (k + 1) fo (by omega) (by omega) hE ls (lv_sub hl [0, 1, 2, 3, 4] rfl)
          · rw [if_pos c_3] at hE
            refine lv_aload_n hx hb dX9_payingOf_37 rfl (lv_at hl 2 rfl) ?_
            refine va_get (D := D) (ci := 9) (v := .ref a3) (C := RX9) (T := TX9) (N := 32) hx hb hts iw_9 hown hK hP 0 rfl rfl 5 (by decide) (hts (.fieldLink RX9 16 "DepositCodesModel" "sets" "[I") (by decide +kernel)) (fun _ h9 => h9) rfl dX9_payingOf_38 ?_
            refine lv_aload_n hx hb dX9_payingOf_41 rfl (lv_at hl 2 rfl) ?_
            refine va_get (D := D) (ci := 9) (v := .ref a9) (C := RX9) (T := TX9) (N := 32) hx hb hts iw_9 hown hK hP 0 rfl rfl 11 (by decide) (hts (.fieldLink RX9 36 "DepositCodesModel" "payers" "[I") (by decide +kernel)) (fun _ h9 => h9) rfl dX9_payingOf_42 ?_
            refine lv_iload hx hb dX9_payingOf_45 (lv_at hl 0 rfl) ?_
            refine na_iald hx hb hK hP 3 0 rfl rfl (by omega) (by decide) dX9_payingOf_47 ?_
            refine va_iald hx hb hK hP 1 0 rfl rfl (hpy k (by omega)) dX9_payingOf_48 ?_
            refine lv_iload_n hx hb dX9_payingOf_49 rfl (lv_at hl 4 rfl) ?_
            refine lv_icmp_ne (tgt := 58) hx hb dX9_payingOf_50 (by decide) (fun c_4 => ?_) (fun c_4 => ?_)
            · rw [if_neg c_4] at hE
              refine lv_iload hx hb dX9_payingOf_58 (lv_at hl 1 rfl) ?_
              refine lv_istore (lv' := [(4, .int fo), (5, .int (nI k)), (0, .ref w0), (1, .long v), (3, .int st)]) hx hb dX9_payingOf_60 hl (by decide) rfl (fun ls hl => ?_)
              refine lv_iinc (v := nI (k + 1)) (lv' := [(5, .int (nI (k + 1))), (4, .int fo), (0, .ref w0), (1, .long v), (3, .int st)]) hx hb dX9_payingOf_62 hl (k := 1) rfl (nI_1 k) (by decide) rfl (fun ls hl => ?_)
              refine lv_goto (tgt := 6) hx hb dX9_payingOf_65 (by decide) ?_
              exact ih (k + 1) fo (by omega) (by omega) hE ls (lv_sub hl [0, 1, 2, 3, 4] rfl)
            · rw [if_pos c_4] at hE
              refine lv_iload hx hb dX9_payingOf_53 (lv_at hl 0 rfl) ?_
              refine lv_goto (tgt := 60) hx hb dX9_payingOf_55 (by decide) ?_
              refine lv_istore (lv' := [(4, .int (nI k)), (5, .int (nI k)), (0, .ref w0), (1, .long v), (3, .int st)]) hx hb dX9_payingOf_60 hl (by decide) rfl (fun ls hl => ?_)
              refine lv_iinc (v := nI (k + 1)) (lv' := [(5, .int (nI (k + 1))), (4, .int (nI k)), (0, .ref w0), (1, .long v), (3, .int st)]) hx hb dX9_payingOf_62 hl (k := 1) rfl (nI_1 k) (by decide) rfl (fun ls hl => ?_)
              refine lv_goto (tgt := 6) hx hb dX9_payingOf_65 (by decide) ?_
              exact ih (k + 1) (nI k) (by omega) (by omega) hE ls (lv_sub hl [0, 1, 2, 3, 4] rfl)
  refine lv_iconst (v := (-1)) hx hb dX9_payingOf_0 (by decide) ?_
  refine lv_istore (lv' := [(4, .int (-1)), (0, .ref w0), (1, .long v), (3, .int st)]) hx hb dX9_payingOf_1 hl (by decide) rfl (fun ls hl => ?_)
  refine lv_iconst (v := 0) hx hb dX9_payingOf_3 (by decide) ?_
  refine lv_istore (lv' := [(5, .int 0), (4, .int (-1)), (0, .ref w0), (1, .long v), (3, .int st)]) hx hb dX9_payingOf_4 hl (by decide) rfl (fun ls hl => ?_)
  exact loop_6 (rpn + 1) 0 (-1) (by omega) (by omega) hE ls (lv_sub hl [0, 1, 2, 3, 4] rfl)
def FX9_reasonFor (rmn : Nat) (rpn : Nat) (rse : Nat → Int32) (rfu : Nat → Int32) (rda : Nat → Int32) (rle : Nat → Int32) (rmo : Nat → Int32) (rsn : Nat → Int64) (rpa : Nat → Int32) (rco : Nat → Int32) (k : Int32) (v : Int64) (sh : Int32) (w : Int32) : Int32 × Int32 := if ((FX9_isMachine rmn k).1) = 0 then (1, (FX9_isMachine rmn k).2) else (if (rfu k.toNatClampNeg) = 0 then (if (rda k.toNatClampNeg) = 0 then (if (FX9_isIn sh.toInt64 7) = 0 then (4, (FX9_isMachine rmn k).2) else (if (rle sh.toNatClampNeg) = (-1) then (4, (FX9_isMachine rmn k).2) else (if w < (rle sh.toNatClampNeg) then (5, (FX9_isMachine rmn k).2) else (if w ≤ (rmo sh.toNatClampNeg) then (if (lg_cmp (v - v / 10 * 10) ((FX9_checkOf 0 (v / 10)).toInt64)) = 0 then (if 0 ≤ (FX9_payingOf rpn rse rsn rpa rco v (rse k.toNatClampNeg)) then (7, (FX9_isMachine rmn k).2) else (0, (FX9_isMachine rmn k).2)) else (6, (FX9_isMachine rmn k).2)) else (5, (FX9_isMachine rmn k).2))))) else (3, (FX9_isMachine rmn k).2)) else (2, (FX9_isMachine rmn k).2))
set_option maxHeartbeats 4000000 in
set_option maxRecDepth 100000 in
theorem kX9_reasonFor (l : Launch) (D : va_G) (cI cJ cZ : ClassId) (w0 : Nat) (a1 : Nat) (a2 : Nat) (a3 : Nat) (a4 : Nat) (a5 : Nat) (a6 : Nat) (a7 : Nat) (a8 : Nat) (a9 : Nat) (a10 : Nat) (a11 : Nat) (a12 : Nat) (a13 : Nat) (a14 : Nat) (a15 : Nat) (a16 : Nat) (a17 : Nat) (a18 : Nat) (a19 : Nat) (a20 : Nat) (a21 : Nat) (a22 : Nat) (a23 : Nat) (rdn : Nat) (rfa : Int32) (rmn : Nat) (rpn : Nat) (rre : Int32) (rrn : Nat) (rfn : Nat) (rkn : Nat) (rcn : Nat) (rse : Nat → Int32) (rfu : Nat → Int32) (rda : Nat → Int32) (rle : Nat → Int32) (rmo : Nat → Int32) (rsn : Nat → Int64) (rpa : Nat → Int32) (rco : Nat → Int32) (k : Int32) (v : Int64) (sh : Int32) (w : Int32) (sz : Nat) (hmn : rmn ≤ 6) (hpn : rpn ≤ 200) (hpy : ∀ j, j < rpn → vp_in (rpa j) 6) : Met l yX9_reasonFor wsX9_reasonFor ({ frames := 1, cells := 0, slots := 0, locals := 28 }) (mP D (tz cI cJ cZ) [.ref w0, .int k, .long v, .int sh, .int w] sz [(w0, .inr (9, [.ref a1, .ref a2, .int (nI rdn), .int rfa, .int (nI rmn), .ref a3, .ref a4, .ref a5, .ref a6, .ref a7, .ref a8, .ref a9, .ref a10, .ref a11, .ref a12, .ref a13, .int (nI rpn), .int rre, .ref a14, .ref a15, .int (nI rrn), .ref a16, .int (nI rfn), .ref a17, .ref a18, .ref a19, .int (nI rkn), .ref a20, .ref a21, .int (nI rcn), .ref a22, .ref a23])), (a3, .inl (cI, 6, .inl rse)), (a4, .inl (cZ, 6, .inl rfu)), (a5, .inl (cZ, 6, .inl rda)), (a6, .inl (cI, 8, .inl rle)), (a7, .inl (cI, 8, .inl rmo)), (a8, .inl (cJ, 200, .inr (.inl rsn))), (a9, .inl (cI, 200, .inl rpa)), (a12, .inl (cZ, 200, .inl rco))]) (mQ D (some (.int ((FX9_reasonFor rmn rpn rse rfu rda rle rmo rsn rpa rco k v sh w).1))) [(w0, .inr (9, [.ref a1, .ref a2, .int (nI rdn), .int ((FX9_reasonFor rmn rpn rse rfu rda rle rmo rsn rpa rco k v sh w).2), .int (nI rmn), .ref a3, .ref a4, .ref a5, .ref a6, .ref a7, .ref a8, .ref a9, .ref a10, .ref a11, .ref a12, .ref a13, .int (nI rpn), .int rre, .ref a14, .ref a15, .int (nI rrn), .ref a16, .int (nI rfn), .ref a17, .ref a18, .ref a19, .int (nI rkn), .ref a20, .ref a21, .int (nI rcn), .ref a22, .ref a23])), (a3, .inl (cI, 6, .inl rse)), (a4, .inl (cZ, 6, .inl rfu)), (a5, .inl (cZ, 6, .inl rda)), (a6, .inl (cI, 8, .inl rle)), (a7, .inl (cI, 8, .inl rmo)), (a8, .inl (cJ, 200, .inr (.inl rsn))), (a9, .inl (cI, 200, .inl rpa)), (a12, .inl (cZ, 200, .inl rco))] (va_A [(w0, .inr (9, [.ref a1, .ref a2, .int (nI rdn), .int rfa, .int (nI rmn), .ref a3, .ref a4, .ref a5, .ref a6, .ref a7, .ref a8, .ref a9, .ref a10, .ref a11, .ref a12, .ref a13, .int (nI rpn), .int rre, .ref a14, .ref a15, .int (nI rrn), .ref a16, .int (nI rfn), .ref a17, .ref a18, .ref a19, .int (nI rkn), .ref a20, .ref a21, .int (nI rcn), .ref a22, .ref a23])), (a3, .inl (cI, 6, .inl rse)), (a4, .inl (cZ, 6, .inl rfu)), (a5, .inl (cZ, 6, .inl rda)), (a6, .inl (cI, 8, .inl rle)), (a7, .inl (cI, 8, .inl rmo)), (a8, .inl (cJ, 200, .inr (.inl rsn))), (a9, .inl (cI, 200, .inl rpa)), (a12, .inl (cZ, 200, .inl rco))] sz)) 0 0 (va_A [(w0, .inr (9, [.ref a1, .ref a2, .int (nI rdn), .int rfa, .int (nI rmn), .ref a3, .ref a4, .ref a5, .ref a6, .ref a7, .ref a8, .ref a9, .ref a10, .ref a11, .ref a12, .ref a13, .int (nI rpn), .int rre, .ref a14, .ref a15, .int (nI rrn), .ref a16, .int (nI rfn), .ref a17, .ref a18, .ref a19, .int (nI rkn), .ref a20, .ref a21, .int (nI rcn), .ref a22, .ref a23])), (a3, .inl (cI, 6, .inl rse)), (a4, .inl (cZ, 6, .inl rfu)), (a5, .inl (cZ, 6, .inl rda)), (a6, .inl (cI, 8, .inl rle)), (a7, .inl (cI, 8, .inl rmo)), (a8, .inl (cJ, 200, .inr (.inl rsn))), (a9, .inl (cI, 200, .inl rpa)), (a12, .inl (cZ, 200, .inl rco))] sz) := by
  refine Met.ofW (cc := cX9_reasonFor) (maxL := 6) (ret := (some .int)) (by decide) rfl ?_
  intro p e s m args below meth c s₁ B hml hv
  obtain ⟨rfl, hsz, hP, hK, hD0, hN⟩ := hv
  have hx := B.exec
  have hb := B.bytes
  have hr := B.returns
  have hts := atoms_spec (ws := wsX9_reasonFor) B.pre
  have hown : s.vm.findClass RX9 = some m.cls := findClass_of_methodNamed B.named
  have hlocks := B.notSynchronized
  have iw_9 : ∀ w ∈ u_ws RX9 TX9 32, w ∈ wsX9_reasonFor := by decide +kernel
  subst hsz
  have hD := hD0.self (sz := s.heap.size)
  generalize hE : FX9_reasonFor rmn rpn rse rfu rda rle rmo rsn rpa rco k v sh w = R0
  generalize hAe : va_A [(w0, .inr (9, [.ref a1, .ref a2, .int (nI rdn), .int rfa, .int (nI rmn), .ref a3, .ref a4, .ref a5, .ref a6, .ref a7, .ref a8, .ref a9, .ref a10, .ref a11, .ref a12, .ref a13, .int (nI rpn), .int rre, .ref a14, .ref a15, .int (nI rrn), .ref a16, .int (nI rfn), .ref a17, .ref a18, .ref a19, .int (nI rkn), .ref a20, .ref a21, .int (nI rcn), .ref a22, .ref a23])), (a3, .inl (cI, 6, .inl rse)), (a4, .inl (cZ, 6, .inl rfu)), (a5, .inl (cZ, 6, .inl rda)), (a6, .inl (cI, 8, .inl rle)), (a7, .inl (cI, 8, .inl rmo)), (a8, .inl (cJ, 200, .inr (.inl rsn))), (a9, .inl (cI, 200, .inl rpa)), (a12, .inl (cZ, 200, .inl rco))] s.heap.size = A at hD ⊢
  have hA : ∀ q : Nat, s.heap.size ≤ q → A q := fun q h => by rw [← hAe]; exact Or.inr h
  have hS : va_S A s.heap s.heap [] := va_S.rf
  rw [FX9_reasonFor] at hE
  have hl := lv_entry ([.ref w0, .int k, .long v, .int sh, .int w]) (n := 6) (Nat.le_of_ble_eq_true rfl)
  rw [lg_entry_eq]
  generalize (lg_sl ([.ref w0, .int k, .long v, .int sh, .int w]) ++ List.replicate (6 - (lg_sl ([.ref w0, .int k, .long v, .int sh, .int w])).length) Slot.unset).toArray = ls at hl ⊢
  have hl : lv_has ls 6 [(0, .ref w0), (1, .int k), (2, .long v), (4, .int sh), (5, .int w)] := hl
  refine lv_aload_n hx hb dX9_reasonFor_0 rfl (lv_at hl 0 rfl) ?_
  refine lv_iload_n hx hb dX9_reasonFor_1 rfl (lv_at hl 1 rfl) ?_
  refine mt_call0 (wr := [(a3, .inl (cI, 6, .inl rse)), (a4, .inl (cZ, 6, .inl rfu)), (a5, .inl (cZ, 6, .inl rda)), (a6, .inl (cI, 8, .inl rle)), (a7, .inl (cI, 8, .inl rmo)), (a8, .inl (cJ, 200, .inr (.inl rsn))), (a9, .inl (cI, 200, .inl rpa)), (a12, .inl (cZ, 200, .inl rco))]) (ws' := [(w0, .inr (9, [.ref a1, .ref a2, .int (nI rdn), .int ((FX9_isMachine rmn k).2), .int (nI rmn), .ref a3, .ref a4, .ref a5, .ref a6, .ref a7, .ref a8, .ref a9, .ref a10, .ref a11, .ref a12, .ref a13, .int (nI rpn), .int rre, .ref a14, .ref a15, .int (nI rrn), .ref a16, .int (nI rfn), .ref a17, .ref a18, .ref a19, .int (nI rkn), .ref a20, .ref a21, .int (nI rcn), .ref a22, .ref a23])), (a3, .inl (cI, 6, .inl rse)), (a4, .inl (cZ, 6, .inl rfu)), (a5, .inl (cZ, 6, .inl rda)), (a6, .inl (cI, 8, .inl rle)), (a7, .inl (cI, 8, .inl rmo)), (a8, .inl (cJ, 200, .inr (.inl rsn))), (a9, .inl (cI, 200, .inl rpa)), (a12, .inl (cZ, 200, .inl rco))]) (st1 := [.int ((FX9_isMachine rmn k).1)]) (va_runV (As := [.int k]) (rest := []) ⟨hx, hb, hml, hown, hts⟩ (kX9_isMachine l D cI cJ cZ w0 a1 a2 a3 a4 a5 a6 a7 a8 a9 a10 a11 a12 a13 a14 a15 a16 a17 a18 a19 a20 a21 a22 a23 rdn rfa rmn rpn rre rrn rfn rkn rcn k _) (cwV 1 hts gX9_reasonFor_X9_isMachine rfl rfl rfl (by decide +kernel) ⟨Nat.le_of_ble_eq_true rfl, Nat.le_of_ble_eq_true rfl⟩) ⟨mP_blind, va_recv hK hP (ci := 9) (q0 := 0) rfl rfl, mP_pre (hP.sub [0] rfl) (hD.sub [0] (by decide) rfl) hK hN⟩ rfl rfl hl.1 rfl (lv_room (Nat.le_of_ble_eq_true rfl)) dX9_reasonFor_2 ⟨Nat.zero_le _, Nat.zero_le _⟩) hP hD hS hA [0] [1, 2, 3, 4, 5, 6, 7, 8] [8, 0, 1, 2, 3, 4, 5, 6, 7] rfl rfl (by decide) (by decide) (by decide) rfl rfl (fun H locs hP hD hS => ?_)
  refine lv_if_ne (tgt := 10) hx hb dX9_reasonFor_5 (by decide) (fun c_1 => ?_) (fun c_1 => ?_)
  · rw [if_neg c_1] at hE
    have hin : vp_in k 6 := mach_in (by assumption) hmn
    refine lv_aload_n hx hb dX9_reasonFor_10 rfl (lv_at hl 0 rfl) ?_
    refine va_get (D := D) (ci := 9) (v := .ref a4) (C := RX9) (T := TX9) (N := 32) hx hb hts iw_9 hown hK hP 0 rfl rfl 6 (by decide) (hts (.fieldLink RX9 19 "DepositCodesModel" "isFull" "[Z") (by decide +kernel)) (fun _ h9 => h9) rfl dX9_reasonFor_11 ?_
    refine lv_iload_n hx hb dX9_reasonFor_14 rfl (lv_at hl 1 rfl) ?_
    refine va_zald hx hb hK hP 2 2 rfl rfl (by assumption) dX9_reasonFor_15 ?_
    refine lv_if_eq (tgt := 21) hx hb dX9_reasonFor_16 (by decide) (fun c_2 => ?_) (fun c_2 => ?_)
    · rw [if_pos c_2] at hE
      refine lv_aload_n hx hb dX9_reasonFor_21 rfl (lv_at hl 0 rfl) ?_
      refine va_get (D := D) (ci := 9) (v := .ref a5) (C := RX9) (T := TX9) (N := 32) hx hb hts iw_9 hown hK hP 0 rfl rfl 7 (by decide) (hts (.fieldLink RX9 23 "DepositCodesModel" "isDark" "[Z") (by decide +kernel)) (fun _ h9 => h9) rfl dX9_reasonFor_22 ?_
      refine lv_iload_n hx hb dX9_reasonFor_25 rfl (lv_at hl 1 rfl) ?_
      refine va_zald hx hb hK hP 3 2 rfl rfl (by assumption) dX9_reasonFor_26 ?_
      refine lv_if_eq (tgt := 32) hx hb dX9_reasonFor_27 (by decide) (fun c_3 => ?_) (fun c_3 => ?_)
      · rw [if_pos c_3] at hE
        refine lv_iload hx hb dX9_reasonFor_32 (lv_at hl 3 rfl) ?_
        refine lv_i2l hx hb dX9_reasonFor_34 rfl ?_
        refine lv_ldc2 hx hb hown (hts (.constantLong RX9 125 7) (by decide +kernel)) dX9_reasonFor_35 ?_
        refine rd_call (va_runS (As := [.long sh.toInt64, .long 7]) (rest := []) ⟨hx, hb, hml, hown, hts⟩ (kX9_isIn l D cI cJ cZ sh.toInt64 7) (va_cwS 2 hts gX9_reasonFor_X9_isIn rfl rfl rfl (by decide +kernel) ⟨Nat.le_of_ble_eq_true rfl, Nat.le_of_ble_eq_true rfl⟩) ⟨rP_blind, rP_pre (va_P_nil) hK hN⟩ rfl rfl hl.1 rfl (lv_room (Nat.le_of_ble_eq_true rfl)) dX9_reasonFor_38 ⟨Nat.zero_le _, Nat.zero_le _⟩) ?_
        refine lv_if_eq (tgt := 55) hx hb dX9_reasonFor_41 (by decide) (fun c_4 => ?_) (fun c_4 => ?_)
        · rw [if_pos c_4] at hE
          refine lv_iconst (v := 4) hx hb dX9_reasonFor_55 (by decide) ?_
          subst hE
          exact W.iret hx hb hr (fun t ht hW => ⟨rfl, by rw [ht]; exact hP, hD, hS.F ht⟩) hS.2.2 dX9_reasonFor_56
        · rw [if_neg c_4] at hE
          have hin2 : vp_in sh 8 := isIn_in (K := 7) (by assumption) (by decide)
          refine lv_aload_n hx hb dX9_reasonFor_44 rfl (lv_at hl 0 rfl) ?_
          refine va_get (D := D) (ci := 9) (v := .ref a6) (C := RX9) (T := TX9) (N := 32) hx hb hts iw_9 hown hK hP 0 rfl rfl 8 (by decide) (hts (.fieldLink RX9 26 "DepositCodesModel" "leasts" "[I") (by decide +kernel)) (fun _ h9 => h9) rfl dX9_reasonFor_45 ?_
          refine lv_iload hx hb dX9_reasonFor_48 (lv_at hl 3 rfl) ?_
          refine va_iald hx hb hK hP 4 0 rfl rfl (by assumption) dX9_reasonFor_50 ?_
          refine lv_iconst (v := (-1)) hx hb dX9_reasonFor_51 (by decide) ?_
          refine lv_icmp_ne (tgt := 57) hx hb dX9_reasonFor_52 (by decide) (fun c_5 => ?_) (fun c_5 => ?_)
          · rw [if_neg c_5] at hE
            refine lv_iload hx hb dX9_reasonFor_57 (lv_at hl 4 rfl) ?_
            refine lv_aload_n hx hb dX9_reasonFor_59 rfl (lv_at hl 0 rfl) ?_
            refine va_get (D := D) (ci := 9) (v := .ref a6) (C := RX9) (T := TX9) (N := 32) hx hb hts iw_9 hown hK hP 0 rfl rfl 8 (by decide) (hts (.fieldLink RX9 26 "DepositCodesModel" "leasts" "[I") (by decide +kernel)) (fun _ h9 => h9) rfl dX9_reasonFor_60 ?_
            refine lv_iload hx hb dX9_reasonFor_63 (lv_at hl 3 rfl) ?_
            refine va_iald hx hb hK hP 4 0 rfl rfl (by assumption) dX9_reasonFor_65 ?_
            refine lv_icmp_lt (tgt := 81) hx hb dX9_reasonFor_66 (by decide) (fun c_6 => ?_) (fun c_6 => ?_)
            · rw [if_pos c_6] at hE
              refine lv_iconst (v := 5) hx hb dX9_reasonFor_81 (by decide) ?_
              subst hE
              exact W.iret hx hb hr (fun t ht hW => ⟨rfl, by rw [ht]; exact hP, hD, hS.F ht⟩) hS.2.2 dX9_reasonFor_82
            · rw [if_neg c_6] at hE
              refine lv_iload hx hb dX9_reasonFor_69 (lv_at hl 4 rfl) ?_
              refine lv_aload_n hx hb dX9_reasonFor_71 rfl (lv_at hl 0 rfl) ?_
              refine va_get (D := D) (ci := 9) (v := .ref a7) (C := RX9) (T := TX9) (N := 32) hx hb hts iw_9 hown hK hP 0 rfl rfl 9 (by decide) (hts (.fieldLink RX9 29 "DepositCodesModel" "mosts" "[I") (by decide +kernel)) (fun _ h9 => h9) rfl dX9_reasonFor_72 ?_
              refine lv_iload hx hb dX9_reasonFor_75 (lv_at hl 3 rfl) ?_
              refine va_iald hx hb hK hP 5 0 rfl rfl (by assumption) dX9_reasonFor_77 ?_
              refine lv_icmp_le (tgt := 83) hx hb dX9_reasonFor_78 (by decide) (fun c_7 => ?_) (fun c_7 => ?_)
              · rw [if_pos c_7] at hE
                refine lv_lload_n hx hb dX9_reasonFor_83 rfl (lv_at hl 2 rfl) ?_
                refine lv_ldc2 hx hb hown (hts (.constantLong RX9 115 10) (by decide +kernel)) dX9_reasonFor_84 ?_
                refine lv_lrem hx hb dX9_reasonFor_87 (by decide) ?_
                refine lv_iconst (v := 0) hx hb dX9_reasonFor_88 (by decide) ?_
                refine lv_lload_n hx hb dX9_reasonFor_89 rfl (lv_at hl 2 rfl) ?_
                refine lv_ldc2 hx hb hown (hts (.constantLong RX9 115 10) (by decide +kernel)) dX9_reasonFor_90 ?_
                refine lv_ldiv hx hb dX9_reasonFor_93 (by decide) ?_
                refine rd_call (va_runS (As := [.int 0, .long (v / 10)]) (rest := [.long (v - v / 10 * 10)]) ⟨hx, hb, hml, hown, hts⟩ (kX9_checkOf l D cI cJ cZ 0 (v / 10)) (va_cwS 2 hts gX9_reasonFor_X9_checkOf rfl rfl rfl (by decide +kernel) ⟨Nat.le_of_ble_eq_true rfl, Nat.le_of_ble_eq_true rfl⟩) ⟨rP_blind, rP_pre (va_P_nil) hK hN⟩ rfl rfl hl.1 rfl (lv_room (Nat.le_of_ble_eq_true rfl)) dX9_reasonFor_94 ⟨Nat.zero_le _, Nat.zero_le _⟩) ?_
                refine lv_i2l hx hb dX9_reasonFor_97 rfl ?_
                refine W.lcmp hx hb dX9_reasonFor_98 ?_
                refine lv_if_eq (tgt := 105) hx hb dX9_reasonFor_99 (by decide) (fun c_8 => ?_) (fun c_8 => ?_)
                · rw [if_pos c_8] at hE
                  refine lv_aload_n hx hb dX9_reasonFor_105 rfl (lv_at hl 0 rfl) ?_
                  refine lv_lload_n hx hb dX9_reasonFor_106 rfl (lv_at hl 2 rfl) ?_
                  refine lv_aload_n hx hb dX9_reasonFor_107 rfl (lv_at hl 0 rfl) ?_
                  refine va_get (D := D) (ci := 9) (v := .ref a3) (C := RX9) (T := TX9) (N := 32) hx hb hts iw_9 hown hK hP 0 rfl rfl 5 (by decide) (hts (.fieldLink RX9 16 "DepositCodesModel" "sets" "[I") (by decide +kernel)) (fun _ h9 => h9) rfl dX9_reasonFor_108 ?_
                  refine lv_iload_n hx hb dX9_reasonFor_111 rfl (lv_at hl 1 rfl) ?_
                  refine va_iald hx hb hK hP 1 0 rfl rfl (by assumption) dX9_reasonFor_112 ?_
                  refine rd_call (va_runV (As := [.long v, .int (rse k.toNatClampNeg)]) (rest := []) ⟨hx, hb, hml, hown, hts⟩ (kX9_payingOf l D cI cJ cZ w0 a1 a2 a3 a4 a5 a6 a7 a8 a9 a10 a11 a12 a13 a14 a15 a16 a17 a18 a19 a20 a21 a22 a23 rdn ((FX9_isMachine rmn k).2) rmn rpn rre rrn rfn rkn rcn rse rsn rpa rco v (rse k.toNatClampNeg) (by first | assumption | omega) (by first | assumption | omega)) (cwV 2 hts gX9_reasonFor_X9_payingOf rfl rfl rfl (by decide +kernel) ⟨Nat.le_of_ble_eq_true rfl, Nat.le_of_ble_eq_true rfl⟩) ⟨rP_blind, va_recv hK hP (ci := 9) (q0 := 0) rfl rfl, rP_pre (hP.sub [0, 1, 6, 7, 8] rfl) hK hN⟩ rfl rfl hl.1 rfl (lv_room (Nat.le_of_ble_eq_true rfl)) dX9_reasonFor_113 ⟨Nat.zero_le _, Nat.zero_le _⟩) ?_
                  refine lv_if_ge (tgt := 123) hx hb dX9_reasonFor_116 (by decide) (fun c_9 => ?_) (fun c_9 => ?_)
                  · rw [if_pos c_9] at hE
                    refine lv_bipush (v := 7) hx hb dX9_reasonFor_123 (by decide) ?_
                    subst hE
                    exact W.iret hx hb hr (fun t ht hW => ⟨rfl, by rw [ht]; exact hP, hD, hS.F ht⟩) hS.2.2 dX9_reasonFor_125
                  · rw [if_neg c_9] at hE
                    refine lv_iconst (v := 0) hx hb dX9_reasonFor_119 (by decide) ?_
                    refine lv_goto (tgt := 125) hx hb dX9_reasonFor_120 (by decide) ?_
                    subst hE
                    exact W.iret hx hb hr (fun t ht hW => ⟨rfl, by rw [ht]; exact hP, hD, hS.F ht⟩) hS.2.2 dX9_reasonFor_125
                · rw [if_neg c_8] at hE
                  refine lv_bipush (v := 6) hx hb dX9_reasonFor_102 (by decide) ?_
                  subst hE
                  exact W.iret hx hb hr (fun t ht hW => ⟨rfl, by rw [ht]; exact hP, hD, hS.F ht⟩) hS.2.2 dX9_reasonFor_104
              · rw [if_neg c_7] at hE
                refine lv_iconst (v := 5) hx hb dX9_reasonFor_81 (by decide) ?_
                subst hE
                exact W.iret hx hb hr (fun t ht hW => ⟨rfl, by rw [ht]; exact hP, hD, hS.F ht⟩) hS.2.2 dX9_reasonFor_82
          · rw [if_pos c_5] at hE
            refine lv_iconst (v := 4) hx hb dX9_reasonFor_55 (by decide) ?_
            subst hE
            exact W.iret hx hb hr (fun t ht hW => ⟨rfl, by rw [ht]; exact hP, hD, hS.F ht⟩) hS.2.2 dX9_reasonFor_56
      · rw [if_neg c_3] at hE
        refine lv_iconst (v := 3) hx hb dX9_reasonFor_30 (by decide) ?_
        subst hE
        exact W.iret hx hb hr (fun t ht hW => ⟨rfl, by rw [ht]; exact hP, hD, hS.F ht⟩) hS.2.2 dX9_reasonFor_31
    · rw [if_neg c_2] at hE
      refine lv_iconst (v := 2) hx hb dX9_reasonFor_19 (by decide) ?_
      subst hE
      exact W.iret hx hb hr (fun t ht hW => ⟨rfl, by rw [ht]; exact hP, hD, hS.F ht⟩) hS.2.2 dX9_reasonFor_20
  · rw [if_pos c_1] at hE
    refine lv_iconst (v := 1) hx hb dX9_reasonFor_8 (by decide) ?_
    subst hE
    exact W.iret hx hb hr (fun t ht hW => ⟨rfl, by rw [ht]; exact hP, hD, hS.F ht⟩) hS.2.2 dX9_reasonFor_9
def FX9_refuse_l3 (rrn : Nat) (rfn : Nat) (rrf : Nat → Int64) (rof : Nat → Int32) (rfr : Nat → Int32) (mc : Int32) (v : Int64) : Nat → Nat → (Nat → Int64) × (Nat → Int32) × Nat × (Nat → Int32) × Nat
  | 0, _ => (fun _ => 0, fun _ => 0, 0, fun _ => 0, 0)
  | n + 1, k => if rrn ≤ k then (if k = rrn then (if k = rrn then (if (((upd rof k 1) k) - ((upd rof k 1) k) / 3 * 3) = 0 then (vp_updL rrf k v, upd rof k 1, rrn + 1, upd rfr rfn mc, rfn + 1) else (vp_updL rrf k v, upd rof k 1, rrn + 1, rfr, rfn)) else (if (((upd rof k 1) k) - ((upd rof k 1) k) / 3 * 3) = 0 then (vp_updL rrf k v, upd rof k 1, rrn, upd rfr rfn mc, rfn + 1) else (vp_updL rrf k v, upd rof k 1, rrn, rfr, rfn))) else (if k = rrn then (if (((upd rof k ((rof k) + 1)) k) - ((upd rof k ((rof k) + 1)) k) / 3 * 3) = 0 then (vp_updL rrf k v, upd rof k ((rof k) + 1), rrn + 1, upd rfr rfn mc, rfn + 1) else (vp_updL rrf k v, upd rof k ((rof k) + 1), rrn + 1, rfr, rfn)) else (if (((upd rof k ((rof k) + 1)) k) - ((upd rof k ((rof k) + 1)) k) / 3 * 3) = 0 then (vp_updL rrf k v, upd rof k ((rof k) + 1), rrn, upd rfr rfn mc, rfn + 1) else (vp_updL rrf k v, upd rof k ((rof k) + 1), rrn, rfr, rfn)))) else (if (lg_cmp (rrf k) v) = 0 then (if k = rrn then (if k = rrn then (if (((upd rof k 1) k) - ((upd rof k 1) k) / 3 * 3) = 0 then (vp_updL rrf k v, upd rof k 1, rrn + 1, upd rfr rfn mc, rfn + 1) else (vp_updL rrf k v, upd rof k 1, rrn + 1, rfr, rfn)) else (if (((upd rof k 1) k) - ((upd rof k 1) k) / 3 * 3) = 0 then (vp_updL rrf k v, upd rof k 1, rrn, upd rfr rfn mc, rfn + 1) else (vp_updL rrf k v, upd rof k 1, rrn, rfr, rfn))) else (if k = rrn then (if (((upd rof k ((rof k) + 1)) k) - ((upd rof k ((rof k) + 1)) k) / 3 * 3) = 0 then (vp_updL rrf k v, upd rof k ((rof k) + 1), rrn + 1, upd rfr rfn mc, rfn + 1) else (vp_updL rrf k v, upd rof k ((rof k) + 1), rrn + 1, rfr, rfn)) else (if (((upd rof k ((rof k) + 1)) k) - ((upd rof k ((rof k) + 1)) k) / 3 * 3) = 0 then (vp_updL rrf k v, upd rof k ((rof k) + 1), rrn, upd rfr rfn mc, rfn + 1) else (vp_updL rrf k v, upd rof k ((rof k) + 1), rrn, rfr, rfn)))) else FX9_refuse_l3 rrn rfn rrf rof rfr mc v n (k + 1))
def FX9_refuse (rrn : Nat) (rfn : Nat) (rrf : Nat → Int64) (rof : Nat → Int32) (rfr : Nat → Int32) (mc : Int32) (v : Int64) : (Nat → Int64) × (Nat → Int32) × Nat × (Nat → Int32) × Nat := FX9_refuse_l3 rrn rfn rrf rof rfr mc v (rrn + 1) 0
set_option maxHeartbeats 4000000 in
set_option maxRecDepth 100000 in
theorem kX9_refuse (l : Launch) (D : va_G) (cI cJ cZ : ClassId) (w0 : Nat) (a1 : Nat) (a2 : Nat) (a3 : Nat) (a4 : Nat) (a5 : Nat) (a6 : Nat) (a7 : Nat) (a8 : Nat) (a9 : Nat) (a10 : Nat) (a11 : Nat) (a12 : Nat) (a13 : Nat) (a14 : Nat) (a15 : Nat) (a16 : Nat) (a17 : Nat) (a18 : Nat) (a19 : Nat) (a20 : Nat) (a21 : Nat) (a22 : Nat) (a23 : Nat) (rdn : Nat) (rfa : Int32) (rmn : Nat) (rpn : Nat) (rre : Int32) (rrn : Nat) (rfn : Nat) (rkn : Nat) (rcn : Nat) (rrf : Nat → Int64) (rof : Nat → Int32) (rfr : Nat → Int32) (mc : Int32) (v : Int64) (sz : Nat) (hrn : rrn < 1100) (hfn : rfn < 1100) : Met l yX9_refuse wsX9_refuse ({ frames := 0, cells := 0, slots := 0, locals := 0 }) (mP D (tz cI cJ cZ) [.ref w0, .int mc, .long v] sz [(w0, .inr (9, [.ref a1, .ref a2, .int (nI rdn), .int rfa, .int (nI rmn), .ref a3, .ref a4, .ref a5, .ref a6, .ref a7, .ref a8, .ref a9, .ref a10, .ref a11, .ref a12, .ref a13, .int (nI rpn), .int rre, .ref a14, .ref a15, .int (nI rrn), .ref a16, .int (nI rfn), .ref a17, .ref a18, .ref a19, .int (nI rkn), .ref a20, .ref a21, .int (nI rcn), .ref a22, .ref a23])), (a14, .inl (cJ, 1100, .inr (.inl rrf))), (a15, .inl (cI, 1100, .inl rof)), (a16, .inl (cI, 1100, .inl rfr))]) (mQ D none [(w0, .inr (9, [.ref a1, .ref a2, .int (nI rdn), .int rfa, .int (nI rmn), .ref a3, .ref a4, .ref a5, .ref a6, .ref a7, .ref a8, .ref a9, .ref a10, .ref a11, .ref a12, .ref a13, .int (nI rpn), .int rre, .ref a14, .ref a15, .int (nI ((FX9_refuse rrn rfn rrf rof rfr mc v).2.2.1)), .ref a16, .int (nI ((FX9_refuse rrn rfn rrf rof rfr mc v).2.2.2.2)), .ref a17, .ref a18, .ref a19, .int (nI rkn), .ref a20, .ref a21, .int (nI rcn), .ref a22, .ref a23])), (a14, .inl (cJ, 1100, .inr (.inl ((FX9_refuse rrn rfn rrf rof rfr mc v).1)))), (a15, .inl (cI, 1100, .inl ((FX9_refuse rrn rfn rrf rof rfr mc v).2.1))), (a16, .inl (cI, 1100, .inl ((FX9_refuse rrn rfn rrf rof rfr mc v).2.2.2.1)))] (va_A [(w0, .inr (9, [.ref a1, .ref a2, .int (nI rdn), .int rfa, .int (nI rmn), .ref a3, .ref a4, .ref a5, .ref a6, .ref a7, .ref a8, .ref a9, .ref a10, .ref a11, .ref a12, .ref a13, .int (nI rpn), .int rre, .ref a14, .ref a15, .int (nI rrn), .ref a16, .int (nI rfn), .ref a17, .ref a18, .ref a19, .int (nI rkn), .ref a20, .ref a21, .int (nI rcn), .ref a22, .ref a23])), (a14, .inl (cJ, 1100, .inr (.inl rrf))), (a15, .inl (cI, 1100, .inl rof)), (a16, .inl (cI, 1100, .inl rfr))] sz)) 0 0 (va_A [(w0, .inr (9, [.ref a1, .ref a2, .int (nI rdn), .int rfa, .int (nI rmn), .ref a3, .ref a4, .ref a5, .ref a6, .ref a7, .ref a8, .ref a9, .ref a10, .ref a11, .ref a12, .ref a13, .int (nI rpn), .int rre, .ref a14, .ref a15, .int (nI rrn), .ref a16, .int (nI rfn), .ref a17, .ref a18, .ref a19, .int (nI rkn), .ref a20, .ref a21, .int (nI rcn), .ref a22, .ref a23])), (a14, .inl (cJ, 1100, .inr (.inl rrf))), (a15, .inl (cI, 1100, .inl rof)), (a16, .inl (cI, 1100, .inl rfr))] sz) := by
  refine Met.ofW (cc := cX9_refuse) (maxL := 5) (ret := none) (by decide) rfl ?_
  intro p e s m args below meth c s₁ B hml hv
  obtain ⟨rfl, hsz, hP, hK, hD0, hN⟩ := hv
  have hx := B.exec
  have hb := B.bytes
  have hr := B.returns
  have hts := atoms_spec (ws := wsX9_refuse) B.pre
  have hown : s.vm.findClass RX9 = some m.cls := findClass_of_methodNamed B.named
  have hlocks := B.notSynchronized
  have iw_9 : ∀ w ∈ u_ws RX9 TX9 32, w ∈ wsX9_refuse := by decide +kernel
  subst hsz
  have hD := hD0.self (sz := s.heap.size)
  generalize hE : FX9_refuse rrn rfn rrf rof rfr mc v = R0
  generalize hAe : va_A [(w0, .inr (9, [.ref a1, .ref a2, .int (nI rdn), .int rfa, .int (nI rmn), .ref a3, .ref a4, .ref a5, .ref a6, .ref a7, .ref a8, .ref a9, .ref a10, .ref a11, .ref a12, .ref a13, .int (nI rpn), .int rre, .ref a14, .ref a15, .int (nI rrn), .ref a16, .int (nI rfn), .ref a17, .ref a18, .ref a19, .int (nI rkn), .ref a20, .ref a21, .int (nI rcn), .ref a22, .ref a23])), (a14, .inl (cJ, 1100, .inr (.inl rrf))), (a15, .inl (cI, 1100, .inl rof)), (a16, .inl (cI, 1100, .inl rfr))] s.heap.size = A at hD ⊢
  have hA : ∀ q : Nat, s.heap.size ≤ q → A q := fun q h => by rw [← hAe]; exact Or.inr h
  have hS : va_S A s.heap s.heap [] := va_S.rf
  rw [FX9_refuse] at hE
  have hl := lv_entry ([.ref w0, .int mc, .long v]) (n := 5) (Nat.le_of_ble_eq_true rfl)
  rw [lg_entry_eq]
  generalize (lg_sl ([.ref w0, .int mc, .long v]) ++ List.replicate (5 - (lg_sl ([.ref w0, .int mc, .long v])).length) Slot.unset).toArray = ls at hl ⊢
  have hl : lv_has ls 5 [(0, .ref w0), (1, .int mc), (2, .long v)] := hl
  have loop_3 : ∀ (n : Nat) (k : Nat), k ≤ rrn → k + n = rrn + 1 → FX9_refuse_l3 rrn rfn rrf rof rfr mc v n k = R0 → ∀ (H : Heap) (locs : List Loc), va_P D vwCl [(w0, .inr (9, [.ref a1, .ref a2, .int (nI rdn), .int rfa, .int (nI rmn), .ref a3, .ref a4, .ref a5, .ref a6, .ref a7, .ref a8, .ref a9, .ref a10, .ref a11, .ref a12, .ref a13, .int (nI rpn), .int rre, .ref a14, .ref a15, .int (nI rrn), .ref a16, .int (nI rfn), .ref a17, .ref a18, .ref a19, .int (nI rkn), .ref a20, .ref a21, .int (nI rcn), .ref a22, .ref a23])), (a14, .inl (cJ, 1100, .inr (.inl rrf))), (a15, .inl (cI, 1100, .inl rof)), (a16, .inl (cI, 1100, .inl rfr))] H → va_D A [(w0, .inr (9, [.ref a1, .ref a2, .int (nI rdn), .int rfa, .int (nI rmn), .ref a3, .ref a4, .ref a5, .ref a6, .ref a7, .ref a8, .ref a9, .ref a10, .ref a11, .ref a12, .ref a13, .int (nI rpn), .int rre, .ref a14, .ref a15, .int (nI rrn), .ref a16, .int (nI rfn), .ref a17, .ref a18, .ref a19, .int (nI rkn), .ref a20, .ref a21, .int (nI rcn), .ref a22, .ref a23])), (a14, .inl (cJ, 1100, .inr (.inl rrf))), (a15, .inl (cI, 1100, .inl rof)), (a16, .inl (cI, 1100, .inl rfr))] → va_S A s.heap H locs → ∀ ls : Array Slot, lv_has ls 5 [(4, .int (nI k)), (0, .ref w0), (1, .int mc), (2, .long v)] → W p l e (headSpec wsX9_refuse ({ frames := 0, cells := 0, slots := 0, locals := 0 })).room s m ([.ref w0, .int mc, .long v] : List Value).toArray below meth c H locs 0 0 (MQ below (mQ D none [(w0, .inr (9, [.ref a1, .ref a2, .int (nI rdn), .int rfa, .int (nI rmn), .ref a3, .ref a4, .ref a5, .ref a6, .ref a7, .ref a8, .ref a9, .ref a10, .ref a11, .ref a12, .ref a13, .int (nI rpn), .int rre, .ref a14, .ref a15, .int (nI R0.2.2.1), .ref a16, .int (nI R0.2.2.2.2), .ref a17, .ref a18, .ref a19, .int (nI rkn), .ref a20, .ref a21, .int (nI rcn), .ref a22, .ref a23])), (a14, .inl (cJ, 1100, .inr (.inl R0.1))), (a15, .inl (cI, 1100, .inl R0.2.1)), (a16, .inl (cI, 1100, .inl R0.2.2.2.1))] A) ([.ref w0, .int mc, .long v] : List Value).toArray s 0 0 A) (F0 m 3 ls []) := by
    intro n
    induction n with
    | zero =>
      intro k i_1 i_2
      exact absurd i_1 (by omega)
    | succ n ih =>
      intro k i_1 i_2 hE H locs hP hD hS ls hl
      rw [FX9_refuse_l3] at hE
      refine lv_iload hx hb dX9_refuse_3 (lv_at hl 0 rfl) ?_
      refine lv_aload_n hx hb dX9_refuse_5 rfl (lv_at hl 1 rfl) ?_
      refine va_get (D := D) (ci := 9) (v := .int (nI rrn)) (C := RX9) (T := TX9) (N := 32) hx hb hts iw_9 hown hK hP 0 rfl rfl 20 (by decide) (hts (.fieldLink RX9 147 "DepositCodesModel" "refusedCount" "I") (by decide +kernel)) (fun _ h9 => h9) rfl dX9_refuse_6 ?_
      refine lv_icmp_ge (tgt := 30) hx hb dX9_refuse_9 (by decide) (fun c_1 => ?_) (fun c_1 => ?_)
      · have c_1 : rrn ≤ k := (nI_leI (a := rrn) (b := k) (by omega) (by omega)).mp c_1
        rw [if_pos c_1] at hE
        refine lv_aload_n hx hb dX9_refuse_30 rfl (lv_at hl 1 rfl) ?_
        refine va_get (D := D) (ci := 9) (v := .ref a14) (C := RX9) (T := TX9) (N := 32) hx hb hts iw_9 hown hK hP 0 rfl rfl 18 (by decide) (hts (.fieldLink RX9 51 "DepositCodesModel" "refused" "[J") (by decide +kernel)) (fun _ h9 => h9) rfl dX9_refuse_31 ?_
        refine lv_iload hx hb dX9_refuse_34 (lv_at hl 0 rfl) ?_
        refine lv_lload_n hx hb dX9_refuse_36 rfl (lv_at hl 3 rfl) ?_
        refine na_last hx hb hK hP hD hS 1 1 rfl rfl (by omega) (by decide) dX9_refuse_37 (fun H locs hP hD hS => ?_)
        have hP : va_P D vwCl [(w0, .inr (9, [.ref a1, .ref a2, .int (nI rdn), .int rfa, .int (nI rmn), .ref a3, .ref a4, .ref a5, .ref a6, .ref a7, .ref a8, .ref a9, .ref a10, .ref a11, .ref a12, .ref a13, .int (nI rpn), .int rre, .ref a14, .ref a15, .int (nI rrn), .ref a16, .int (nI rfn), .ref a17, .ref a18, .ref a19, .int (nI rkn), .ref a20, .ref a21, .int (nI rcn), .ref a22, .ref a23])), (a14, .inl (cJ, 1100, .inr (.inl (vp_updL rrf k v)))), (a15, .inl (cI, 1100, .inl rof)), (a16, .inl (cI, 1100, .inl rfr))] H := hP
        have hD : va_D A [(w0, .inr (9, [.ref a1, .ref a2, .int (nI rdn), .int rfa, .int (nI rmn), .ref a3, .ref a4, .ref a5, .ref a6, .ref a7, .ref a8, .ref a9, .ref a10, .ref a11, .ref a12, .ref a13, .int (nI rpn), .int rre, .ref a14, .ref a15, .int (nI rrn), .ref a16, .int (nI rfn), .ref a17, .ref a18, .ref a19, .int (nI rkn), .ref a20, .ref a21, .int (nI rcn), .ref a22, .ref a23])), (a14, .inl (cJ, 1100, .inr (.inl (vp_updL rrf k v)))), (a15, .inl (cI, 1100, .inl rof)), (a16, .inl (cI, 1100, .inl rfr))] := hD
        refine lv_aload_n hx hb dX9_refuse_38 rfl (lv_at hl 1 rfl) ?_
        refine va_get (D := D) (ci := 9) (v := .ref a15) (C := RX9) (T := TX9) (N := 32) hx hb hts iw_9 hown hK hP 0 rfl rfl 19 (by decide) (hts (.fieldLink RX9 54 "DepositCodesModel" "often" "[I") (by decide +kernel)) (fun _ h9 => h9) rfl dX9_refuse_39 ?_
        refine lv_iload hx hb dX9_refuse_42 (lv_at hl 0 rfl) ?_
        refine lv_iload hx hb dX9_refuse_44 (lv_at hl 0 rfl) ?_
        refine lv_aload_n hx hb dX9_refuse_46 rfl (lv_at hl 1 rfl) ?_
        refine va_get (D := D) (ci := 9) (v := .int (nI rrn)) (C := RX9) (T := TX9) (N := 32) hx hb hts iw_9 hown hK hP 0 rfl rfl 20 (by decide) (hts (.fieldLink RX9 147 "DepositCodesModel" "refusedCount" "I") (by decide +kernel)) (fun _ h9 => h9) rfl dX9_refuse_47 ?_
        refine lv_icmp_ne (tgt := 57) hx hb dX9_refuse_50 (by decide) (fun c_2 => ?_) (fun c_2 => ?_)
        · have c_2 : ¬ k = rrn := fun h9 => c_2 ((nI_eq (a := k) (b := rrn) (by omega) (by omega)).mpr h9)
          rw [if_neg c_2] at hE
          refine lv_aload_n hx hb dX9_refuse_57 rfl (lv_at hl 1 rfl) ?_
          refine va_get (D := D) (ci := 9) (v := .ref a15) (C := RX9) (T := TX9) (N := 32) hx hb hts iw_9 hown hK hP 0 rfl rfl 19 (by decide) (hts (.fieldLink RX9 54 "DepositCodesModel" "often" "[I") (by decide +kernel)) (fun _ h9 => h9) rfl dX9_refuse_58 ?_
          refine lv_iload hx hb dX9_refuse_61 (lv_at hl 0 rfl) ?_
          refine na_iald hx hb hK hP 2 0 rfl rfl (by omega) (by decide) dX9_refuse_63 ?_
          refine lv_iconst (v := 1) hx hb dX9_refuse_64 (by decide) ?_
          refine lv_iadd hx hb dX9_refuse_65 ?_
          refine na_iast hx hb hK hP hD hS 2 0 rfl rfl (by omega) (by decide) dX9_refuse_66 (fun H locs hP hD hS => ?_)
          have hP : va_P D vwCl [(w0, .inr (9, [.ref a1, .ref a2, .int (nI rdn), .int rfa, .int (nI rmn), .ref a3, .ref a4, .ref a5, .ref a6, .ref a7, .ref a8, .ref a9, .ref a10, .ref a11, .ref a12, .ref a13, .int (nI rpn), .int rre, .ref a14, .ref a15, .int (nI rrn), .ref a16, .int (nI rfn), .ref a17, .ref a18, .ref a19, .int (nI rkn), .ref a20, .ref a21, .int (nI rcn), .ref a22, .ref a23])), (a14, .inl (cJ, 1100, .inr (.inl (vp_updL rrf k v)))), (a15, .inl (cI, 1100, .inl (upd rof k ((rof k) + 1)))), (a16, .inl (cI, 1100, .inl rfr))] H := hP
          have hD : va_D A [(w0, .inr (9, [.ref a1, .ref a2, .int (nI rdn), .int rfa, .int (nI rmn), .ref a3, .ref a4, .ref a5, .ref a6, .ref a7, .ref a8, .ref a9, .ref a10, .ref a11, .ref a12, .ref a13, .int (nI rpn), .int rre, .ref a14, .ref a15, .int (nI rrn), .ref a16, .int (nI rfn), .ref a17, .ref a18, .ref a19, .int (nI rkn), .ref a20, .ref a21, .int (nI rcn), .ref a22, .ref a23])), (a14, .inl (cJ, 1100, .inr (.inl (vp_updL rrf k v)))), (a15, .inl (cI, 1100, .inl (upd rof k ((rof k) + 1)))), (a16, .inl (cI, 1100, .inl rfr))] := hD
          refine lv_aload_n hx hb dX9_refuse_67 rfl (lv_at hl 1 rfl) ?_
          refine lv_iload hx hb dX9_refuse_68 (lv_at hl 0 rfl) ?_
          refine lv_aload_n hx hb dX9_refuse_70 rfl (lv_at hl 1 rfl) ?_
          refine va_get (D := D) (ci := 9) (v := .int (nI rrn)) (C := RX9) (T := TX9) (N := 32) hx hb hts iw_9 hown hK hP 0 rfl rfl 20 (by decide) (hts (.fieldLink RX9 147 "DepositCodesModel" "refusedCount" "I") (by decide +kernel)) (fun _ h9 => h9) rfl dX9_refuse_71 ?_
          refine lv_icmp_ne (tgt := 86) hx hb dX9_refuse_74 (by decide) (fun c_3 => ?_) (fun c_3 => ?_)
          · have c_3 : ¬ k = rrn := fun h9 => c_3 ((nI_eq (a := k) (b := rrn) (by omega) (by omega)).mpr h9)
            rw [if_neg c_3] at hE
            refine lv_aload_n hx hb dX9_refuse_86 rfl (lv_at hl 1 rfl) ?_
            refine va_get (D := D) (ci := 9) (v := .int (nI rrn)) (C := RX9) (T := TX9) (N := 32) hx hb hts iw_9 hown hK hP 0 rfl rfl 20 (by decide) (hts (.fieldLink RX9 147 "DepositCodesModel" "refusedCount" "I") (by decide +kernel)) (fun _ h9 => h9) rfl dX9_refuse_87 ?_
            refine va_put (D := D) (ci := 9) (v := .int (nI rrn)) (ty := .int) (C := RX9) (T := TX9) (N := 32) hx hb hts iw_9 tyX9 tyX9_ok nmX9 hown hK hP hD hS 0 rfl rfl 20 (by decide) (hts (.fieldLink RX9 147 "DepositCodesModel" "refusedCount" "I") (by decide +kernel)) (fun _ h9 => h9) rfl (by decide +kernel) rfl rfl (Nat.le_of_ble_eq_true rfl) dX9_refuse_90 (fun H locs hP hD hS => ?_)
            have hP : va_P D vwCl [(w0, .inr (9, [.ref a1, .ref a2, .int (nI rdn), .int rfa, .int (nI rmn), .ref a3, .ref a4, .ref a5, .ref a6, .ref a7, .ref a8, .ref a9, .ref a10, .ref a11, .ref a12, .ref a13, .int (nI rpn), .int rre, .ref a14, .ref a15, .int (nI rrn), .ref a16, .int (nI rfn), .ref a17, .ref a18, .ref a19, .int (nI rkn), .ref a20, .ref a21, .int (nI rcn), .ref a22, .ref a23])), (a14, .inl (cJ, 1100, .inr (.inl (vp_updL rrf k v)))), (a15, .inl (cI, 1100, .inl (upd rof k ((rof k) + 1)))), (a16, .inl (cI, 1100, .inl rfr))] H := hP
            have hD : va_D A [(w0, .inr (9, [.ref a1, .ref a2, .int (nI rdn), .int rfa, .int (nI rmn), .ref a3, .ref a4, .ref a5, .ref a6, .ref a7, .ref a8, .ref a9, .ref a10, .ref a11, .ref a12, .ref a13, .int (nI rpn), .int rre, .ref a14, .ref a15, .int (nI rrn), .ref a16, .int (nI rfn), .ref a17, .ref a18, .ref a19, .int (nI rkn), .ref a20, .ref a21, .int (nI rcn), .ref a22, .ref a23])), (a14, .inl (cJ, 1100, .inr (.inl (vp_updL rrf k v)))), (a15, .inl (cI, 1100, .inl (upd rof k ((rof k) + 1)))), (a16, .inl (cI, 1100, .inl rfr))] := hD
            refine lv_aload_n hx hb dX9_refuse_93 rfl (lv_at hl 1 rfl) ?_
            refine va_get (D := D) (ci := 9) (v := .ref a15) (C := RX9) (T := TX9) (N := 32) hx hb hts iw_9 hown hK hP 0 rfl rfl 19 (by decide) (hts (.fieldLink RX9 54 "DepositCodesModel" "often" "[I") (by decide +kernel)) (fun _ h9 => h9) rfl dX9_refuse_94 ?_
            refine lv_iload hx hb dX9_refuse_97 (lv_at hl 0 rfl) ?_
            refine na_iald hx hb hK hP 2 0 rfl rfl (by omega) (by decide) dX9_refuse_99 ?_
            refine lv_iconst (v := 3) hx hb dX9_refuse_100 (by decide) ?_
            refine lv_irem hx hb dX9_refuse_101 (by decide) ?_
            refine lv_if_ne (tgt := 125) hx hb dX9_refuse_102 (by decide) (fun c_4 => ?_) (fun c_4 => ?_)
            · rw [if_neg c_4] at hE
              subst hE
              exact W.vret hx hb hr (fun t ht hW => ⟨rfl, by rw [ht]; exact hP, hD, hS.F ht⟩) hS.2.2 dX9_refuse_125
            · rw [if_pos c_4] at hE
              refine lv_aload_n hx hb dX9_refuse_105 rfl (lv_at hl 1 rfl) ?_
              refine va_get (D := D) (ci := 9) (v := .ref a16) (C := RX9) (T := TX9) (N := 32) hx hb hts iw_9 hown hK hP 0 rfl rfl 21 (by decide) (hts (.fieldLink RX9 57 "DepositCodesModel" "frauds" "[I") (by decide +kernel)) (fun _ h9 => h9) rfl dX9_refuse_106 ?_
              refine lv_aload_n hx hb dX9_refuse_109 rfl (lv_at hl 1 rfl) ?_
              refine va_get (D := D) (ci := 9) (v := .int (nI rfn)) (C := RX9) (T := TX9) (N := 32) hx hb hts iw_9 hown hK hP 0 rfl rfl 22 (by decide) (hts (.fieldLink RX9 150 "DepositCodesModel" "fraudCount" "I") (by decide +kernel)) (fun _ h9 => h9) rfl dX9_refuse_110 ?_
              refine lv_iload_n hx hb dX9_refuse_113 rfl (lv_at hl 2 rfl) ?_
              refine na_iast hx hb hK hP hD hS 3 0 rfl rfl (by omega) (by decide) dX9_refuse_114 (fun H locs hP hD hS => ?_)
              have hP : va_P D vwCl [(w0, .inr (9, [.ref a1, .ref a2, .int (nI rdn), .int rfa, .int (nI rmn), .ref a3, .ref a4, .ref a5, .ref a6, .ref a7, .ref a8, .ref a9, .ref a10, .ref a11, .ref a12, .ref a13, .int (nI rpn), .int rre, .ref a14, .ref a15, .int (nI rrn), .ref a16, .int (nI rfn), .ref a17, .ref a18, .ref a19, .int (nI rkn), .ref a20, .ref a21, .int (nI rcn), .ref a22, .ref a23])), (a14, .inl (cJ, 1100, .inr (.inl (vp_updL rrf k v)))), (a15, .inl (cI, 1100, .inl (upd rof k ((rof k) + 1)))), (a16, .inl (cI, 1100, .inl (upd rfr rfn mc)))] H := hP
              have hD : va_D A [(w0, .inr (9, [.ref a1, .ref a2, .int (nI rdn), .int rfa, .int (nI rmn), .ref a3, .ref a4, .ref a5, .ref a6, .ref a7, .ref a8, .ref a9, .ref a10, .ref a11, .ref a12, .ref a13, .int (nI rpn), .int rre, .ref a14, .ref a15, .int (nI rrn), .ref a16, .int (nI rfn), .ref a17, .ref a18, .ref a19, .int (nI rkn), .ref a20, .ref a21, .int (nI rcn), .ref a22, .ref a23])), (a14, .inl (cJ, 1100, .inr (.inl (vp_updL rrf k v)))), (a15, .inl (cI, 1100, .inl (upd rof k ((rof k) + 1)))), (a16, .inl (cI, 1100, .inl (upd rfr rfn mc)))] := hD
              refine lv_aload_n hx hb dX9_refuse_115 rfl (lv_at hl 1 rfl) ?_
              refine lv_dup hx hb dX9_refuse_116 rfl ?_
              refine va_get (D := D) (ci := 9) (v := .int (nI rfn)) (C := RX9) (T := TX9) (N := 32) hx hb hts iw_9 hown hK hP 0 rfl rfl 22 (by decide) (hts (.fieldLink RX9 150 "DepositCodesModel" "fraudCount" "I") (by decide +kernel)) (fun _ h9 => h9) rfl dX9_refuse_117 ?_
              refine lv_iconst (v := 1) hx hb dX9_refuse_120 (by decide) ?_
              refine lv_iadd hx hb dX9_refuse_121 ?_
              refine na_top (show (nI rfn) + 1 = nI (rfn + 1) from nI_add rfn 1) ?_
              refine va_put (D := D) (ci := 9) (v := .int (nI (rfn + 1))) (ty := .int) (C := RX9) (T := TX9) (N := 32) hx hb hts iw_9 tyX9 tyX9_ok nmX9 hown hK hP hD hS 0 rfl rfl 22 (by decide) (hts (.fieldLink RX9 150 "DepositCodesModel" "fraudCount" "I") (by decide +kernel)) (fun _ h9 => h9) rfl (by decide +kernel) rfl rfl (Nat.le_of_ble_eq_true rfl) dX9_refuse_122 (fun H locs hP hD hS => ?_)
              have hP : va_P D vwCl [(w0, .inr (9, [.ref a1, .ref a2, .int (nI rdn), .int rfa, .int (nI rmn), .ref a3, .ref a4, .ref a5, .ref a6, .ref a7, .ref a8, .ref a9, .ref a10, .ref a11, .ref a12, .ref a13, .int (nI rpn), .int rre, .ref a14, .ref a15, .int (nI rrn), .ref a16, .int (nI (rfn + 1)), .ref a17, .ref a18, .ref a19, .int (nI rkn), .ref a20, .ref a21, .int (nI rcn), .ref a22, .ref a23])), (a14, .inl (cJ, 1100, .inr (.inl (vp_updL rrf k v)))), (a15, .inl (cI, 1100, .inl (upd rof k ((rof k) + 1)))), (a16, .inl (cI, 1100, .inl (upd rfr rfn mc)))] H := hP
              have hD : va_D A [(w0, .inr (9, [.ref a1, .ref a2, .int (nI rdn), .int rfa, .int (nI rmn), .ref a3, .ref a4, .ref a5, .ref a6, .ref a7, .ref a8, .ref a9, .ref a10, .ref a11, .ref a12, .ref a13, .int (nI rpn), .int rre, .ref a14, .ref a15, .int (nI rrn), .ref a16, .int (nI (rfn + 1)), .ref a17, .ref a18, .ref a19, .int (nI rkn), .ref a20, .ref a21, .int (nI rcn), .ref a22, .ref a23])), (a14, .inl (cJ, 1100, .inr (.inl (vp_updL rrf k v)))), (a15, .inl (cI, 1100, .inl (upd rof k ((rof k) + 1)))), (a16, .inl (cI, 1100, .inl (upd rfr rfn mc)))] := hD
              subst hE
              exact W.vret hx hb hr (fun t ht hW => ⟨rfl, by rw [ht]; exact hP, hD, hS.F ht⟩) hS.2.2 dX9_refuse_125
          · have c_3 : k = rrn := (nI_eq (a := k) (b := rrn) (by omega) (by omega)).mp c_3
            rw [if_pos c_3] at hE
            refine lv_aload_n hx hb dX9_refuse_77 rfl (lv_at hl 1 rfl) ?_
            refine va_get (D := D) (ci := 9) (v := .int (nI rrn)) (C := RX9) (T := TX9) (N := 32) hx hb hts iw_9 hown hK hP 0 rfl rfl 20 (by decide) (hts (.fieldLink RX9 147 "DepositCodesModel" "refusedCount" "I") (by decide +kernel)) (fun _ h9 => h9) rfl dX9_refuse_78 ?_
            refine lv_iconst (v := 1) hx hb dX9_refuse_81 (by decide) ?_
            refine lv_iadd hx hb dX9_refuse_82 ?_
            refine na_top (show (nI rrn) + 1 = nI (rrn + 1) from nI_add rrn 1) ?_
            refine lv_goto (tgt := 90) hx hb dX9_refuse_83 (by decide) ?_
            refine va_put (D := D) (ci := 9) (v := .int (nI (rrn + 1))) (ty := .int) (C := RX9) (T := TX9) (N := 32) hx hb hts iw_9 tyX9 tyX9_ok nmX9 hown hK hP hD hS 0 rfl rfl 20 (by decide) (hts (.fieldLink RX9 147 "DepositCodesModel" "refusedCount" "I") (by decide +kernel)) (fun _ h9 => h9) rfl (by decide +kernel) rfl rfl (Nat.le_of_ble_eq_true rfl) dX9_refuse_90 (fun H locs hP hD hS => ?_)
            have hP : va_P D vwCl [(w0, .inr (9, [.ref a1, .ref a2, .int (nI rdn), .int rfa, .int (nI rmn), .ref a3, .ref a4, .ref a5, .ref a6, .ref a7, .ref a8, .ref a9, .ref a10, .ref a11, .ref a12, .ref a13, .int (nI rpn), .int rre, .ref a14, .ref a15, .int (nI (rrn + 1)), .ref a16, .int (nI rfn), .ref a17, .ref a18, .ref a19, .int (nI rkn), .ref a20, .ref a21, .int (nI rcn), .ref a22, .ref a23])), (a14, .inl (cJ, 1100, .inr (.inl (vp_updL rrf k v)))), (a15, .inl (cI, 1100, .inl (upd rof k ((rof k) + 1)))), (a16, .inl (cI, 1100, .inl rfr))] H := hP
            have hD : va_D A [(w0, .inr (9, [.ref a1, .ref a2, .int (nI rdn), .int rfa, .int (nI rmn), .ref a3, .ref a4, .ref a5, .ref a6, .ref a7, .ref a8, .ref a9, .ref a10, .ref a11, .ref a12, .ref a13, .int (nI rpn), .int rre, .ref a14, .ref a15, .int (nI (rrn + 1)), .ref a16, .int (nI rfn), .ref a17, .ref a18, .ref a19, .int (nI rkn), .ref a20, .ref a21, .int (nI rcn), .ref a22, .ref a23])), (a14, .inl (cJ, 1100, .inr (.inl (vp_updL rrf k v)))), (a15, .inl (cI, 1100, .inl (upd rof k ((rof k) + 1)))), (a16, .inl (cI, 1100, .inl rfr))] := hD
            refine lv_aload_n hx hb dX9_refuse_93 rfl (lv_at hl 1 rfl) ?_
            refine va_get (D := D) (ci := 9) (v := .ref a15) (C := RX9) (T := TX9) (N := 32) hx hb hts iw_9 hown hK hP 0 rfl rfl 19 (by decide) (hts (.fieldLink RX9 54 "DepositCodesModel" "often" "[I") (by decide +kernel)) (fun _ h9 => h9) rfl dX9_refuse_94 ?_
            refine lv_iload hx hb dX9_refuse_97 (lv_at hl 0 rfl) ?_
            refine na_iald hx hb hK hP 2 0 rfl rfl (by omega) (by decide) dX9_refuse_99 ?_
            refine lv_iconst (v := 3) hx hb dX9_refuse_100 (by decide) ?_
            refine lv_irem hx hb dX9_refuse_101 (by decide) ?_
            refine lv_if_ne (tgt := 125) hx hb dX9_refuse_102 (by decide) (fun c_5 => ?_) (fun c_5 => ?_)
            · rw [if_neg c_5] at hE
              subst hE
              exact W.vret hx hb hr (fun t ht hW => ⟨rfl, by rw [ht]; exact hP, hD, hS.F ht⟩) hS.2.2 dX9_refuse_125
            · rw [if_pos c_5] at hE
              refine lv_aload_n hx hb dX9_refuse_105 rfl (lv_at hl 1 rfl) ?_
              refine va_get (D := D) (ci := 9) (v := .ref a16) (C := RX9) (T := TX9) (N := 32) hx hb hts iw_9 hown hK hP 0 rfl rfl 21 (by decide) (hts (.fieldLink RX9 57 "DepositCodesModel" "frauds" "[I") (by decide +kernel)) (fun _ h9 => h9) rfl dX9_refuse_106 ?_
              refine lv_aload_n hx hb dX9_refuse_109 rfl (lv_at hl 1 rfl) ?_
              refine va_get (D := D) (ci := 9) (v := .int (nI rfn)) (C := RX9) (T := TX9) (N := 32) hx hb hts iw_9 hown hK hP 0 rfl rfl 22 (by decide) (hts (.fieldLink RX9 150 "DepositCodesModel" "fraudCount" "I") (by decide +kernel)) (fun _ h9 => h9) rfl dX9_refuse_110 ?_
              refine lv_iload_n hx hb dX9_refuse_113 rfl (lv_at hl 2 rfl) ?_
              refine na_iast hx hb hK hP hD hS 3 0 rfl rfl (by omega) (by decide) dX9_refuse_114 (fun H locs hP hD hS => ?_)
              have hP : va_P D vwCl [(w0, .inr (9, [.ref a1, .ref a2, .int (nI rdn), .int rfa, .int (nI rmn), .ref a3, .ref a4, .ref a5, .ref a6, .ref a7, .ref a8, .ref a9, .ref a10, .ref a11, .ref a12, .ref a13, .int (nI rpn), .int rre, .ref a14, .ref a15, .int (nI (rrn + 1)), .ref a16, .int (nI rfn), .ref a17, .ref a18, .ref a19, .int (nI rkn), .ref a20, .ref a21, .int (nI rcn), .ref a22, .ref a23])), (a14, .inl (cJ, 1100, .inr (.inl (vp_updL rrf k v)))), (a15, .inl (cI, 1100, .inl (upd rof k ((rof k) + 1)))), (a16, .inl (cI, 1100, .inl (upd rfr rfn mc)))] H := hP
              have hD : va_D A [(w0, .inr (9, [.ref a1, .ref a2, .int (nI rdn), .int rfa, .int (nI rmn), .ref a3, .ref a4, .ref a5, .ref a6, .ref a7, .ref a8, .ref a9, .ref a10, .ref a11, .ref a12, .ref a13, .int (nI rpn), .int rre, .ref a14, .ref a15, .int (nI (rrn + 1)), .ref a16, .int (nI rfn), .ref a17, .ref a18, .ref a19, .int (nI rkn), .ref a20, .ref a21, .int (nI rcn), .ref a22, .ref a23])), (a14, .inl (cJ, 1100, .inr (.inl (vp_updL rrf k v)))), (a15, .inl (cI, 1100, .inl (upd rof k ((rof k) + 1)))), (a16, .inl (cI, 1100, .inl (upd rfr rfn mc)))] := hD
              refine lv_aload_n hx hb dX9_refuse_115 rfl (lv_at hl 1 rfl) ?_
              refine lv_dup hx hb dX9_refuse_116 rfl ?_
              refine va_get (D := D) (ci := 9) (v := .int (nI rfn)) (C := RX9) (T := TX9) (N := 32) hx hb hts iw_9 hown hK hP 0 rfl rfl 22 (by decide) (hts (.fieldLink RX9 150 "DepositCodesModel" "fraudCount" "I") (by decide +kernel)) (fun _ h9 => h9) rfl dX9_refuse_117 ?_
              refine lv_iconst (v := 1) hx hb dX9_refuse_120 (by decide) ?_
              refine lv_iadd hx hb dX9_refuse_121 ?_
              refine na_top (show (nI rfn) + 1 = nI (rfn + 1) from nI_add rfn 1) ?_
              refine va_put (D := D) (ci := 9) (v := .int (nI (rfn + 1))) (ty := .int) (C := RX9) (T := TX9) (N := 32) hx hb hts iw_9 tyX9 tyX9_ok nmX9 hown hK hP hD hS 0 rfl rfl 22 (by decide) (hts (.fieldLink RX9 150 "DepositCodesModel" "fraudCount" "I") (by decide +kernel)) (fun _ h9 => h9) rfl (by decide +kernel) rfl rfl (Nat.le_of_ble_eq_true rfl) dX9_refuse_122 (fun H locs hP hD hS => ?_)
              have hP : va_P D vwCl [(w0, .inr (9, [.ref a1, .ref a2, .int (nI rdn), .int rfa, .int (nI rmn), .ref a3, .ref a4, .ref a5, .ref a6, .ref a7, .ref a8, .ref a9, .ref a10, .ref a11, .ref a12, .ref a13, .int (nI rpn), .int rre, .ref a14, .ref a15, .int (nI (rrn + 1)), .ref a16, .int (nI (rfn + 1)), .ref a17, .ref a18, .ref a19, .int (nI rkn), .ref a20, .ref a21, .int (nI rcn), .ref a22, .ref a23])), (a14, .inl (cJ, 1100, .inr (.inl (vp_updL rrf k v)))), (a15, .inl (cI, 1100, .inl (upd rof k ((rof k) + 1)))), (a16, .inl (cI, 1100, .inl (upd rfr rfn mc)))] H := hP
              have hD : va_D A [(w0, .inr (9, [.ref a1, .ref a2, .int (nI rdn), .int rfa, .int (nI rmn), .ref a3, .ref a4, .ref a5, .ref a6, .ref a7, .ref a8, .ref a9, .ref a10, .ref a11, .ref a12, .ref a13, .int (nI rpn), .int rre, .ref a14, .ref a15, .int (nI (rrn + 1)), .ref a16, .int (nI (rfn + 1)), .ref a17, .ref a18, .ref a19, .int (nI rkn), .ref a20, .ref a21, .int (nI rcn), .ref a22, .ref a23])), (a14, .inl (cJ, 1100, .inr (.inl (vp_updL rrf k v)))), (a15, .inl (cI, 1100, .inl (upd rof k ((rof k) + 1)))), (a16, .inl (cI, 1100, .inl (upd rfr rfn mc)))] := hD
              subst hE
              exact W.vret hx hb hr (fun t ht hW => ⟨rfl, by rw [ht]; exact hP, hD, hS.F ht⟩) hS.2.2 dX9_refuse_125
        · have c_2 : k = rrn := (nI_eq (a := k) (b := rrn) (by omega) (by omega)).mp c_2
          rw [if_pos c_2] at hE
          refine lv_iconst (v := 1) hx hb dX9_refuse_53 (by decide) ?_
          refine lv_goto (tgt := 66) hx hb dX9_refuse_54 (by decide) ?_
          refine na_iast hx hb hK hP hD hS 2 0 rfl rfl (by omega) (by decide) dX9_refuse_66 (fun H locs hP hD hS => ?_)
          have hP : va_P D vwCl [(w0, .inr (9, [.ref a1, .ref a2, .int (nI rdn), .int rfa, .int (nI rmn), .ref a3, .ref a4, .ref a5, .ref a6, .ref a7, .ref a8, .ref a9, .ref a10, .ref a11, .ref a12, .ref a13, .int (nI rpn), .int rre, .ref a14, .ref a15, .int (nI rrn), .ref a16, .int (nI rfn), .ref a17, .ref a18, .ref a19, .int (nI rkn), .ref a20, .ref a21, .int (nI rcn), .ref a22, .ref a23])), (a14, .inl (cJ, 1100, .inr (.inl (vp_updL rrf k v)))), (a15, .inl (cI, 1100, .inl (upd rof k 1))), (a16, .inl (cI, 1100, .inl rfr))] H := hP
          have hD : va_D A [(w0, .inr (9, [.ref a1, .ref a2, .int (nI rdn), .int rfa, .int (nI rmn), .ref a3, .ref a4, .ref a5, .ref a6, .ref a7, .ref a8, .ref a9, .ref a10, .ref a11, .ref a12, .ref a13, .int (nI rpn), .int rre, .ref a14, .ref a15, .int (nI rrn), .ref a16, .int (nI rfn), .ref a17, .ref a18, .ref a19, .int (nI rkn), .ref a20, .ref a21, .int (nI rcn), .ref a22, .ref a23])), (a14, .inl (cJ, 1100, .inr (.inl (vp_updL rrf k v)))), (a15, .inl (cI, 1100, .inl (upd rof k 1))), (a16, .inl (cI, 1100, .inl rfr))] := hD
          refine lv_aload_n hx hb dX9_refuse_67 rfl (lv_at hl 1 rfl) ?_
          refine lv_iload hx hb dX9_refuse_68 (lv_at hl 0 rfl) ?_
          refine lv_aload_n hx hb dX9_refuse_70 rfl (lv_at hl 1 rfl) ?_
          refine va_get (D := D) (ci := 9) (v := .int (nI rrn)) (C := RX9) (T := TX9) (N := 32) hx hb hts iw_9 hown hK hP 0 rfl rfl 20 (by decide) (hts (.fieldLink RX9 147 "DepositCodesModel" "refusedCount" "I") (by decide +kernel)) (fun _ h9 => h9) rfl dX9_refuse_71 ?_
          refine lv_icmp_ne (tgt := 86) hx hb dX9_refuse_74 (by decide) (fun c_6 => ?_) (fun c_6 => ?_)
          · have c_6 : ¬ k = rrn := fun h9 => c_6 ((nI_eq (a := k) (b := rrn) (by omega) (by omega)).mpr h9)
            rw [if_neg c_6] at hE
            refine lv_aload_n hx hb dX9_refuse_86 rfl (lv_at hl 1 rfl) ?_
            refine va_get (D := D) (ci := 9) (v := .int (nI rrn)) (C := RX9) (T := TX9) (N := 32) hx hb hts iw_9 hown hK hP 0 rfl rfl 20 (by decide) (hts (.fieldLink RX9 147 "DepositCodesModel" "refusedCount" "I") (by decide +kernel)) (fun _ h9 => h9) rfl dX9_refuse_87 ?_
            refine va_put (D := D) (ci := 9) (v := .int (nI rrn)) (ty := .int) (C := RX9) (T := TX9) (N := 32) hx hb hts iw_9 tyX9 tyX9_ok nmX9 hown hK hP hD hS 0 rfl rfl 20 (by decide) (hts (.fieldLink RX9 147 "DepositCodesModel" "refusedCount" "I") (by decide +kernel)) (fun _ h9 => h9) rfl (by decide +kernel) rfl rfl (Nat.le_of_ble_eq_true rfl) dX9_refuse_90 (fun H locs hP hD hS => ?_)
            have hP : va_P D vwCl [(w0, .inr (9, [.ref a1, .ref a2, .int (nI rdn), .int rfa, .int (nI rmn), .ref a3, .ref a4, .ref a5, .ref a6, .ref a7, .ref a8, .ref a9, .ref a10, .ref a11, .ref a12, .ref a13, .int (nI rpn), .int rre, .ref a14, .ref a15, .int (nI rrn), .ref a16, .int (nI rfn), .ref a17, .ref a18, .ref a19, .int (nI rkn), .ref a20, .ref a21, .int (nI rcn), .ref a22, .ref a23])), (a14, .inl (cJ, 1100, .inr (.inl (vp_updL rrf k v)))), (a15, .inl (cI, 1100, .inl (upd rof k 1))), (a16, .inl (cI, 1100, .inl rfr))] H := hP
            have hD : va_D A [(w0, .inr (9, [.ref a1, .ref a2, .int (nI rdn), .int rfa, .int (nI rmn), .ref a3, .ref a4, .ref a5, .ref a6, .ref a7, .ref a8, .ref a9, .ref a10, .ref a11, .ref a12, .ref a13, .int (nI rpn), .int rre, .ref a14, .ref a15, .int (nI rrn), .ref a16, .int (nI rfn), .ref a17, .ref a18, .ref a19, .int (nI rkn), .ref a20, .ref a21, .int (nI rcn), .ref a22, .ref a23])), (a14, .inl (cJ, 1100, .inr (.inl (vp_updL rrf k v)))), (a15, .inl (cI, 1100, .inl (upd rof k 1))), (a16, .inl (cI, 1100, .inl rfr))] := hD
            refine lv_aload_n hx hb dX9_refuse_93 rfl (lv_at hl 1 rfl) ?_
            refine va_get (D := D) (ci := 9) (v := .ref a15) (C := RX9) (T := TX9) (N := 32) hx hb hts iw_9 hown hK hP 0 rfl rfl 19 (by decide) (hts (.fieldLink RX9 54 "DepositCodesModel" "often" "[I") (by decide +kernel)) (fun _ h9 => h9) rfl dX9_refuse_94 ?_
            refine lv_iload hx hb dX9_refuse_97 (lv_at hl 0 rfl) ?_
            refine na_iald hx hb hK hP 2 0 rfl rfl (by omega) (by decide) dX9_refuse_99 ?_
            refine lv_iconst (v := 3) hx hb dX9_refuse_100 (by decide) ?_
            refine lv_irem hx hb dX9_refuse_101 (by decide) ?_
            refine lv_if_ne (tgt := 125) hx hb dX9_refuse_102 (by decide) (fun c_7 => ?_) (fun c_7 => ?_)
            · rw [if_neg c_7] at hE
              subst hE
              exact W.vret hx hb hr (fun t ht hW => ⟨rfl, by rw [ht]; exact hP, hD, hS.F ht⟩) hS.2.2 dX9_refuse_125
            · rw [if_pos c_7] at hE
              refine lv_aload_n hx hb dX9_refuse_105 rfl (lv_at hl 1 rfl) ?_
              refine va_get (D := D) (ci := 9) (v := .ref a16) (C := RX9) (T := TX9) (N := 32) hx hb hts iw_9 hown hK hP 0 rfl rfl 21 (by decide) (hts (.fieldLink RX9 57 "DepositCodesModel" "frauds" "[I") (by decide +kernel)) (fun _ h9 => h9) rfl dX9_refuse_106 ?_
              refine lv_aload_n hx hb dX9_refuse_109 rfl (lv_at hl 1 rfl) ?_
              refine va_get (D := D) (ci := 9) (v := .int (nI rfn)) (C := RX9) (T := TX9) (N := 32) hx hb hts iw_9 hown hK hP 0 rfl rfl 22 (by decide) (hts (.fieldLink RX9 150 "DepositCodesModel" "fraudCount" "I") (by decide +kernel)) (fun _ h9 => h9) rfl dX9_refuse_110 ?_
              refine lv_iload_n hx hb dX9_refuse_113 rfl (lv_at hl 2 rfl) ?_
              refine na_iast hx hb hK hP hD hS 3 0 rfl rfl (by omega) (by decide) dX9_refuse_114 (fun H locs hP hD hS => ?_)
              have hP : va_P D vwCl [(w0, .inr (9, [.ref a1, .ref a2, .int (nI rdn), .int rfa, .int (nI rmn), .ref a3, .ref a4, .ref a5, .ref a6, .ref a7, .ref a8, .ref a9, .ref a10, .ref a11, .ref a12, .ref a13, .int (nI rpn), .int rre, .ref a14, .ref a15, .int (nI rrn), .ref a16, .int (nI rfn), .ref a17, .ref a18, .ref a19, .int (nI rkn), .ref a20, .ref a21, .int (nI rcn), .ref a22, .ref a23])), (a14, .inl (cJ, 1100, .inr (.inl (vp_updL rrf k v)))), (a15, .inl (cI, 1100, .inl (upd rof k 1))), (a16, .inl (cI, 1100, .inl (upd rfr rfn mc)))] H := hP
              have hD : va_D A [(w0, .inr (9, [.ref a1, .ref a2, .int (nI rdn), .int rfa, .int (nI rmn), .ref a3, .ref a4, .ref a5, .ref a6, .ref a7, .ref a8, .ref a9, .ref a10, .ref a11, .ref a12, .ref a13, .int (nI rpn), .int rre, .ref a14, .ref a15, .int (nI rrn), .ref a16, .int (nI rfn), .ref a17, .ref a18, .ref a19, .int (nI rkn), .ref a20, .ref a21, .int (nI rcn), .ref a22, .ref a23])), (a14, .inl (cJ, 1100, .inr (.inl (vp_updL rrf k v)))), (a15, .inl (cI, 1100, .inl (upd rof k 1))), (a16, .inl (cI, 1100, .inl (upd rfr rfn mc)))] := hD
              refine lv_aload_n hx hb dX9_refuse_115 rfl (lv_at hl 1 rfl) ?_
              refine lv_dup hx hb dX9_refuse_116 rfl ?_
              refine va_get (D := D) (ci := 9) (v := .int (nI rfn)) (C := RX9) (T := TX9) (N := 32) hx hb hts iw_9 hown hK hP 0 rfl rfl 22 (by decide) (hts (.fieldLink RX9 150 "DepositCodesModel" "fraudCount" "I") (by decide +kernel)) (fun _ h9 => h9) rfl dX9_refuse_117 ?_
              refine lv_iconst (v := 1) hx hb dX9_refuse_120 (by decide) ?_
              refine lv_iadd hx hb dX9_refuse_121 ?_
              refine na_top (show (nI rfn) + 1 = nI (rfn + 1) from nI_add rfn 1) ?_
              refine va_put (D := D) (ci := 9) (v := .int (nI (rfn + 1))) (ty := .int) (C := RX9) (T := TX9) (N := 32) hx hb hts iw_9 tyX9 tyX9_ok nmX9 hown hK hP hD hS 0 rfl rfl 22 (by decide) (hts (.fieldLink RX9 150 "DepositCodesModel" "fraudCount" "I") (by decide +kernel)) (fun _ h9 => h9) rfl (by decide +kernel) rfl rfl (Nat.le_of_ble_eq_true rfl) dX9_refuse_122 (fun H locs hP hD hS => ?_)
              have hP : va_P D vwCl [(w0, .inr (9, [.ref a1, .ref a2, .int (nI rdn), .int rfa, .int (nI rmn), .ref a3, .ref a4, .ref a5, .ref a6, .ref a7, .ref a8, .ref a9, .ref a10, .ref a11, .ref a12, .ref a13, .int (nI rpn), .int rre, .ref a14, .ref a15, .int (nI rrn), .ref a16, .int (nI (rfn + 1)), .ref a17, .ref a18, .ref a19, .int (nI rkn), .ref a20, .ref a21, .int (nI rcn), .ref a22, .ref a23])), (a14, .inl (cJ, 1100, .inr (.inl (vp_updL rrf k v)))), (a15, .inl (cI, 1100, .inl (upd rof k 1))), (a16, .inl (cI, 1100, .inl (upd rfr rfn mc)))] H := hP
              have hD : va_D A [(w0, .inr (9, [.ref a1, .ref a2, .int (nI rdn), .int rfa, .int (nI rmn), .ref a3, .ref a4, .ref a5, .ref a6, .ref a7, .ref a8, .ref a9, .ref a10, .ref a11, .ref a12, .ref a13, .int (nI rpn), .int rre, .ref a14, .ref a15, .int (nI rrn), .ref a16, .int (nI (rfn + 1)), .ref a17, .ref a18, .ref a19, .int (nI rkn), .ref a20, .ref a21, .int (nI rcn), .ref a22, .ref a23])), (a14, .inl (cJ, 1100, .inr (.inl (vp_updL rrf k v)))), (a15, .inl (cI, 1100, .inl (upd rof k 1))), (a16, .inl (cI, 1100, .inl (upd rfr rfn mc)))] := hD
              subst hE
              exact W.vret hx hb hr (fun t ht hW => ⟨rfl, by rw [ht]; exact hP, hD, hS.F ht⟩) hS.2.2 dX9_refuse_125
          · have c_6 : k = rrn := (nI_eq (a := k) (b := rrn) (by omega) (by omega)).mp c_6
            rw [if_pos c_6] at hE
            refine lv_aload_n hx hb dX9_refuse_77 rfl (lv_at hl 1 rfl) ?_
            refine va_get (D := D) (ci := 9) (v := .int (nI rrn)) (C := RX9) (T := TX9) (N := 32) hx hb hts iw_9 hown hK hP 0 rfl rfl 20 (by decide) (hts (.fieldLink RX9 147 "DepositCodesModel" "refusedCount" "I") (by decide +kernel)) (fun _ h9 => h9) rfl dX9_refuse_78 ?_
            refine lv_iconst (v := 1) hx hb dX9_refuse_81 (by decide) ?_
            refine lv_iadd hx hb dX9_refuse_82 ?_
            refine na_top (show (nI rrn) + 1 = nI (rrn + 1) from nI_add rrn 1) ?_
            refine lv_goto (tgt := 90) hx hb dX9_refuse_83 (by decide) ?_
            refine va_put (D := D) (ci := 9) (v := .int (nI (rrn + 1))) (ty := .int) (C := RX9) (T := TX9) (N := 32) hx hb hts iw_9 tyX9 tyX9_ok nmX9 hown hK hP hD hS 0 rfl rfl 20 (by decide) (hts (.fieldLink RX9 147 "DepositCodesModel" "refusedCount" "I") (by decide +kernel)) (fun _ h9 => h9) rfl (by decide +kernel) rfl rfl (Nat.le_of_ble_eq_true rfl) dX9_refuse_90 (fun H locs hP hD hS => ?_)
            have hP : va_P D vwCl [(w0, .inr (9, [.ref a1, .ref a2, .int (nI rdn), .int rfa, .int (nI rmn), .ref a3, .ref a4, .ref a5, .ref a6, .ref a7, .ref a8, .ref a9, .ref a10, .ref a11, .ref a12, .ref a13, .int (nI rpn), .int rre, .ref a14, .ref a15, .int (nI (rrn + 1)), .ref a16, .int (nI rfn), .ref a17, .ref a18, .ref a19, .int (nI rkn), .ref a20, .ref a21, .int (nI rcn), .ref a22, .ref a23])), (a14, .inl (cJ, 1100, .inr (.inl (vp_updL rrf k v)))), (a15, .inl (cI, 1100, .inl (upd rof k 1))), (a16, .inl (cI, 1100, .inl rfr))] H := hP
            have hD : va_D A [(w0, .inr (9, [.ref a1, .ref a2, .int (nI rdn), .int rfa, .int (nI rmn), .ref a3, .ref a4, .ref a5, .ref a6, .ref a7, .ref a8, .ref a9, .ref a10, .ref a11, .ref a12, .ref a13, .int (nI rpn), .int rre, .ref a14, .ref a15, .int (nI (rrn + 1)), .ref a16, .int (nI rfn), .ref a17, .ref a18, .ref a19, .int (nI rkn), .ref a20, .ref a21, .int (nI rcn), .ref a22, .ref a23])), (a14, .inl (cJ, 1100, .inr (.inl (vp_updL rrf k v)))), (a15, .inl (cI, 1100, .inl (upd rof k 1))), (a16, .inl (cI, 1100, .inl rfr))] := hD
            refine lv_aload_n hx hb dX9_refuse_93 rfl (lv_at hl 1 rfl) ?_
            refine va_get (D := D) (ci := 9) (v := .ref a15) (C := RX9) (T := TX9) (N := 32) hx hb hts iw_9 hown hK hP 0 rfl rfl 19 (by decide) (hts (.fieldLink RX9 54 "DepositCodesModel" "often" "[I") (by decide +kernel)) (fun _ h9 => h9) rfl dX9_refuse_94 ?_
            refine lv_iload hx hb dX9_refuse_97 (lv_at hl 0 rfl) ?_
            refine na_iald hx hb hK hP 2 0 rfl rfl (by omega) (by decide) dX9_refuse_99 ?_
            refine lv_iconst (v := 3) hx hb dX9_refuse_100 (by decide) ?_
            refine lv_irem hx hb dX9_refuse_101 (by decide) ?_
            refine lv_if_ne (tgt := 125) hx hb dX9_refuse_102 (by decide) (fun c_8 => ?_) (fun c_8 => ?_)
            · rw [if_neg c_8] at hE
              subst hE
              exact W.vret hx hb hr (fun t ht hW => ⟨rfl, by rw [ht]; exact hP, hD, hS.F ht⟩) hS.2.2 dX9_refuse_125
            · rw [if_pos c_8] at hE
              refine lv_aload_n hx hb dX9_refuse_105 rfl (lv_at hl 1 rfl) ?_
              refine va_get (D := D) (ci := 9) (v := .ref a16) (C := RX9) (T := TX9) (N := 32) hx hb hts iw_9 hown hK hP 0 rfl rfl 21 (by decide) (hts (.fieldLink RX9 57 "DepositCodesModel" "frauds" "[I") (by decide +kernel)) (fun _ h9 => h9) rfl dX9_refuse_106 ?_
              refine lv_aload_n hx hb dX9_refuse_109 rfl (lv_at hl 1 rfl) ?_
              refine va_get (D := D) (ci := 9) (v := .int (nI rfn)) (C := RX9) (T := TX9) (N := 32) hx hb hts iw_9 hown hK hP 0 rfl rfl 22 (by decide) (hts (.fieldLink RX9 150 "DepositCodesModel" "fraudCount" "I") (by decide +kernel)) (fun _ h9 => h9) rfl dX9_refuse_110 ?_
              refine lv_iload_n hx hb dX9_refuse_113 rfl (lv_at hl 2 rfl) ?_
              refine na_iast hx hb hK hP hD hS 3 0 rfl rfl (by omega) (by decide) dX9_refuse_114 (fun H locs hP hD hS => ?_)
              have hP : va_P D vwCl [(w0, .inr (9, [.ref a1, .ref a2, .int (nI rdn), .int rfa, .int (nI rmn), .ref a3, .ref a4, .ref a5, .ref a6, .ref a7, .ref a8, .ref a9, .ref a10, .ref a11, .ref a12, .ref a13, .int (nI rpn), .int rre, .ref a14, .ref a15, .int (nI (rrn + 1)), .ref a16, .int (nI rfn), .ref a17, .ref a18, .ref a19, .int (nI rkn), .ref a20, .ref a21, .int (nI rcn), .ref a22, .ref a23])), (a14, .inl (cJ, 1100, .inr (.inl (vp_updL rrf k v)))), (a15, .inl (cI, 1100, .inl (upd rof k 1))), (a16, .inl (cI, 1100, .inl (upd rfr rfn mc)))] H := hP
              have hD : va_D A [(w0, .inr (9, [.ref a1, .ref a2, .int (nI rdn), .int rfa, .int (nI rmn), .ref a3, .ref a4, .ref a5, .ref a6, .ref a7, .ref a8, .ref a9, .ref a10, .ref a11, .ref a12, .ref a13, .int (nI rpn), .int rre, .ref a14, .ref a15, .int (nI (rrn + 1)), .ref a16, .int (nI rfn), .ref a17, .ref a18, .ref a19, .int (nI rkn), .ref a20, .ref a21, .int (nI rcn), .ref a22, .ref a23])), (a14, .inl (cJ, 1100, .inr (.inl (vp_updL rrf k v)))), (a15, .inl (cI, 1100, .inl (upd rof k 1))), (a16, .inl (cI, 1100, .inl (upd rfr rfn mc)))] := hD
              refine lv_aload_n hx hb dX9_refuse_115 rfl (lv_at hl 1 rfl) ?_
              refine lv_dup hx hb dX9_refuse_116 rfl ?_
              refine va_get (D := D) (ci := 9) (v := .int (nI rfn)) (C := RX9) (T := TX9) (N := 32) hx hb hts iw_9 hown hK hP 0 rfl rfl 22 (by decide) (hts (.fieldLink RX9 150 "DepositCodesModel" "fraudCount" "I") (by decide +kernel)) (fun _ h9 => h9) rfl dX9_refuse_117 ?_
              refine lv_iconst (v := 1) hx hb dX9_refuse_120 (by decide) ?_
              refine lv_iadd hx hb dX9_refuse_121 ?_
              refine na_top (show (nI rfn) + 1 = nI (rfn + 1) from nI_add rfn 1) ?_
              refine va_put (D := D) (ci := 9) (v := .int (nI (rfn + 1))) (ty := .int) (C := RX9) (T := TX9) (N := 32) hx hb hts iw_9 tyX9 tyX9_ok nmX9 hown hK hP hD hS 0 rfl rfl 22 (by decide) (hts (.fieldLink RX9 150 "DepositCodesModel" "fraudCount" "I") (by decide +kernel)) (fun _ h9 => h9) rfl (by decide +kernel) rfl rfl (Nat.le_of_ble_eq_true rfl) dX9_refuse_122 (fun H locs hP hD hS => ?_)
              have hP : va_P D vwCl [(w0, .inr (9, [.ref a1, .ref a2, .int (nI rdn), .int rfa, .int (nI rmn), .ref a3, .ref a4, .ref a5, .ref a6, .ref a7, .ref a8, .ref a9, .ref a10, .ref a11, .ref a12, .ref a13, .int (nI rpn), .int rre, .ref a14, .ref a15, .int (nI (rrn + 1)), .ref a16, .int (nI (rfn + 1)), .ref a17, .ref a18, .ref a19, .int (nI rkn), .ref a20, .ref a21, .int (nI rcn), .ref a22, .ref a23])), (a14, .inl (cJ, 1100, .inr (.inl (vp_updL rrf k v)))), (a15, .inl (cI, 1100, .inl (upd rof k 1))), (a16, .inl (cI, 1100, .inl (upd rfr rfn mc)))] H := hP
              have hD : va_D A [(w0, .inr (9, [.ref a1, .ref a2, .int (nI rdn), .int rfa, .int (nI rmn), .ref a3, .ref a4, .ref a5, .ref a6, .ref a7, .ref a8, .ref a9, .ref a10, .ref a11, .ref a12, .ref a13, .int (nI rpn), .int rre, .ref a14, .ref a15, .int (nI (rrn + 1)), .ref a16, .int (nI (rfn + 1)), .ref a17, .ref a18, .ref a19, .int (nI rkn), .ref a20, .ref a21, .int (nI rcn), .ref a22, .ref a23])), (a14, .inl (cJ, 1100, .inr (.inl (vp_updL rrf k v)))), (a15, .inl (cI, 1100, .inl (upd rof k 1))), (a16, .inl (cI, 1100, .inl (upd rfr rfn mc)))] := hD
              subst hE
              exact W.vret hx hb hr (fun t ht hW => ⟨rfl, by rw [ht]; exact hP, hD, hS.F ht⟩) hS.2.2 dX9_refuse_125
      · have c_1 : ¬ rrn ≤ k := fun h9 => c_1 ((nI_leI (a := rrn) (b := k) (by omega) (by omega)).mpr h9)
        rw [if_neg c_1] at hE
        refine lv_aload_n hx hb dX9_refuse_12 rfl (lv_at hl 1 rfl) ?_
        refine va_get (D := D) (ci := 9) (v := .ref a14) (C := RX9) (T := TX9) (N := 32) hx hb hts iw_9 hown hK hP 0 rfl rfl 18 (by decide) (hts (.fieldLink RX9 51 "DepositCodesModel" "refused" "[J") (by decide +kernel)) (fun _ h9 => h9) rfl dX9_refuse_13 ?_
        refine lv_iload hx hb dX9_refuse_16 (lv_at hl 0 rfl) ?_
        refine na_lald hx hb hK hP 1 1 rfl rfl (by omega) (by decide) dX9_refuse_18 ?_
        refine lv_lload_n hx hb dX9_refuse_19 rfl (lv_at hl 3 rfl) ?_
        refine W.lcmp hx hb dX9_refuse_20 ?_
        refine lv_if_eq (tgt := 30) hx hb dX9_refuse_21 (by decide) (fun c_9 => ?_) (fun c_9 => ?_)
        · rw [if_pos c_9] at hE
          refine lv_aload_n hx hb dX9_refuse_30 rfl (lv_at hl 1 rfl) ?_
          refine va_get (D := D) (ci := 9) (v := .ref a14) (C := RX9) (T := TX9) (N := 32) hx hb hts iw_9 hown hK hP 0 rfl rfl 18 (by decide) (hts (.fieldLink RX9 51 "DepositCodesModel" "refused" "[J") (by decide +kernel)) (fun _ h9 => h9) rfl dX9_refuse_31 ?_
          refine lv_iload hx hb dX9_refuse_34 (lv_at hl 0 rfl) ?_
          refine lv_lload_n hx hb dX9_refuse_36 rfl (lv_at hl 3 rfl) ?_
          refine na_last hx hb hK hP hD hS 1 1 rfl rfl (by omega) (by decide) dX9_refuse_37 (fun H locs hP hD hS => ?_)
          have hP : va_P D vwCl [(w0, .inr (9, [.ref a1, .ref a2, .int (nI rdn), .int rfa, .int (nI rmn), .ref a3, .ref a4, .ref a5, .ref a6, .ref a7, .ref a8, .ref a9, .ref a10, .ref a11, .ref a12, .ref a13, .int (nI rpn), .int rre, .ref a14, .ref a15, .int (nI rrn), .ref a16, .int (nI rfn), .ref a17, .ref a18, .ref a19, .int (nI rkn), .ref a20, .ref a21, .int (nI rcn), .ref a22, .ref a23])), (a14, .inl (cJ, 1100, .inr (.inl (vp_updL rrf k v)))), (a15, .inl (cI, 1100, .inl rof)), (a16, .inl (cI, 1100, .inl rfr))] H := hP
          have hD : va_D A [(w0, .inr (9, [.ref a1, .ref a2, .int (nI rdn), .int rfa, .int (nI rmn), .ref a3, .ref a4, .ref a5, .ref a6, .ref a7, .ref a8, .ref a9, .ref a10, .ref a11, .ref a12, .ref a13, .int (nI rpn), .int rre, .ref a14, .ref a15, .int (nI rrn), .ref a16, .int (nI rfn), .ref a17, .ref a18, .ref a19, .int (nI rkn), .ref a20, .ref a21, .int (nI rcn), .ref a22, .ref a23])), (a14, .inl (cJ, 1100, .inr (.inl (vp_updL rrf k v)))), (a15, .inl (cI, 1100, .inl rof)), (a16, .inl (cI, 1100, .inl rfr))] := hD
          refine lv_aload_n hx hb dX9_refuse_38 rfl (lv_at hl 1 rfl) ?_
          refine va_get (D := D) (ci := 9) (v := .ref a15) (C := RX9) (T := TX9) (N := 32) hx hb hts iw_9 hown hK hP 0 rfl rfl 19 (by decide) (hts (.fieldLink RX9 54 "DepositCodesModel" "often" "[I") (by decide +kernel)) (fun _ h9 => h9) rfl dX9_refuse_39 ?_
          refine lv_iload hx hb dX9_refuse_42 (lv_at hl 0 rfl) ?_
          refine lv_iload hx hb dX9_refuse_44 (lv_at hl 0 rfl) ?_
          refine lv_aload_n hx hb dX9_refuse_46 rfl (lv_at hl 1 rfl) ?_
          refine va_get (D := D) (ci := 9) (v := .int (nI rrn)) (C := RX9) (T := TX9) (N := 32) hx hb hts iw_9 hown hK hP 0 rfl rfl 20 (by decide) (hts (.fieldLink RX9 147 "DepositCodesModel" "refusedCount" "I") (by decide +kernel)) (fun _ h9 => h9) rfl dX9_refuse_47 ?_
          refine lv_icmp_ne (tgt := 57) hx hb dX9_refuse_50 (by decide) (fun c_10 => ?_) (fun c_10 => ?_)
          · have c_10 : ¬ k = rrn := fun h9 => c_10 ((nI_eq (a := k) (b := rrn) (by omega) (by omega)).mpr h9)
            rw [if_neg c_10] at hE
            refine lv_aload_n hx hb dX9_refuse_57 rfl (lv_at hl 1 rfl) ?_
            refine va_get (D := D) (ci := 9) (v := .ref a15) (C := RX9) (T := TX9) (N := 32) hx hb hts iw_9 hown hK hP 0 rfl rfl 19 (by decide) (hts (.fieldLink RX9 54 "DepositCodesModel" "often" "[I") (by decide +kernel)) (fun _ h9 => h9) rfl dX9_refuse_58 ?_
            refine lv_iload hx hb dX9_refuse_61 (lv_at hl 0 rfl) ?_
            refine na_iald hx hb hK hP 2 0 rfl rfl (by omega) (by decide) dX9_refuse_63 ?_
            refine lv_iconst (v := 1) hx hb dX9_refuse_64 (by decide) ?_
            refine lv_iadd hx hb dX9_refuse_65 ?_
            refine na_iast hx hb hK hP hD hS 2 0 rfl rfl (by omega) (by decide) dX9_refuse_66 (fun H locs hP hD hS => ?_)
            have hP : va_P D vwCl [(w0, .inr (9, [.ref a1, .ref a2, .int (nI rdn), .int rfa, .int (nI rmn), .ref a3, .ref a4, .ref a5, .ref a6, .ref a7, .ref a8, .ref a9, .ref a10, .ref a11, .ref a12, .ref a13, .int (nI rpn), .int rre, .ref a14, .ref a15, .int (nI rrn), .ref a16, .int (nI rfn), .ref a17, .ref a18, .ref a19, .int (nI rkn), .ref a20, .ref a21, .int (nI rcn), .ref a22, .ref a23])), (a14, .inl (cJ, 1100, .inr (.inl (vp_updL rrf k v)))), (a15, .inl (cI, 1100, .inl (upd rof k ((rof k) + 1)))), (a16, .inl (cI, 1100, .inl rfr))] H := hP
            have hD : va_D A [(w0, .inr (9, [.ref a1, .ref a2, .int (nI rdn), .int rfa, .int (nI rmn), .ref a3, .ref a4, .ref a5, .ref a6, .ref a7, .ref a8, .ref a9, .ref a10, .ref a11, .ref a12, .ref a13, .int (nI rpn), .int rre, .ref a14, .ref a15, .int (nI rrn), .ref a16, .int (nI rfn), .ref a17, .ref a18, .ref a19, .int (nI rkn), .ref a20, .ref a21, .int (nI rcn), .ref a22, .ref a23])), (a14, .inl (cJ, 1100, .inr (.inl (vp_updL rrf k v)))), (a15, .inl (cI, 1100, .inl (upd rof k ((rof k) + 1)))), (a16, .inl (cI, 1100, .inl rfr))] := hD
            refine lv_aload_n hx hb dX9_refuse_67 rfl (lv_at hl 1 rfl) ?_
            refine lv_iload hx hb dX9_refuse_68 (lv_at hl 0 rfl) ?_
            refine lv_aload_n hx hb dX9_refuse_70 rfl (lv_at hl 1 rfl) ?_
            refine va_get (D := D) (ci := 9) (v := .int (nI rrn)) (C := RX9) (T := TX9) (N := 32) hx hb hts iw_9 hown hK hP 0 rfl rfl 20 (by decide) (hts (.fieldLink RX9 147 "DepositCodesModel" "refusedCount" "I") (by decide +kernel)) (fun _ h9 => h9) rfl dX9_refuse_71 ?_
            refine lv_icmp_ne (tgt := 86) hx hb dX9_refuse_74 (by decide) (fun c_11 => ?_) (fun c_11 => ?_)
            · have c_11 : ¬ k = rrn := fun h9 => c_11 ((nI_eq (a := k) (b := rrn) (by omega) (by omega)).mpr h9)
              rw [if_neg c_11] at hE
              refine lv_aload_n hx hb dX9_refuse_86 rfl (lv_at hl 1 rfl) ?_
              refine va_get (D := D) (ci := 9) (v := .int (nI rrn)) (C := RX9) (T := TX9) (N := 32) hx hb hts iw_9 hown hK hP 0 rfl rfl 20 (by decide) (hts (.fieldLink RX9 147 "DepositCodesModel" "refusedCount" "I") (by decide +kernel)) (fun _ h9 => h9) rfl dX9_refuse_87 ?_
              refine va_put (D := D) (ci := 9) (v := .int (nI rrn)) (ty := .int) (C := RX9) (T := TX9) (N := 32) hx hb hts iw_9 tyX9 tyX9_ok nmX9 hown hK hP hD hS 0 rfl rfl 20 (by decide) (hts (.fieldLink RX9 147 "DepositCodesModel" "refusedCount" "I") (by decide +kernel)) (fun _ h9 => h9) rfl (by decide +kernel) rfl rfl (Nat.le_of_ble_eq_true rfl) dX9_refuse_90 (fun H locs hP hD hS => ?_)
              have hP : va_P D vwCl [(w0, .inr (9, [.ref a1, .ref a2, .int (nI rdn), .int rfa, .int (nI rmn), .ref a3, .ref a4, .ref a5, .ref a6, .ref a7, .ref a8, .ref a9, .ref a10, .ref a11, .ref a12, .ref a13, .int (nI rpn), .int rre, .ref a14, .ref a15, .int (nI rrn), .ref a16, .int (nI rfn), .ref a17, .ref a18, .ref a19, .int (nI rkn), .ref a20, .ref a21, .int (nI rcn), .ref a22, .ref a23])), (a14, .inl (cJ, 1100, .inr (.inl (vp_updL rrf k v)))), (a15, .inl (cI, 1100, .inl (upd rof k ((rof k) + 1)))), (a16, .inl (cI, 1100, .inl rfr))] H := hP
              have hD : va_D A [(w0, .inr (9, [.ref a1, .ref a2, .int (nI rdn), .int rfa, .int (nI rmn), .ref a3, .ref a4, .ref a5, .ref a6, .ref a7, .ref a8, .ref a9, .ref a10, .ref a11, .ref a12, .ref a13, .int (nI rpn), .int rre, .ref a14, .ref a15, .int (nI rrn), .ref a16, .int (nI rfn), .ref a17, .ref a18, .ref a19, .int (nI rkn), .ref a20, .ref a21, .int (nI rcn), .ref a22, .ref a23])), (a14, .inl (cJ, 1100, .inr (.inl (vp_updL rrf k v)))), (a15, .inl (cI, 1100, .inl (upd rof k ((rof k) + 1)))), (a16, .inl (cI, 1100, .inl rfr))] := hD
              refine lv_aload_n hx hb dX9_refuse_93 rfl (lv_at hl 1 rfl) ?_
              refine va_get (D := D) (ci := 9) (v := .ref a15) (C := RX9) (T := TX9) (N := 32) hx hb hts iw_9 hown hK hP 0 rfl rfl 19 (by decide) (hts (.fieldLink RX9 54 "DepositCodesModel" "often" "[I") (by decide +kernel)) (fun _ h9 => h9) rfl dX9_refuse_94 ?_
              refine lv_iload hx hb dX9_refuse_97 (lv_at hl 0 rfl) ?_
              refine na_iald hx hb hK hP 2 0 rfl rfl (by omega) (by decide) dX9_refuse_99 ?_
              refine lv_iconst (v := 3) hx hb dX9_refuse_100 (by decide) ?_
              refine lv_irem hx hb dX9_refuse_101 (by decide) ?_
              refine lv_if_ne (tgt := 125) hx hb dX9_refuse_102 (by decide) (fun c_12 => ?_) (fun c_12 => ?_)
              · rw [if_neg c_12] at hE
                subst hE
                exact W.vret hx hb hr (fun t ht hW => ⟨rfl, by rw [ht]; exact hP, hD, hS.F ht⟩) hS.2.2 dX9_refuse_125
              · rw [if_pos c_12] at hE
                refine lv_aload_n hx hb dX9_refuse_105 rfl (lv_at hl 1 rfl) ?_
                refine va_get (D := D) (ci := 9) (v := .ref a16) (C := RX9) (T := TX9) (N := 32) hx hb hts iw_9 hown hK hP 0 rfl rfl 21 (by decide) (hts (.fieldLink RX9 57 "DepositCodesModel" "frauds" "[I") (by decide +kernel)) (fun _ h9 => h9) rfl dX9_refuse_106 ?_
                refine lv_aload_n hx hb dX9_refuse_109 rfl (lv_at hl 1 rfl) ?_
                refine va_get (D := D) (ci := 9) (v := .int (nI rfn)) (C := RX9) (T := TX9) (N := 32) hx hb hts iw_9 hown hK hP 0 rfl rfl 22 (by decide) (hts (.fieldLink RX9 150 "DepositCodesModel" "fraudCount" "I") (by decide +kernel)) (fun _ h9 => h9) rfl dX9_refuse_110 ?_
                refine lv_iload_n hx hb dX9_refuse_113 rfl (lv_at hl 2 rfl) ?_
                refine na_iast hx hb hK hP hD hS 3 0 rfl rfl (by omega) (by decide) dX9_refuse_114 (fun H locs hP hD hS => ?_)
                have hP : va_P D vwCl [(w0, .inr (9, [.ref a1, .ref a2, .int (nI rdn), .int rfa, .int (nI rmn), .ref a3, .ref a4, .ref a5, .ref a6, .ref a7, .ref a8, .ref a9, .ref a10, .ref a11, .ref a12, .ref a13, .int (nI rpn), .int rre, .ref a14, .ref a15, .int (nI rrn), .ref a16, .int (nI rfn), .ref a17, .ref a18, .ref a19, .int (nI rkn), .ref a20, .ref a21, .int (nI rcn), .ref a22, .ref a23])), (a14, .inl (cJ, 1100, .inr (.inl (vp_updL rrf k v)))), (a15, .inl (cI, 1100, .inl (upd rof k ((rof k) + 1)))), (a16, .inl (cI, 1100, .inl (upd rfr rfn mc)))] H := hP
                have hD : va_D A [(w0, .inr (9, [.ref a1, .ref a2, .int (nI rdn), .int rfa, .int (nI rmn), .ref a3, .ref a4, .ref a5, .ref a6, .ref a7, .ref a8, .ref a9, .ref a10, .ref a11, .ref a12, .ref a13, .int (nI rpn), .int rre, .ref a14, .ref a15, .int (nI rrn), .ref a16, .int (nI rfn), .ref a17, .ref a18, .ref a19, .int (nI rkn), .ref a20, .ref a21, .int (nI rcn), .ref a22, .ref a23])), (a14, .inl (cJ, 1100, .inr (.inl (vp_updL rrf k v)))), (a15, .inl (cI, 1100, .inl (upd rof k ((rof k) + 1)))), (a16, .inl (cI, 1100, .inl (upd rfr rfn mc)))] := hD
                refine lv_aload_n hx hb dX9_refuse_115 rfl (lv_at hl 1 rfl) ?_
                refine lv_dup hx hb dX9_refuse_116 rfl ?_
                refine va_get (D := D) (ci := 9) (v := .int (nI rfn)) (C := RX9) (T := TX9) (N := 32) hx hb hts iw_9 hown hK hP 0 rfl rfl 22 (by decide) (hts (.fieldLink RX9 150 "DepositCodesModel" "fraudCount" "I") (by decide +kernel)) (fun _ h9 => h9) rfl dX9_refuse_117 ?_
                refine lv_iconst (v := 1) hx hb dX9_refuse_120 (by decide) ?_
                refine lv_iadd hx hb dX9_refuse_121 ?_
                refine na_top (show (nI rfn) + 1 = nI (rfn + 1) from nI_add rfn 1) ?_
                refine va_put (D := D) (ci := 9) (v := .int (nI (rfn + 1))) (ty := .int) (C := RX9) (T := TX9) (N := 32) hx hb hts iw_9 tyX9 tyX9_ok nmX9 hown hK hP hD hS 0 rfl rfl 22 (by decide) (hts (.fieldLink RX9 150 "DepositCodesModel" "fraudCount" "I") (by decide +kernel)) (fun _ h9 => h9) rfl (by decide +kernel) rfl rfl (Nat.le_of_ble_eq_true rfl) dX9_refuse_122 (fun H locs hP hD hS => ?_)
                have hP : va_P D vwCl [(w0, .inr (9, [.ref a1, .ref a2, .int (nI rdn), .int rfa, .int (nI rmn), .ref a3, .ref a4, .ref a5, .ref a6, .ref a7, .ref a8, .ref a9, .ref a10, .ref a11, .ref a12, .ref a13, .int (nI rpn), .int rre, .ref a14, .ref a15, .int (nI rrn), .ref a16, .int (nI (rfn + 1)), .ref a17, .ref a18, .ref a19, .int (nI rkn), .ref a20, .ref a21, .int (nI rcn), .ref a22, .ref a23])), (a14, .inl (cJ, 1100, .inr (.inl (vp_updL rrf k v)))), (a15, .inl (cI, 1100, .inl (upd rof k ((rof k) + 1)))), (a16, .inl (cI, 1100, .inl (upd rfr rfn mc)))] H := hP
                have hD : va_D A [(w0, .inr (9, [.ref a1, .ref a2, .int (nI rdn), .int rfa, .int (nI rmn), .ref a3, .ref a4, .ref a5, .ref a6, .ref a7, .ref a8, .ref a9, .ref a10, .ref a11, .ref a12, .ref a13, .int (nI rpn), .int rre, .ref a14, .ref a15, .int (nI rrn), .ref a16, .int (nI (rfn + 1)), .ref a17, .ref a18, .ref a19, .int (nI rkn), .ref a20, .ref a21, .int (nI rcn), .ref a22, .ref a23])), (a14, .inl (cJ, 1100, .inr (.inl (vp_updL rrf k v)))), (a15, .inl (cI, 1100, .inl (upd rof k ((rof k) + 1)))), (a16, .inl (cI, 1100, .inl (upd rfr rfn mc)))] := hD
                subst hE
                exact W.vret hx hb hr (fun t ht hW => ⟨rfl, by rw [ht]; exact hP, hD, hS.F ht⟩) hS.2.2 dX9_refuse_125
            · have c_11 : k = rrn := (nI_eq (a := k) (b := rrn) (by omega) (by omega)).mp c_11
              rw [if_pos c_11] at hE
              refine lv_aload_n hx hb dX9_refuse_77 rfl (lv_at hl 1 rfl) ?_
              refine va_get (D := D) (ci := 9) (v := .int (nI rrn)) (C := RX9) (T := TX9) (N := 32) hx hb hts iw_9 hown hK hP 0 rfl rfl 20 (by decide) (hts (.fieldLink RX9 147 "DepositCodesModel" "refusedCount" "I") (by decide +kernel)) (fun _ h9 => h9) rfl dX9_refuse_78 ?_
              refine lv_iconst (v := 1) hx hb dX9_refuse_81 (by decide) ?_
              refine lv_iadd hx hb dX9_refuse_82 ?_
              refine na_top (show (nI rrn) + 1 = nI (rrn + 1) from nI_add rrn 1) ?_
              refine lv_goto (tgt := 90) hx hb dX9_refuse_83 (by decide) ?_
              refine va_put (D := D) (ci := 9) (v := .int (nI (rrn + 1))) (ty := .int) (C := RX9) (T := TX9) (N := 32) hx hb hts iw_9 tyX9 tyX9_ok nmX9 hown hK hP hD hS 0 rfl rfl 20 (by decide) (hts (.fieldLink RX9 147 "DepositCodesModel" "refusedCount" "I") (by decide +kernel)) (fun _ h9 => h9) rfl (by decide +kernel) rfl rfl (Nat.le_of_ble_eq_true rfl) dX9_refuse_90 (fun H locs hP hD hS => ?_)
              have hP : va_P D vwCl [(w0, .inr (9, [.ref a1, .ref a2, .int (nI rdn), .int rfa, .int (nI rmn), .ref a3, .ref a4, .ref a5, .ref a6, .ref a7, .ref a8, .ref a9, .ref a10, .ref a11, .ref a12, .ref a13, .int (nI rpn), .int rre, .ref a14, .ref a15, .int (nI (rrn + 1)), .ref a16, .int (nI rfn), .ref a17, .ref a18, .ref a19, .int (nI rkn), .ref a20, .ref a21, .int (nI rcn), .ref a22, .ref a23])), (a14, .inl (cJ, 1100, .inr (.inl (vp_updL rrf k v)))), (a15, .inl (cI, 1100, .inl (upd rof k ((rof k) + 1)))), (a16, .inl (cI, 1100, .inl rfr))] H := hP
              have hD : va_D A [(w0, .inr (9, [.ref a1, .ref a2, .int (nI rdn), .int rfa, .int (nI rmn), .ref a3, .ref a4, .ref a5, .ref a6, .ref a7, .ref a8, .ref a9, .ref a10, .ref a11, .ref a12, .ref a13, .int (nI rpn), .int rre, .ref a14, .ref a15, .int (nI (rrn + 1)), .ref a16, .int (nI rfn), .ref a17, .ref a18, .ref a19, .int (nI rkn), .ref a20, .ref a21, .int (nI rcn), .ref a22, .ref a23])), (a14, .inl (cJ, 1100, .inr (.inl (vp_updL rrf k v)))), (a15, .inl (cI, 1100, .inl (upd rof k ((rof k) + 1)))), (a16, .inl (cI, 1100, .inl rfr))] := hD
              refine lv_aload_n hx hb dX9_refuse_93 rfl (lv_at hl 1 rfl) ?_
              refine va_get (D := D) (ci := 9) (v := .ref a15) (C := RX9) (T := TX9) (N := 32) hx hb hts iw_9 hown hK hP 0 rfl rfl 19 (by decide) (hts (.fieldLink RX9 54 "DepositCodesModel" "often" "[I") (by decide +kernel)) (fun _ h9 => h9) rfl dX9_refuse_94 ?_
              refine lv_iload hx hb dX9_refuse_97 (lv_at hl 0 rfl) ?_
              refine na_iald hx hb hK hP 2 0 rfl rfl (by omega) (by decide) dX9_refuse_99 ?_
              refine lv_iconst (v := 3) hx hb dX9_refuse_100 (by decide) ?_
              refine lv_irem hx hb dX9_refuse_101 (by decide) ?_
              refine lv_if_ne (tgt := 125) hx hb dX9_refuse_102 (by decide) (fun c_13 => ?_) (fun c_13 => ?_)
              · rw [if_neg c_13] at hE
                subst hE
                exact W.vret hx hb hr (fun t ht hW => ⟨rfl, by rw [ht]; exact hP, hD, hS.F ht⟩) hS.2.2 dX9_refuse_125
              · rw [if_pos c_13] at hE
                refine lv_aload_n hx hb dX9_refuse_105 rfl (lv_at hl 1 rfl) ?_
                refine va_get (D := D) (ci := 9) (v := .ref a16) (C := RX9) (T := TX9) (N := 32) hx hb hts iw_9 hown hK hP 0 rfl rfl 21 (by decide) (hts (.fieldLink RX9 57 "DepositCodesModel" "frauds" "[I") (by decide +kernel)) (fun _ h9 => h9) rfl dX9_refuse_106 ?_
                refine lv_aload_n hx hb dX9_refuse_109 rfl (lv_at hl 1 rfl) ?_
                refine va_get (D := D) (ci := 9) (v := .int (nI rfn)) (C := RX9) (T := TX9) (N := 32) hx hb hts iw_9 hown hK hP 0 rfl rfl 22 (by decide) (hts (.fieldLink RX9 150 "DepositCodesModel" "fraudCount" "I") (by decide +kernel)) (fun _ h9 => h9) rfl dX9_refuse_110 ?_
                refine lv_iload_n hx hb dX9_refuse_113 rfl (lv_at hl 2 rfl) ?_
                refine na_iast hx hb hK hP hD hS 3 0 rfl rfl (by omega) (by decide) dX9_refuse_114 (fun H locs hP hD hS => ?_)
                have hP : va_P D vwCl [(w0, .inr (9, [.ref a1, .ref a2, .int (nI rdn), .int rfa, .int (nI rmn), .ref a3, .ref a4, .ref a5, .ref a6, .ref a7, .ref a8, .ref a9, .ref a10, .ref a11, .ref a12, .ref a13, .int (nI rpn), .int rre, .ref a14, .ref a15, .int (nI (rrn + 1)), .ref a16, .int (nI rfn), .ref a17, .ref a18, .ref a19, .int (nI rkn), .ref a20, .ref a21, .int (nI rcn), .ref a22, .ref a23])), (a14, .inl (cJ, 1100, .inr (.inl (vp_updL rrf k v)))), (a15, .inl (cI, 1100, .inl (upd rof k ((rof k) + 1)))), (a16, .inl (cI, 1100, .inl (upd rfr rfn mc)))] H := hP
                have hD : va_D A [(w0, .inr (9, [.ref a1, .ref a2, .int (nI rdn), .int rfa, .int (nI rmn), .ref a3, .ref a4, .ref a5, .ref a6, .ref a7, .ref a8, .ref a9, .ref a10, .ref a11, .ref a12, .ref a13, .int (nI rpn), .int rre, .ref a14, .ref a15, .int (nI (rrn + 1)), .ref a16, .int (nI rfn), .ref a17, .ref a18, .ref a19, .int (nI rkn), .ref a20, .ref a21, .int (nI rcn), .ref a22, .ref a23])), (a14, .inl (cJ, 1100, .inr (.inl (vp_updL rrf k v)))), (a15, .inl (cI, 1100, .inl (upd rof k ((rof k) + 1)))), (a16, .inl (cI, 1100, .inl (upd rfr rfn mc)))] := hD
                refine lv_aload_n hx hb dX9_refuse_115 rfl (lv_at hl 1 rfl) ?_
                refine lv_dup hx hb dX9_refuse_116 rfl ?_
                refine va_get (D := D) (ci := 9) (v := .int (nI rfn)) (C := RX9) (T := TX9) (N := 32) hx hb hts iw_9 hown hK hP 0 rfl rfl 22 (by decide) (hts (.fieldLink RX9 150 "DepositCodesModel" "fraudCount" "I") (by decide +kernel)) (fun _ h9 => h9) rfl dX9_refuse_117 ?_
                refine lv_iconst (v := 1) hx hb dX9_refuse_120 (by decide) ?_
                refine lv_iadd hx hb dX9_refuse_121 ?_
                refine na_top (show (nI rfn) + 1 = nI (rfn + 1) from nI_add rfn 1) ?_
                refine va_put (D := D) (ci := 9) (v := .int (nI (rfn + 1))) (ty := .int) (C := RX9) (T := TX9) (N := 32) hx hb hts iw_9 tyX9 tyX9_ok nmX9 hown hK hP hD hS 0 rfl rfl 22 (by decide) (hts (.fieldLink RX9 150 "DepositCodesModel" "fraudCount" "I") (by decide +kernel)) (fun _ h9 => h9) rfl (by decide +kernel) rfl rfl (Nat.le_of_ble_eq_true rfl) dX9_refuse_122 (fun H locs hP hD hS => ?_)
                have hP : va_P D vwCl [(w0, .inr (9, [.ref a1, .ref a2, .int (nI rdn), .int rfa, .int (nI rmn), .ref a3, .ref a4, .ref a5, .ref a6, .ref a7, .ref a8, .ref a9, .ref a10, .ref a11, .ref a12, .ref a13, .int (nI rpn), .int rre, .ref a14, .ref a15, .int (nI (rrn + 1)), .ref a16, .int (nI (rfn + 1)), .ref a17, .ref a18, .ref a19, .int (nI rkn), .ref a20, .ref a21, .int (nI rcn), .ref a22, .ref a23])), (a14, .inl (cJ, 1100, .inr (.inl (vp_updL rrf k v)))), (a15, .inl (cI, 1100, .inl (upd rof k ((rof k) + 1)))), (a16, .inl (cI, 1100, .inl (upd rfr rfn mc)))] H := hP
                have hD : va_D A [(w0, .inr (9, [.ref a1, .ref a2, .int (nI rdn), .int rfa, .int (nI rmn), .ref a3, .ref a4, .ref a5, .ref a6, .ref a7, .ref a8, .ref a9, .ref a10, .ref a11, .ref a12, .ref a13, .int (nI rpn), .int rre, .ref a14, .ref a15, .int (nI (rrn + 1)), .ref a16, .int (nI (rfn + 1)), .ref a17, .ref a18, .ref a19, .int (nI rkn), .ref a20, .ref a21, .int (nI rcn), .ref a22, .ref a23])), (a14, .inl (cJ, 1100, .inr (.inl (vp_updL rrf k v)))), (a15, .inl (cI, 1100, .inl (upd rof k ((rof k) + 1)))), (a16, .inl (cI, 1100, .inl (upd rfr rfn mc)))] := hD
                subst hE
                exact W.vret hx hb hr (fun t ht hW => ⟨rfl, by rw [ht]; exact hP, hD, hS.F ht⟩) hS.2.2 dX9_refuse_125
          · have c_10 : k = rrn := (nI_eq (a := k) (b := rrn) (by omega) (by omega)).mp c_10
            rw [if_pos c_10] at hE
            refine lv_iconst (v := 1) hx hb dX9_refuse_53 (by decide) ?_
            refine lv_goto (tgt := 66) hx hb dX9_refuse_54 (by decide) ?_
            refine na_iast hx hb hK hP hD hS 2 0 rfl rfl (by omega) (by decide) dX9_refuse_66 (fun H locs hP hD hS => ?_)
            have hP : va_P D vwCl [(w0, .inr (9, [.ref a1, .ref a2, .int (nI rdn), .int rfa, .int (nI rmn), .ref a3, .ref a4, .ref a5, .ref a6, .ref a7, .ref a8, .ref a9, .ref a10, .ref a11, .ref a12, .ref a13, .int (nI rpn), .int rre, .ref a14, .ref a15, .int (nI rrn), .ref a16, .int (nI rfn), .ref a17, .ref a18, .ref a19, .int (nI rkn), .ref a20, .ref a21, .int (nI rcn), .ref a22, .ref a23])), (a14, .inl (cJ, 1100, .inr (.inl (vp_updL rrf k v)))), (a15, .inl (cI, 1100, .inl (upd rof k 1))), (a16, .inl (cI, 1100, .inl rfr))] H := hP
            have hD : va_D A [(w0, .inr (9, [.ref a1, .ref a2, .int (nI rdn), .int rfa, .int (nI rmn), .ref a3, .ref a4, .ref a5, .ref a6, .ref a7, .ref a8, .ref a9, .ref a10, .ref a11, .ref a12, .ref a13, .int (nI rpn), .int rre, .ref a14, .ref a15, .int (nI rrn), .ref a16, .int (nI rfn), .ref a17, .ref a18, .ref a19, .int (nI rkn), .ref a20, .ref a21, .int (nI rcn), .ref a22, .ref a23])), (a14, .inl (cJ, 1100, .inr (.inl (vp_updL rrf k v)))), (a15, .inl (cI, 1100, .inl (upd rof k 1))), (a16, .inl (cI, 1100, .inl rfr))] := hD
            refine lv_aload_n hx hb dX9_refuse_67 rfl (lv_at hl 1 rfl) ?_
            refine lv_iload hx hb dX9_refuse_68 (lv_at hl 0 rfl) ?_
            refine lv_aload_n hx hb dX9_refuse_70 rfl (lv_at hl 1 rfl) ?_
            refine va_get (D := D) (ci := 9) (v := .int (nI rrn)) (C := RX9) (T := TX9) (N := 32) hx hb hts iw_9 hown hK hP 0 rfl rfl 20 (by decide) (hts (.fieldLink RX9 147 "DepositCodesModel" "refusedCount" "I") (by decide +kernel)) (fun _ h9 => h9) rfl dX9_refuse_71 ?_
            refine lv_icmp_ne (tgt := 86) hx hb dX9_refuse_74 (by decide) (fun c_14 => ?_) (fun c_14 => ?_)
            · have c_14 : ¬ k = rrn := fun h9 => c_14 ((nI_eq (a := k) (b := rrn) (by omega) (by omega)).mpr h9)
              rw [if_neg c_14] at hE
              refine lv_aload_n hx hb dX9_refuse_86 rfl (lv_at hl 1 rfl) ?_
              refine va_get (D := D) (ci := 9) (v := .int (nI rrn)) (C := RX9) (T := TX9) (N := 32) hx hb hts iw_9 hown hK hP 0 rfl rfl 20 (by decide) (hts (.fieldLink RX9 147 "DepositCodesModel" "refusedCount" "I") (by decide +kernel)) (fun _ h9 => h9) rfl dX9_refuse_87 ?_
              refine va_put (D := D) (ci := 9) (v := .int (nI rrn)) (ty := .int) (C := RX9) (T := TX9) (N := 32) hx hb hts iw_9 tyX9 tyX9_ok nmX9 hown hK hP hD hS 0 rfl rfl 20 (by decide) (hts (.fieldLink RX9 147 "DepositCodesModel" "refusedCount" "I") (by decide +kernel)) (fun _ h9 => h9) rfl (by decide +kernel) rfl rfl (Nat.le_of_ble_eq_true rfl) dX9_refuse_90 (fun H locs hP hD hS => ?_)
              have hP : va_P D vwCl [(w0, .inr (9, [.ref a1, .ref a2, .int (nI rdn), .int rfa, .int (nI rmn), .ref a3, .ref a4, .ref a5, .ref a6, .ref a7, .ref a8, .ref a9, .ref a10, .ref a11, .ref a12, .ref a13, .int (nI rpn), .int rre, .ref a14, .ref a15, .int (nI rrn), .ref a16, .int (nI rfn), .ref a17, .ref a18, .ref a19, .int (nI rkn), .ref a20, .ref a21, .int (nI rcn), .ref a22, .ref a23])), (a14, .inl (cJ, 1100, .inr (.inl (vp_updL rrf k v)))), (a15, .inl (cI, 1100, .inl (upd rof k 1))), (a16, .inl (cI, 1100, .inl rfr))] H := hP
              have hD : va_D A [(w0, .inr (9, [.ref a1, .ref a2, .int (nI rdn), .int rfa, .int (nI rmn), .ref a3, .ref a4, .ref a5, .ref a6, .ref a7, .ref a8, .ref a9, .ref a10, .ref a11, .ref a12, .ref a13, .int (nI rpn), .int rre, .ref a14, .ref a15, .int (nI rrn), .ref a16, .int (nI rfn), .ref a17, .ref a18, .ref a19, .int (nI rkn), .ref a20, .ref a21, .int (nI rcn), .ref a22, .ref a23])), (a14, .inl (cJ, 1100, .inr (.inl (vp_updL rrf k v)))), (a15, .inl (cI, 1100, .inl (upd rof k 1))), (a16, .inl (cI, 1100, .inl rfr))] := hD
              refine lv_aload_n hx hb dX9_refuse_93 rfl (lv_at hl 1 rfl) ?_
              refine va_get (D := D) (ci := 9) (v := .ref a15) (C := RX9) (T := TX9) (N := 32) hx hb hts iw_9 hown hK hP 0 rfl rfl 19 (by decide) (hts (.fieldLink RX9 54 "DepositCodesModel" "often" "[I") (by decide +kernel)) (fun _ h9 => h9) rfl dX9_refuse_94 ?_
              refine lv_iload hx hb dX9_refuse_97 (lv_at hl 0 rfl) ?_
              refine na_iald hx hb hK hP 2 0 rfl rfl (by omega) (by decide) dX9_refuse_99 ?_
              refine lv_iconst (v := 3) hx hb dX9_refuse_100 (by decide) ?_
              refine lv_irem hx hb dX9_refuse_101 (by decide) ?_
              refine lv_if_ne (tgt := 125) hx hb dX9_refuse_102 (by decide) (fun c_15 => ?_) (fun c_15 => ?_)
              · rw [if_neg c_15] at hE
                subst hE
                exact W.vret hx hb hr (fun t ht hW => ⟨rfl, by rw [ht]; exact hP, hD, hS.F ht⟩) hS.2.2 dX9_refuse_125
              · rw [if_pos c_15] at hE
                refine lv_aload_n hx hb dX9_refuse_105 rfl (lv_at hl 1 rfl) ?_
                refine va_get (D := D) (ci := 9) (v := .ref a16) (C := RX9) (T := TX9) (N := 32) hx hb hts iw_9 hown hK hP 0 rfl rfl 21 (by decide) (hts (.fieldLink RX9 57 "DepositCodesModel" "frauds" "[I") (by decide +kernel)) (fun _ h9 => h9) rfl dX9_refuse_106 ?_
                refine lv_aload_n hx hb dX9_refuse_109 rfl (lv_at hl 1 rfl) ?_
                refine va_get (D := D) (ci := 9) (v := .int (nI rfn)) (C := RX9) (T := TX9) (N := 32) hx hb hts iw_9 hown hK hP 0 rfl rfl 22 (by decide) (hts (.fieldLink RX9 150 "DepositCodesModel" "fraudCount" "I") (by decide +kernel)) (fun _ h9 => h9) rfl dX9_refuse_110 ?_
                refine lv_iload_n hx hb dX9_refuse_113 rfl (lv_at hl 2 rfl) ?_
                refine na_iast hx hb hK hP hD hS 3 0 rfl rfl (by omega) (by decide) dX9_refuse_114 (fun H locs hP hD hS => ?_)
                have hP : va_P D vwCl [(w0, .inr (9, [.ref a1, .ref a2, .int (nI rdn), .int rfa, .int (nI rmn), .ref a3, .ref a4, .ref a5, .ref a6, .ref a7, .ref a8, .ref a9, .ref a10, .ref a11, .ref a12, .ref a13, .int (nI rpn), .int rre, .ref a14, .ref a15, .int (nI rrn), .ref a16, .int (nI rfn), .ref a17, .ref a18, .ref a19, .int (nI rkn), .ref a20, .ref a21, .int (nI rcn), .ref a22, .ref a23])), (a14, .inl (cJ, 1100, .inr (.inl (vp_updL rrf k v)))), (a15, .inl (cI, 1100, .inl (upd rof k 1))), (a16, .inl (cI, 1100, .inl (upd rfr rfn mc)))] H := hP
                have hD : va_D A [(w0, .inr (9, [.ref a1, .ref a2, .int (nI rdn), .int rfa, .int (nI rmn), .ref a3, .ref a4, .ref a5, .ref a6, .ref a7, .ref a8, .ref a9, .ref a10, .ref a11, .ref a12, .ref a13, .int (nI rpn), .int rre, .ref a14, .ref a15, .int (nI rrn), .ref a16, .int (nI rfn), .ref a17, .ref a18, .ref a19, .int (nI rkn), .ref a20, .ref a21, .int (nI rcn), .ref a22, .ref a23])), (a14, .inl (cJ, 1100, .inr (.inl (vp_updL rrf k v)))), (a15, .inl (cI, 1100, .inl (upd rof k 1))), (a16, .inl (cI, 1100, .inl (upd rfr rfn mc)))] := hD
                refine lv_aload_n hx hb dX9_refuse_115 rfl (lv_at hl 1 rfl) ?_
                refine lv_dup hx hb dX9_refuse_116 rfl ?_
                refine va_get (D := D) (ci := 9) (v := .int (nI rfn)) (C := RX9) (T := TX9) (N := 32) hx hb hts iw_9 hown hK hP 0 rfl rfl 22 (by decide) (hts (.fieldLink RX9 150 "DepositCodesModel" "fraudCount" "I") (by decide +kernel)) (fun _ h9 => h9) rfl dX9_refuse_117 ?_
                refine lv_iconst (v := 1) hx hb dX9_refuse_120 (by decide) ?_
                refine lv_iadd hx hb dX9_refuse_121 ?_
                refine na_top (show (nI rfn) + 1 = nI (rfn + 1) from nI_add rfn 1) ?_
                refine va_put (D := D) (ci := 9) (v := .int (nI (rfn + 1))) (ty := .int) (C := RX9) (T := TX9) (N := 32) hx hb hts iw_9 tyX9 tyX9_ok nmX9 hown hK hP hD hS 0 rfl rfl 22 (by decide) (hts (.fieldLink RX9 150 "DepositCodesModel" "fraudCount" "I") (by decide +kernel)) (fun _ h9 => h9) rfl (by decide +kernel) rfl rfl (Nat.le_of_ble_eq_true rfl) dX9_refuse_122 (fun H locs hP hD hS => ?_)
                have hP : va_P D vwCl [(w0, .inr (9, [.ref a1, .ref a2, .int (nI rdn), .int rfa, .int (nI rmn), .ref a3, .ref a4, .ref a5, .ref a6, .ref a7, .ref a8, .ref a9, .ref a10, .ref a11, .ref a12, .ref a13, .int (nI rpn), .int rre, .ref a14, .ref a15, .int (nI rrn), .ref a16, .int (nI (rfn + 1)), .ref a17, .ref a18, .ref a19, .int (nI rkn), .ref a20, .ref a21, .int (nI rcn), .ref a22, .ref a23])), (a14, .inl (cJ, 1100, .inr (.inl (vp_updL rrf k v)))), (a15, .inl (cI, 1100, .inl (upd rof k 1))), (a16, .inl (cI, 1100, .inl (upd rfr rfn mc)))] H := hP
                have hD : va_D A [(w0, .inr (9, [.ref a1, .ref a2, .int (nI rdn), .int rfa, .int (nI rmn), .ref a3, .ref a4, .ref a5, .ref a6, .ref a7, .ref a8, .ref a9, .ref a10, .ref a11, .ref a12, .ref a13, .int (nI rpn), .int rre, .ref a14, .ref a15, .int (nI rrn), .ref a16, .int (nI (rfn + 1)), .ref a17, .ref a18, .ref a19, .int (nI rkn), .ref a20, .ref a21, .int (nI rcn), .ref a22, .ref a23])), (a14, .inl (cJ, 1100, .inr (.inl (vp_updL rrf k v)))), (a15, .inl (cI, 1100, .inl (upd rof k 1))), (a16, .inl (cI, 1100, .inl (upd rfr rfn mc)))] := hD
                subst hE
                exact W.vret hx hb hr (fun t ht hW => ⟨rfl, by rw [ht]; exact hP, hD, hS.F ht⟩) hS.2.2 dX9_refuse_125
            · have c_14 : k = rrn := (nI_eq (a := k) (b := rrn) (by omega) (by omega)).mp c_14
              rw [if_pos c_14] at hE
              refine lv_aload_n hx hb dX9_refuse_77 rfl (lv_at hl 1 rfl) ?_
              refine va_get (D := D) (ci := 9) (v := .int (nI rrn)) (C := RX9) (T := TX9) (N := 32) hx hb hts iw_9 hown hK hP 0 rfl rfl 20 (by decide) (hts (.fieldLink RX9 147 "DepositCodesModel" "refusedCount" "I") (by decide +kernel)) (fun _ h9 => h9) rfl dX9_refuse_78 ?_
              refine lv_iconst (v := 1) hx hb dX9_refuse_81 (by decide) ?_
              refine lv_iadd hx hb dX9_refuse_82 ?_
              refine na_top (show (nI rrn) + 1 = nI (rrn + 1) from nI_add rrn 1) ?_
              refine lv_goto (tgt := 90) hx hb dX9_refuse_83 (by decide) ?_
              refine va_put (D := D) (ci := 9) (v := .int (nI (rrn + 1))) (ty := .int) (C := RX9) (T := TX9) (N := 32) hx hb hts iw_9 tyX9 tyX9_ok nmX9 hown hK hP hD hS 0 rfl rfl 20 (by decide) (hts (.fieldLink RX9 147 "DepositCodesModel" "refusedCount" "I") (by decide +kernel)) (fun _ h9 => h9) rfl (by decide +kernel) rfl rfl (Nat.le_of_ble_eq_true rfl) dX9_refuse_90 (fun H locs hP hD hS => ?_)
              have hP : va_P D vwCl [(w0, .inr (9, [.ref a1, .ref a2, .int (nI rdn), .int rfa, .int (nI rmn), .ref a3, .ref a4, .ref a5, .ref a6, .ref a7, .ref a8, .ref a9, .ref a10, .ref a11, .ref a12, .ref a13, .int (nI rpn), .int rre, .ref a14, .ref a15, .int (nI (rrn + 1)), .ref a16, .int (nI rfn), .ref a17, .ref a18, .ref a19, .int (nI rkn), .ref a20, .ref a21, .int (nI rcn), .ref a22, .ref a23])), (a14, .inl (cJ, 1100, .inr (.inl (vp_updL rrf k v)))), (a15, .inl (cI, 1100, .inl (upd rof k 1))), (a16, .inl (cI, 1100, .inl rfr))] H := hP
              have hD : va_D A [(w0, .inr (9, [.ref a1, .ref a2, .int (nI rdn), .int rfa, .int (nI rmn), .ref a3, .ref a4, .ref a5, .ref a6, .ref a7, .ref a8, .ref a9, .ref a10, .ref a11, .ref a12, .ref a13, .int (nI rpn), .int rre, .ref a14, .ref a15, .int (nI (rrn + 1)), .ref a16, .int (nI rfn), .ref a17, .ref a18, .ref a19, .int (nI rkn), .ref a20, .ref a21, .int (nI rcn), .ref a22, .ref a23])), (a14, .inl (cJ, 1100, .inr (.inl (vp_updL rrf k v)))), (a15, .inl (cI, 1100, .inl (upd rof k 1))), (a16, .inl (cI, 1100, .inl rfr))] := hD
              refine lv_aload_n hx hb dX9_refuse_93 rfl (lv_at hl 1 rfl) ?_
              refine va_get (D := D) (ci := 9) (v := .ref a15) (C := RX9) (T := TX9) (N := 32) hx hb hts iw_9 hown hK hP 0 rfl rfl 19 (by decide) (hts (.fieldLink RX9 54 "DepositCodesModel" "often" "[I") (by decide +kernel)) (fun _ h9 => h9) rfl dX9_refuse_94 ?_
              refine lv_iload hx hb dX9_refuse_97 (lv_at hl 0 rfl) ?_
              refine na_iald hx hb hK hP 2 0 rfl rfl (by omega) (by decide) dX9_refuse_99 ?_
              refine lv_iconst (v := 3) hx hb dX9_refuse_100 (by decide) ?_
              refine lv_irem hx hb dX9_refuse_101 (by decide) ?_
              refine lv_if_ne (tgt := 125) hx hb dX9_refuse_102 (by decide) (fun c_16 => ?_) (fun c_16 => ?_)
              · rw [if_neg c_16] at hE
                subst hE
                exact W.vret hx hb hr (fun t ht hW => ⟨rfl, by rw [ht]; exact hP, hD, hS.F ht⟩) hS.2.2 dX9_refuse_125
              · rw [if_pos c_16] at hE
                refine lv_aload_n hx hb dX9_refuse_105 rfl (lv_at hl 1 rfl) ?_
                refine va_get (D := D) (ci := 9) (v := .ref a16) (C := RX9) (T := TX9) (N := 32) hx hb hts iw_9 hown hK hP 0 rfl rfl 21 (by decide) (hts (.fieldLink RX9 57 "DepositCodesModel" "frauds" "[I") (by decide +kernel)) (fun _ h9 => h9) rfl dX9_refuse_106 ?_
                refine lv_aload_n hx hb dX9_refuse_109 rfl (lv_at hl 1 rfl) ?_
                refine va_get (D := D) (ci := 9) (v := .int (nI rfn)) (C := RX9) (T := TX9) (N := 32) hx hb hts iw_9 hown hK hP 0 rfl rfl 22 (by decide) (hts (.fieldLink RX9 150 "DepositCodesModel" "fraudCount" "I") (by decide +kernel)) (fun _ h9 => h9) rfl dX9_refuse_110 ?_
                refine lv_iload_n hx hb dX9_refuse_113 rfl (lv_at hl 2 rfl) ?_
                refine na_iast hx hb hK hP hD hS 3 0 rfl rfl (by omega) (by decide) dX9_refuse_114 (fun H locs hP hD hS => ?_)
                have hP : va_P D vwCl [(w0, .inr (9, [.ref a1, .ref a2, .int (nI rdn), .int rfa, .int (nI rmn), .ref a3, .ref a4, .ref a5, .ref a6, .ref a7, .ref a8, .ref a9, .ref a10, .ref a11, .ref a12, .ref a13, .int (nI rpn), .int rre, .ref a14, .ref a15, .int (nI (rrn + 1)), .ref a16, .int (nI rfn), .ref a17, .ref a18, .ref a19, .int (nI rkn), .ref a20, .ref a21, .int (nI rcn), .ref a22, .ref a23])), (a14, .inl (cJ, 1100, .inr (.inl (vp_updL rrf k v)))), (a15, .inl (cI, 1100, .inl (upd rof k 1))), (a16, .inl (cI, 1100, .inl (upd rfr rfn mc)))] H := hP
                have hD : va_D A [(w0, .inr (9, [.ref a1, .ref a2, .int (nI rdn), .int rfa, .int (nI rmn), .ref a3, .ref a4, .ref a5, .ref a6, .ref a7, .ref a8, .ref a9, .ref a10, .ref a11, .ref a12, .ref a13, .int (nI rpn), .int rre, .ref a14, .ref a15, .int (nI (rrn + 1)), .ref a16, .int (nI rfn), .ref a17, .ref a18, .ref a19, .int (nI rkn), .ref a20, .ref a21, .int (nI rcn), .ref a22, .ref a23])), (a14, .inl (cJ, 1100, .inr (.inl (vp_updL rrf k v)))), (a15, .inl (cI, 1100, .inl (upd rof k 1))), (a16, .inl (cI, 1100, .inl (upd rfr rfn mc)))] := hD
                refine lv_aload_n hx hb dX9_refuse_115 rfl (lv_at hl 1 rfl) ?_
                refine lv_dup hx hb dX9_refuse_116 rfl ?_
                refine va_get (D := D) (ci := 9) (v := .int (nI rfn)) (C := RX9) (T := TX9) (N := 32) hx hb hts iw_9 hown hK hP 0 rfl rfl 22 (by decide) (hts (.fieldLink RX9 150 "DepositCodesModel" "fraudCount" "I") (by decide +kernel)) (fun _ h9 => h9) rfl dX9_refuse_117 ?_
                refine lv_iconst (v := 1) hx hb dX9_refuse_120 (by decide) ?_
                refine lv_iadd hx hb dX9_refuse_121 ?_
                refine na_top (show (nI rfn) + 1 = nI (rfn + 1) from nI_add rfn 1) ?_
                refine va_put (D := D) (ci := 9) (v := .int (nI (rfn + 1))) (ty := .int) (C := RX9) (T := TX9) (N := 32) hx hb hts iw_9 tyX9 tyX9_ok nmX9 hown hK hP hD hS 0 rfl rfl 22 (by decide) (hts (.fieldLink RX9 150 "DepositCodesModel" "fraudCount" "I") (by decide +kernel)) (fun _ h9 => h9) rfl (by decide +kernel) rfl rfl (Nat.le_of_ble_eq_true rfl) dX9_refuse_122 (fun H locs hP hD hS => ?_)
                have hP : va_P D vwCl [(w0, .inr (9, [.ref a1, .ref a2, .int (nI rdn), .int rfa, .int (nI rmn), .ref a3, .ref a4, .ref a5, .ref a6, .ref a7, .ref a8, .ref a9, .ref a10, .ref a11, .ref a12, .ref a13, .int (nI rpn), .int rre, .ref a14, .ref a15, .int (nI (rrn + 1)), .ref a16, .int (nI (rfn + 1)), .ref a17, .ref a18, .ref a19, .int (nI rkn), .ref a20, .ref a21, .int (nI rcn), .ref a22, .ref a23])), (a14, .inl (cJ, 1100, .inr (.inl (vp_updL rrf k v)))), (a15, .inl (cI, 1100, .inl (upd rof k 1))), (a16, .inl (cI, 1100, .inl (upd rfr rfn mc)))] H := hP
                have hD : va_D A [(w0, .inr (9, [.ref a1, .ref a2, .int (nI rdn), .int rfa, .int (nI rmn), .ref a3, .ref a4, .ref a5, .ref a6, .ref a7, .ref a8, .ref a9, .ref a10, .ref a11, .ref a12, .ref a13, .int (nI rpn), .int rre, .ref a14, .ref a15, .int (nI (rrn + 1)), .ref a16, .int (nI (rfn + 1)), .ref a17, .ref a18, .ref a19, .int (nI rkn), .ref a20, .ref a21, .int (nI rcn), .ref a22, .ref a23])), (a14, .inl (cJ, 1100, .inr (.inl (vp_updL rrf k v)))), (a15, .inl (cI, 1100, .inl (upd rof k 1))), (a16, .inl (cI, 1100, .inl (upd rfr rfn mc)))] := hD
                subst hE
                exact W.vret hx hb hr (fun t ht hW => ⟨rfl, by rw [ht]; exact hP, hD, hS.F ht⟩) hS.2.2 dX9_refuse_125
        · rw [if_neg c_9] at hE
          refine lv_iinc (v := nI (k + 1)) (lv' := [(4, .int (nI (k + 1))), (0, .ref w0), (1, .int mc), (2, .long v)]) hx hb dX9_refuse_24 hl (k := 0) rfl (nI_1 k) (by decide) rfl (fun ls hl => ?_)
          refine lv_goto (tgt := 3) hx hb dX9_refuse_27 (by decide) ?_
          exact ih (k + 1) (by omega) (by omega) hE _ _ hP hD hS ls (lv_sub hl [0, 1, 2, 3] rfl)
  refine lv_iconst (v := 0) hx hb dX9_refuse_0 (by decide) ?_
  refine lv_istore (lv' := [(4, .int 0), (0, .ref w0), (1, .int mc), (2, .long v)]) hx hb dX9_refuse_1 hl (by decide) rfl (fun ls hl => ?_)
  exact loop_3 (rrn + 1) 0 (by omega) (by omega) hE _ _ hP hD hS ls (lv_sub hl [0, 1, 2, 3] rfl)
def FX9_give (rmn : Nat) (rpn : Nat) (rre : Int32) (rrn : Nat) (rfn : Nat) (rse : Nat → Int32) (rfu : Nat → Int32) (rda : Nat → Int32) (rle : Nat → Int32) (rmo : Nat → Int32) (rsn : Nat → Int64) (rpa : Nat → Int32) (rsh : Nat → Int32) (rmt : Nat → Int64) (rco : Nat → Int32) (rpr : Nat → Int32) (rrf : Nat → Int64) (rof : Nat → Int32) (rfr : Nat → Int32) (k : Int32) (v : Int64) (sh : Int32) (w : Int32) (sc : Int64) : Int32 × Int32 × Int32 × (Nat → Int64) × (Nat → Int32) × (Nat → Int32) × (Nat → Int64) × (Nat → Int32) × (Nat → Int32) × Nat × (Nat → Int64) × (Nat → Int32) × Nat × (Nat → Int32) × Nat := if (FX9_isIn v 999999999999999999) = 0 then ((-1), 0, rre, rsn, rpa, rsh, rmt, rco, rpr, rpn, rrf, rof, rrn, rfr, rfn) else (if (FX9_isIn sc 100000000000) = 0 then ((-1), 0, rre, rsn, rpa, rsh, rmt, rco, rpr, rpn, rrf, rof, rrn, rfr, rfn) else (if rpn = 200 then ((-1), 0, rre, rsn, rpa, rsh, rmt, rco, rpr, rpn, rrf, rof, rrn, rfr, rfn) else (if ((FX9_reasonFor rmn rpn rse rfu rda rle rmo rsn rpa rco k v sh w).1) = 7 then (if ((FX9_reasonFor rmn rpn rse rfu rda rle rmo rsn rpa rco k v sh w).1) ≤ 0 then (1, (FX9_reasonFor rmn rpn rse rfu rda rle rmo rsn rpa rco k v sh w).2, (FX9_reasonFor rmn rpn rse rfu rda rle rmo rsn rpa rco k v sh w).1, vp_updL rsn rpn v, upd rpa rpn k, upd rsh rpn sh, vp_updL rmt rpn (sc / 2592000), upd rco rpn (vp_nar .boolean 1), upd rpr rpn (vp_nar .boolean 0), rpn + 1, (FX9_refuse rrn rfn rrf rof rfr k v).1, (FX9_refuse rrn rfn rrf rof rfr k v).2.1, (FX9_refuse rrn rfn rrf rof rfr k v).2.2.1, (FX9_refuse rrn rfn rrf rof rfr k v).2.2.2.1, (FX9_refuse rrn rfn rrf rof rfr k v).2.2.2.2) else (0, (FX9_reasonFor rmn rpn rse rfu rda rle rmo rsn rpa rco k v sh w).2, (FX9_reasonFor rmn rpn rse rfu rda rle rmo rsn rpa rco k v sh w).1, rsn, rpa, rsh, rmt, rco, rpr, rpn, (FX9_refuse rrn rfn rrf rof rfr k v).1, (FX9_refuse rrn rfn rrf rof rfr k v).2.1, (FX9_refuse rrn rfn rrf rof rfr k v).2.2.1, (FX9_refuse rrn rfn rrf rof rfr k v).2.2.2.1, (FX9_refuse rrn rfn rrf rof rfr k v).2.2.2.2)) else (if ((FX9_reasonFor rmn rpn rse rfu rda rle rmo rsn rpa rco k v sh w).1) ≤ 0 then (1, (FX9_reasonFor rmn rpn rse rfu rda rle rmo rsn rpa rco k v sh w).2, (FX9_reasonFor rmn rpn rse rfu rda rle rmo rsn rpa rco k v sh w).1, vp_updL rsn rpn v, upd rpa rpn k, upd rsh rpn sh, vp_updL rmt rpn (sc / 2592000), upd rco rpn (vp_nar .boolean 1), upd rpr rpn (vp_nar .boolean 0), rpn + 1, rrf, rof, rrn, rfr, rfn) else (0, (FX9_reasonFor rmn rpn rse rfu rda rle rmo rsn rpa rco k v sh w).2, (FX9_reasonFor rmn rpn rse rfu rda rle rmo rsn rpa rco k v sh w).1, rsn, rpa, rsh, rmt, rco, rpr, rpn, rrf, rof, rrn, rfr, rfn)))))
set_option maxHeartbeats 4000000 in
set_option maxRecDepth 100000 in
theorem kX9_give (l : Launch) (D : va_G) (cI cJ cZ : ClassId) (w0 : Nat) (a1 : Nat) (a2 : Nat) (a3 : Nat) (a4 : Nat) (a5 : Nat) (a6 : Nat) (a7 : Nat) (a8 : Nat) (a9 : Nat) (a10 : Nat) (a11 : Nat) (a12 : Nat) (a13 : Nat) (a14 : Nat) (a15 : Nat) (a16 : Nat) (a17 : Nat) (a18 : Nat) (a19 : Nat) (a20 : Nat) (a21 : Nat) (a22 : Nat) (a23 : Nat) (rdn : Nat) (rfa : Int32) (rmn : Nat) (rpn : Nat) (rre : Int32) (rrn : Nat) (rfn : Nat) (rkn : Nat) (rcn : Nat) (rse : Nat → Int32) (rfu : Nat → Int32) (rda : Nat → Int32) (rle : Nat → Int32) (rmo : Nat → Int32) (rsn : Nat → Int64) (rpa : Nat → Int32) (rsh : Nat → Int32) (rmt : Nat → Int64) (rco : Nat → Int32) (rpr : Nat → Int32) (rrf : Nat → Int64) (rof : Nat → Int32) (rfr : Nat → Int32) (k : Int32) (v : Int64) (sh : Int32) (w : Int32) (sc : Int64) (sz : Nat) (hmn : rmn ≤ 6) (hpn : rpn ≤ 200) (hpy : ∀ j, j < rpn → vp_in (rpa j) 6) (hrn : rrn < 1100) (hfn : rfn < 1100) : Met l yX9_give wsX9_give ({ frames := 2, cells := 0, slots := 0, locals := 53 }) (mP D (tz cI cJ cZ) [.ref w0, .int k, .long v, .int sh, .int w, .long sc] sz [(w0, .inr (9, [.ref a1, .ref a2, .int (nI rdn), .int rfa, .int (nI rmn), .ref a3, .ref a4, .ref a5, .ref a6, .ref a7, .ref a8, .ref a9, .ref a10, .ref a11, .ref a12, .ref a13, .int (nI rpn), .int rre, .ref a14, .ref a15, .int (nI rrn), .ref a16, .int (nI rfn), .ref a17, .ref a18, .ref a19, .int (nI rkn), .ref a20, .ref a21, .int (nI rcn), .ref a22, .ref a23])), (a3, .inl (cI, 6, .inl rse)), (a4, .inl (cZ, 6, .inl rfu)), (a5, .inl (cZ, 6, .inl rda)), (a6, .inl (cI, 8, .inl rle)), (a7, .inl (cI, 8, .inl rmo)), (a8, .inl (cJ, 200, .inr (.inl rsn))), (a9, .inl (cI, 200, .inl rpa)), (a10, .inl (cI, 200, .inl rsh)), (a11, .inl (cJ, 200, .inr (.inl rmt))), (a12, .inl (cZ, 200, .inl rco)), (a13, .inl (cZ, 200, .inl rpr)), (a14, .inl (cJ, 1100, .inr (.inl rrf))), (a15, .inl (cI, 1100, .inl rof)), (a16, .inl (cI, 1100, .inl rfr))]) (mQ D (some (.int ((FX9_give rmn rpn rre rrn rfn rse rfu rda rle rmo rsn rpa rsh rmt rco rpr rrf rof rfr k v sh w sc).1))) [(w0, .inr (9, [.ref a1, .ref a2, .int (nI rdn), .int ((FX9_give rmn rpn rre rrn rfn rse rfu rda rle rmo rsn rpa rsh rmt rco rpr rrf rof rfr k v sh w sc).2.1), .int (nI rmn), .ref a3, .ref a4, .ref a5, .ref a6, .ref a7, .ref a8, .ref a9, .ref a10, .ref a11, .ref a12, .ref a13, .int (nI ((FX9_give rmn rpn rre rrn rfn rse rfu rda rle rmo rsn rpa rsh rmt rco rpr rrf rof rfr k v sh w sc).2.2.2.2.2.2.2.2.2.1)), .int ((FX9_give rmn rpn rre rrn rfn rse rfu rda rle rmo rsn rpa rsh rmt rco rpr rrf rof rfr k v sh w sc).2.2.1), .ref a14, .ref a15, .int (nI ((FX9_give rmn rpn rre rrn rfn rse rfu rda rle rmo rsn rpa rsh rmt rco rpr rrf rof rfr k v sh w sc).2.2.2.2.2.2.2.2.2.2.2.2.1)), .ref a16, .int (nI ((FX9_give rmn rpn rre rrn rfn rse rfu rda rle rmo rsn rpa rsh rmt rco rpr rrf rof rfr k v sh w sc).2.2.2.2.2.2.2.2.2.2.2.2.2.2)), .ref a17, .ref a18, .ref a19, .int (nI rkn), .ref a20, .ref a21, .int (nI rcn), .ref a22, .ref a23])), (a3, .inl (cI, 6, .inl rse)), (a4, .inl (cZ, 6, .inl rfu)), (a5, .inl (cZ, 6, .inl rda)), (a6, .inl (cI, 8, .inl rle)), (a7, .inl (cI, 8, .inl rmo)), (a8, .inl (cJ, 200, .inr (.inl ((FX9_give rmn rpn rre rrn rfn rse rfu rda rle rmo rsn rpa rsh rmt rco rpr rrf rof rfr k v sh w sc).2.2.2.1)))), (a9, .inl (cI, 200, .inl ((FX9_give rmn rpn rre rrn rfn rse rfu rda rle rmo rsn rpa rsh rmt rco rpr rrf rof rfr k v sh w sc).2.2.2.2.1))), (a10, .inl (cI, 200, .inl ((FX9_give rmn rpn rre rrn rfn rse rfu rda rle rmo rsn rpa rsh rmt rco rpr rrf rof rfr k v sh w sc).2.2.2.2.2.1))), (a11, .inl (cJ, 200, .inr (.inl ((FX9_give rmn rpn rre rrn rfn rse rfu rda rle rmo rsn rpa rsh rmt rco rpr rrf rof rfr k v sh w sc).2.2.2.2.2.2.1)))), (a12, .inl (cZ, 200, .inl ((FX9_give rmn rpn rre rrn rfn rse rfu rda rle rmo rsn rpa rsh rmt rco rpr rrf rof rfr k v sh w sc).2.2.2.2.2.2.2.1))), (a13, .inl (cZ, 200, .inl ((FX9_give rmn rpn rre rrn rfn rse rfu rda rle rmo rsn rpa rsh rmt rco rpr rrf rof rfr k v sh w sc).2.2.2.2.2.2.2.2.1))), (a14, .inl (cJ, 1100, .inr (.inl ((FX9_give rmn rpn rre rrn rfn rse rfu rda rle rmo rsn rpa rsh rmt rco rpr rrf rof rfr k v sh w sc).2.2.2.2.2.2.2.2.2.2.1)))), (a15, .inl (cI, 1100, .inl ((FX9_give rmn rpn rre rrn rfn rse rfu rda rle rmo rsn rpa rsh rmt rco rpr rrf rof rfr k v sh w sc).2.2.2.2.2.2.2.2.2.2.2.1))), (a16, .inl (cI, 1100, .inl ((FX9_give rmn rpn rre rrn rfn rse rfu rda rle rmo rsn rpa rsh rmt rco rpr rrf rof rfr k v sh w sc).2.2.2.2.2.2.2.2.2.2.2.2.2.1)))] (va_A [(w0, .inr (9, [.ref a1, .ref a2, .int (nI rdn), .int rfa, .int (nI rmn), .ref a3, .ref a4, .ref a5, .ref a6, .ref a7, .ref a8, .ref a9, .ref a10, .ref a11, .ref a12, .ref a13, .int (nI rpn), .int rre, .ref a14, .ref a15, .int (nI rrn), .ref a16, .int (nI rfn), .ref a17, .ref a18, .ref a19, .int (nI rkn), .ref a20, .ref a21, .int (nI rcn), .ref a22, .ref a23])), (a3, .inl (cI, 6, .inl rse)), (a4, .inl (cZ, 6, .inl rfu)), (a5, .inl (cZ, 6, .inl rda)), (a6, .inl (cI, 8, .inl rle)), (a7, .inl (cI, 8, .inl rmo)), (a8, .inl (cJ, 200, .inr (.inl rsn))), (a9, .inl (cI, 200, .inl rpa)), (a10, .inl (cI, 200, .inl rsh)), (a11, .inl (cJ, 200, .inr (.inl rmt))), (a12, .inl (cZ, 200, .inl rco)), (a13, .inl (cZ, 200, .inl rpr)), (a14, .inl (cJ, 1100, .inr (.inl rrf))), (a15, .inl (cI, 1100, .inl rof)), (a16, .inl (cI, 1100, .inl rfr))] sz)) 0 0 (va_A [(w0, .inr (9, [.ref a1, .ref a2, .int (nI rdn), .int rfa, .int (nI rmn), .ref a3, .ref a4, .ref a5, .ref a6, .ref a7, .ref a8, .ref a9, .ref a10, .ref a11, .ref a12, .ref a13, .int (nI rpn), .int rre, .ref a14, .ref a15, .int (nI rrn), .ref a16, .int (nI rfn), .ref a17, .ref a18, .ref a19, .int (nI rkn), .ref a20, .ref a21, .int (nI rcn), .ref a22, .ref a23])), (a3, .inl (cI, 6, .inl rse)), (a4, .inl (cZ, 6, .inl rfu)), (a5, .inl (cZ, 6, .inl rda)), (a6, .inl (cI, 8, .inl rle)), (a7, .inl (cI, 8, .inl rmo)), (a8, .inl (cJ, 200, .inr (.inl rsn))), (a9, .inl (cI, 200, .inl rpa)), (a10, .inl (cI, 200, .inl rsh)), (a11, .inl (cJ, 200, .inr (.inl rmt))), (a12, .inl (cZ, 200, .inl rco)), (a13, .inl (cZ, 200, .inl rpr)), (a14, .inl (cJ, 1100, .inr (.inl rrf))), (a15, .inl (cI, 1100, .inl rof)), (a16, .inl (cI, 1100, .inl rfr))] sz) := by
  refine Met.ofW (cc := cX9_give) (maxL := 8) (ret := (some .int)) (by decide) rfl ?_
  intro p e s m args below meth c s₁ B hml hv
  obtain ⟨rfl, hsz, hP, hK, hD0, hN⟩ := hv
  have hx := B.exec
  have hb := B.bytes
  have hr := B.returns
  have hts := atoms_spec (ws := wsX9_give) B.pre
  have hown : s.vm.findClass RX9 = some m.cls := findClass_of_methodNamed B.named
  have hlocks := B.notSynchronized
  have iw_9 : ∀ w ∈ u_ws RX9 TX9 32, w ∈ wsX9_give := by decide +kernel
  subst hsz
  have hD := hD0.self (sz := s.heap.size)
  generalize hE : FX9_give rmn rpn rre rrn rfn rse rfu rda rle rmo rsn rpa rsh rmt rco rpr rrf rof rfr k v sh w sc = R0
  generalize hAe : va_A [(w0, .inr (9, [.ref a1, .ref a2, .int (nI rdn), .int rfa, .int (nI rmn), .ref a3, .ref a4, .ref a5, .ref a6, .ref a7, .ref a8, .ref a9, .ref a10, .ref a11, .ref a12, .ref a13, .int (nI rpn), .int rre, .ref a14, .ref a15, .int (nI rrn), .ref a16, .int (nI rfn), .ref a17, .ref a18, .ref a19, .int (nI rkn), .ref a20, .ref a21, .int (nI rcn), .ref a22, .ref a23])), (a3, .inl (cI, 6, .inl rse)), (a4, .inl (cZ, 6, .inl rfu)), (a5, .inl (cZ, 6, .inl rda)), (a6, .inl (cI, 8, .inl rle)), (a7, .inl (cI, 8, .inl rmo)), (a8, .inl (cJ, 200, .inr (.inl rsn))), (a9, .inl (cI, 200, .inl rpa)), (a10, .inl (cI, 200, .inl rsh)), (a11, .inl (cJ, 200, .inr (.inl rmt))), (a12, .inl (cZ, 200, .inl rco)), (a13, .inl (cZ, 200, .inl rpr)), (a14, .inl (cJ, 1100, .inr (.inl rrf))), (a15, .inl (cI, 1100, .inl rof)), (a16, .inl (cI, 1100, .inl rfr))] s.heap.size = A at hD ⊢
  have hA : ∀ q : Nat, s.heap.size ≤ q → A q := fun q h => by rw [← hAe]; exact Or.inr h
  have hS : va_S A s.heap s.heap [] := va_S.rf
  rw [FX9_give] at hE
  have hl := lv_entry ([.ref w0, .int k, .long v, .int sh, .int w, .long sc]) (n := 8) (Nat.le_of_ble_eq_true rfl)
  rw [lg_entry_eq]
  generalize (lg_sl ([.ref w0, .int k, .long v, .int sh, .int w, .long sc]) ++ List.replicate (8 - (lg_sl ([.ref w0, .int k, .long v, .int sh, .int w, .long sc])).length) Slot.unset).toArray = ls at hl ⊢
  have hl : lv_has ls 8 [(0, .ref w0), (1, .int k), (2, .long v), (4, .int sh), (5, .int w), (6, .long sc)] := hl
  refine lv_aload_n hx hb dX9_give_0 rfl (lv_at hl 0 rfl) ?_
  refine lv_iconst (v := 0) hx hb dX9_give_1 (by decide) ?_
  refine va_put (D := D) (ci := 9) (v := .int 0) (ty := .int) (C := RX9) (T := TX9) (N := 32) hx hb hts iw_9 tyX9 tyX9_ok nmX9 hown hK hP hD hS 0 rfl rfl 3 (by decide) (hts (.fieldLink RX9 81 "DepositCodesModel" "fault" "I") (by decide +kernel)) (fun _ h9 => h9) rfl (by decide +kernel) rfl rfl (Nat.le_of_ble_eq_true rfl) dX9_give_2 (fun H locs hP hD hS => ?_)
  have hP : va_P D vwCl [(w0, .inr (9, [.ref a1, .ref a2, .int (nI rdn), .int 0, .int (nI rmn), .ref a3, .ref a4, .ref a5, .ref a6, .ref a7, .ref a8, .ref a9, .ref a10, .ref a11, .ref a12, .ref a13, .int (nI rpn), .int rre, .ref a14, .ref a15, .int (nI rrn), .ref a16, .int (nI rfn), .ref a17, .ref a18, .ref a19, .int (nI rkn), .ref a20, .ref a21, .int (nI rcn), .ref a22, .ref a23])), (a3, .inl (cI, 6, .inl rse)), (a4, .inl (cZ, 6, .inl rfu)), (a5, .inl (cZ, 6, .inl rda)), (a6, .inl (cI, 8, .inl rle)), (a7, .inl (cI, 8, .inl rmo)), (a8, .inl (cJ, 200, .inr (.inl rsn))), (a9, .inl (cI, 200, .inl rpa)), (a10, .inl (cI, 200, .inl rsh)), (a11, .inl (cJ, 200, .inr (.inl rmt))), (a12, .inl (cZ, 200, .inl rco)), (a13, .inl (cZ, 200, .inl rpr)), (a14, .inl (cJ, 1100, .inr (.inl rrf))), (a15, .inl (cI, 1100, .inl rof)), (a16, .inl (cI, 1100, .inl rfr))] H := hP
  have hD : va_D A [(w0, .inr (9, [.ref a1, .ref a2, .int (nI rdn), .int 0, .int (nI rmn), .ref a3, .ref a4, .ref a5, .ref a6, .ref a7, .ref a8, .ref a9, .ref a10, .ref a11, .ref a12, .ref a13, .int (nI rpn), .int rre, .ref a14, .ref a15, .int (nI rrn), .ref a16, .int (nI rfn), .ref a17, .ref a18, .ref a19, .int (nI rkn), .ref a20, .ref a21, .int (nI rcn), .ref a22, .ref a23])), (a3, .inl (cI, 6, .inl rse)), (a4, .inl (cZ, 6, .inl rfu)), (a5, .inl (cZ, 6, .inl rda)), (a6, .inl (cI, 8, .inl rle)), (a7, .inl (cI, 8, .inl rmo)), (a8, .inl (cJ, 200, .inr (.inl rsn))), (a9, .inl (cI, 200, .inl rpa)), (a10, .inl (cI, 200, .inl rsh)), (a11, .inl (cJ, 200, .inr (.inl rmt))), (a12, .inl (cZ, 200, .inl rco)), (a13, .inl (cZ, 200, .inl rpr)), (a14, .inl (cJ, 1100, .inr (.inl rrf))), (a15, .inl (cI, 1100, .inl rof)), (a16, .inl (cI, 1100, .inl rfr))] := hD
  refine lv_lload_n hx hb dX9_give_5 rfl (lv_at hl 2 rfl) ?_
  refine lv_ldc2 hx hb hown (hts (.constantLong RX9 117 999999999999999999) (by decide +kernel)) dX9_give_6 ?_
  refine rd_call (va_runS (As := [.long v, .long 999999999999999999]) (rest := []) ⟨hx, hb, hml, hown, hts⟩ (kX9_isIn l D cI cJ cZ v 999999999999999999) (va_cwS 2 hts gX9_give_X9_isIn rfl rfl rfl (by decide +kernel) ⟨Nat.le_of_ble_eq_true rfl, Nat.le_of_ble_eq_true rfl⟩) ⟨rP_blind, rP_pre (va_P_nil) hK hN⟩ rfl rfl hl.1 rfl (lv_room (Nat.le_of_ble_eq_true rfl)) dX9_give_9 ⟨Nat.zero_le _, Nat.zero_le _⟩) ?_
  refine lv_if_eq (tgt := 36) hx hb dX9_give_12 (by decide) (fun c_1 => ?_) (fun c_1 => ?_)
  · rw [if_pos c_1] at hE
    refine lv_iconst (v := (-1)) hx hb dX9_give_36 (by decide) ?_
    subst hE
    exact W.iret hx hb hr (fun t ht hW => ⟨rfl, by rw [ht]; exact hP, hD, hS.F ht⟩) hS.2.2 dX9_give_37
  · rw [if_neg c_1] at hE
    refine lv_lload hx hb dX9_give_15 (lv_at hl 5 rfl) ?_
    refine lv_ldc2 hx hb hown (hts (.constantLong RX9 153 100000000000) (by decide +kernel)) dX9_give_17 ?_
    refine rd_call (va_runS (As := [.long sc, .long 100000000000]) (rest := []) ⟨hx, hb, hml, hown, hts⟩ (kX9_isIn l D cI cJ cZ sc 100000000000) (va_cwS 2 hts gX9_give_X9_isIn rfl rfl rfl (by decide +kernel) ⟨Nat.le_of_ble_eq_true rfl, Nat.le_of_ble_eq_true rfl⟩) ⟨rP_blind, rP_pre (va_P_nil) hK hN⟩ rfl rfl hl.1 rfl (lv_room (Nat.le_of_ble_eq_true rfl)) dX9_give_20 ⟨Nat.zero_le _, Nat.zero_le _⟩) ?_
    refine lv_if_eq (tgt := 36) hx hb dX9_give_23 (by decide) (fun c_2 => ?_) (fun c_2 => ?_)
    · rw [if_pos c_2] at hE
      refine lv_iconst (v := (-1)) hx hb dX9_give_36 (by decide) ?_
      subst hE
      exact W.iret hx hb hr (fun t ht hW => ⟨rfl, by rw [ht]; exact hP, hD, hS.F ht⟩) hS.2.2 dX9_give_37
    · rw [if_neg c_2] at hE
      refine lv_aload_n hx hb dX9_give_26 rfl (lv_at hl 0 rfl) ?_
      refine va_get (D := D) (ci := 9) (v := .int (nI rpn)) (C := RX9) (T := TX9) (N := 32) hx hb hts iw_9 hown hK hP 0 rfl rfl 16 (by decide) (hts (.fieldLink RX9 140 "DepositCodesModel" "paid" "I") (by decide +kernel)) (fun _ h9 => h9) rfl dX9_give_27 ?_
      refine lv_sipush (v := 200) hx hb dX9_give_30 (by decide) ?_
      refine lv_icmp_ne (tgt := 38) hx hb dX9_give_33 (by decide) (fun c_3 => ?_) (fun c_3 => ?_)
      · have c_3 : ¬ rpn = 200 := fun h9 => c_3 ((nI_eq (a := rpn) (b := 200) (by omega) (by omega)).mpr h9)
        rw [if_neg c_3] at hE
        refine lv_aload_n hx hb dX9_give_38 rfl (lv_at hl 0 rfl) ?_
        refine lv_aload_n hx hb dX9_give_39 rfl (lv_at hl 0 rfl) ?_
        refine lv_iload_n hx hb dX9_give_40 rfl (lv_at hl 1 rfl) ?_
        refine lv_lload_n hx hb dX9_give_41 rfl (lv_at hl 2 rfl) ?_
        refine lv_iload hx hb dX9_give_42 (lv_at hl 3 rfl) ?_
        refine lv_iload hx hb dX9_give_44 (lv_at hl 4 rfl) ?_
        refine mt_call0 (wr := [(a10, .inl (cI, 200, .inl rsh)), (a11, .inl (cJ, 200, .inr (.inl rmt))), (a13, .inl (cZ, 200, .inl rpr)), (a14, .inl (cJ, 1100, .inr (.inl rrf))), (a15, .inl (cI, 1100, .inl rof)), (a16, .inl (cI, 1100, .inl rfr))]) (ws' := [(w0, .inr (9, [.ref a1, .ref a2, .int (nI rdn), .int ((FX9_reasonFor rmn rpn rse rfu rda rle rmo rsn rpa rco k v sh w).2), .int (nI rmn), .ref a3, .ref a4, .ref a5, .ref a6, .ref a7, .ref a8, .ref a9, .ref a10, .ref a11, .ref a12, .ref a13, .int (nI rpn), .int rre, .ref a14, .ref a15, .int (nI rrn), .ref a16, .int (nI rfn), .ref a17, .ref a18, .ref a19, .int (nI rkn), .ref a20, .ref a21, .int (nI rcn), .ref a22, .ref a23])), (a3, .inl (cI, 6, .inl rse)), (a4, .inl (cZ, 6, .inl rfu)), (a5, .inl (cZ, 6, .inl rda)), (a6, .inl (cI, 8, .inl rle)), (a7, .inl (cI, 8, .inl rmo)), (a8, .inl (cJ, 200, .inr (.inl rsn))), (a9, .inl (cI, 200, .inl rpa)), (a10, .inl (cI, 200, .inl rsh)), (a11, .inl (cJ, 200, .inr (.inl rmt))), (a12, .inl (cZ, 200, .inl rco)), (a13, .inl (cZ, 200, .inl rpr)), (a14, .inl (cJ, 1100, .inr (.inl rrf))), (a15, .inl (cI, 1100, .inl rof)), (a16, .inl (cI, 1100, .inl rfr))]) (st1 := [.int ((FX9_reasonFor rmn rpn rse rfu rda rle rmo rsn rpa rco k v sh w).1), .ref w0]) (va_runV (As := [.int k, .long v, .int sh, .int w]) (rest := [.ref w0]) ⟨hx, hb, hml, hown, hts⟩ (kX9_reasonFor l D cI cJ cZ w0 a1 a2 a3 a4 a5 a6 a7 a8 a9 a10 a11 a12 a13 a14 a15 a16 a17 a18 a19 a20 a21 a22 a23 rdn 0 rmn rpn rre rrn rfn rkn rcn rse rfu rda rle rmo rsn rpa rco k v sh w _ (by first | assumption | omega) (by first | assumption | omega) (by first | assumption | omega)) (cwV 4 hts gX9_give_X9_reasonFor rfl rfl rfl (by decide +kernel) ⟨Nat.le_of_ble_eq_true rfl, Nat.le_of_ble_eq_true rfl⟩) ⟨mP_blind, va_recv hK hP (ci := 9) (q0 := 0) rfl rfl, mP_pre (hP.sub [0, 1, 2, 3, 4, 5, 6, 7, 10] rfl) (hD.sub [0, 1, 2, 3, 4, 5, 6, 7, 10] (by decide) rfl) hK hN⟩ rfl rfl hl.1 rfl (lv_room (Nat.le_of_ble_eq_true rfl)) dX9_give_46 ⟨Nat.zero_le _, Nat.zero_le _⟩) hP hD hS hA [0, 1, 2, 3, 4, 5, 6, 7, 10] [8, 9, 11, 12, 13, 14] [6, 7, 8, 9, 10, 11, 12, 13, 0, 1, 14, 2, 3, 4, 5] rfl rfl (by decide) (by decide) (by decide) rfl rfl (fun H locs hP hD hS => ?_)
        refine va_put (D := D) (ci := 9) (v := .int ((FX9_reasonFor rmn rpn rse rfu rda rle rmo rsn rpa rco k v sh w).1)) (ty := .int) (C := RX9) (T := TX9) (N := 32) hx hb hts iw_9 tyX9 tyX9_ok nmX9 hown hK hP hD hS 0 rfl rfl 17 (by decide) (hts (.fieldLink RX9 159 "DepositCodesModel" "reason" "I") (by decide +kernel)) (fun _ h9 => h9) rfl (by decide +kernel) rfl rfl (Nat.le_of_ble_eq_true rfl) dX9_give_49 (fun H locs hP hD hS => ?_)
        have hP : va_P D vwCl [(w0, .inr (9, [.ref a1, .ref a2, .int (nI rdn), .int ((FX9_reasonFor rmn rpn rse rfu rda rle rmo rsn rpa rco k v sh w).2), .int (nI rmn), .ref a3, .ref a4, .ref a5, .ref a6, .ref a7, .ref a8, .ref a9, .ref a10, .ref a11, .ref a12, .ref a13, .int (nI rpn), .int ((FX9_reasonFor rmn rpn rse rfu rda rle rmo rsn rpa rco k v sh w).1), .ref a14, .ref a15, .int (nI rrn), .ref a16, .int (nI rfn), .ref a17, .ref a18, .ref a19, .int (nI rkn), .ref a20, .ref a21, .int (nI rcn), .ref a22, .ref a23])), (a3, .inl (cI, 6, .inl rse)), (a4, .inl (cZ, 6, .inl rfu)), (a5, .inl (cZ, 6, .inl rda)), (a6, .inl (cI, 8, .inl rle)), (a7, .inl (cI, 8, .inl rmo)), (a8, .inl (cJ, 200, .inr (.inl rsn))), (a9, .inl (cI, 200, .inl rpa)), (a10, .inl (cI, 200, .inl rsh)), (a11, .inl (cJ, 200, .inr (.inl rmt))), (a12, .inl (cZ, 200, .inl rco)), (a13, .inl (cZ, 200, .inl rpr)), (a14, .inl (cJ, 1100, .inr (.inl rrf))), (a15, .inl (cI, 1100, .inl rof)), (a16, .inl (cI, 1100, .inl rfr))] H := hP
        have hD : va_D A [(w0, .inr (9, [.ref a1, .ref a2, .int (nI rdn), .int ((FX9_reasonFor rmn rpn rse rfu rda rle rmo rsn rpa rco k v sh w).2), .int (nI rmn), .ref a3, .ref a4, .ref a5, .ref a6, .ref a7, .ref a8, .ref a9, .ref a10, .ref a11, .ref a12, .ref a13, .int (nI rpn), .int ((FX9_reasonFor rmn rpn rse rfu rda rle rmo rsn rpa rco k v sh w).1), .ref a14, .ref a15, .int (nI rrn), .ref a16, .int (nI rfn), .ref a17, .ref a18, .ref a19, .int (nI rkn), .ref a20, .ref a21, .int (nI rcn), .ref a22, .ref a23])), (a3, .inl (cI, 6, .inl rse)), (a4, .inl (cZ, 6, .inl rfu)), (a5, .inl (cZ, 6, .inl rda)), (a6, .inl (cI, 8, .inl rle)), (a7, .inl (cI, 8, .inl rmo)), (a8, .inl (cJ, 200, .inr (.inl rsn))), (a9, .inl (cI, 200, .inl rpa)), (a10, .inl (cI, 200, .inl rsh)), (a11, .inl (cJ, 200, .inr (.inl rmt))), (a12, .inl (cZ, 200, .inl rco)), (a13, .inl (cZ, 200, .inl rpr)), (a14, .inl (cJ, 1100, .inr (.inl rrf))), (a15, .inl (cI, 1100, .inl rof)), (a16, .inl (cI, 1100, .inl rfr))] := hD
        refine lv_aload_n hx hb dX9_give_52 rfl (lv_at hl 0 rfl) ?_
        refine va_get (D := D) (ci := 9) (v := .int ((FX9_reasonFor rmn rpn rse rfu rda rle rmo rsn rpa rco k v sh w).1)) (C := RX9) (T := TX9) (N := 32) hx hb hts iw_9 hown hK hP 0 rfl rfl 17 (by decide) (hts (.fieldLink RX9 159 "DepositCodesModel" "reason" "I") (by decide +kernel)) (fun _ h9 => h9) rfl dX9_give_53 ?_
        refine lv_bipush (v := 7) hx hb dX9_give_56 (by decide) ?_
        refine lv_icmp_ne (tgt := 67) hx hb dX9_give_58 (by decide) (fun c_4 => ?_) (fun c_4 => ?_)
        · rw [if_neg c_4] at hE
          refine lv_aload_n hx hb dX9_give_67 rfl (lv_at hl 0 rfl) ?_
          refine va_get (D := D) (ci := 9) (v := .int ((FX9_reasonFor rmn rpn rse rfu rda rle rmo rsn rpa rco k v sh w).1)) (C := RX9) (T := TX9) (N := 32) hx hb hts iw_9 hown hK hP 0 rfl rfl 17 (by decide) (hts (.fieldLink RX9 159 "DepositCodesModel" "reason" "I") (by decide +kernel)) (fun _ h9 => h9) rfl dX9_give_68 ?_
          refine lv_if_le (tgt := 76) hx hb dX9_give_71 (by decide) (fun c_5 => ?_) (fun c_5 => ?_)
          · rw [if_pos c_5] at hE
            refine lv_aload_n hx hb dX9_give_76 rfl (lv_at hl 0 rfl) ?_
            refine va_get (D := D) (ci := 9) (v := .ref a8) (C := RX9) (T := TX9) (N := 32) hx hb hts iw_9 hown hK hP 0 rfl rfl 10 (by decide) (hts (.fieldLink RX9 32 "DepositCodesModel" "serials" "[J") (by decide +kernel)) (fun _ h9 => h9) rfl dX9_give_77 ?_
            refine lv_aload_n hx hb dX9_give_80 rfl (lv_at hl 0 rfl) ?_
            refine va_get (D := D) (ci := 9) (v := .int (nI rpn)) (C := RX9) (T := TX9) (N := 32) hx hb hts iw_9 hown hK hP 0 rfl rfl 16 (by decide) (hts (.fieldLink RX9 140 "DepositCodesModel" "paid" "I") (by decide +kernel)) (fun _ h9 => h9) rfl dX9_give_81 ?_
            refine lv_lload_n hx hb dX9_give_84 rfl (lv_at hl 2 rfl) ?_
            refine na_last hx hb hK hP hD hS 6 1 rfl rfl (by omega) (by decide) dX9_give_85 (fun H locs hP hD hS => ?_)
            have hP : va_P D vwCl [(w0, .inr (9, [.ref a1, .ref a2, .int (nI rdn), .int ((FX9_reasonFor rmn rpn rse rfu rda rle rmo rsn rpa rco k v sh w).2), .int (nI rmn), .ref a3, .ref a4, .ref a5, .ref a6, .ref a7, .ref a8, .ref a9, .ref a10, .ref a11, .ref a12, .ref a13, .int (nI rpn), .int ((FX9_reasonFor rmn rpn rse rfu rda rle rmo rsn rpa rco k v sh w).1), .ref a14, .ref a15, .int (nI rrn), .ref a16, .int (nI rfn), .ref a17, .ref a18, .ref a19, .int (nI rkn), .ref a20, .ref a21, .int (nI rcn), .ref a22, .ref a23])), (a3, .inl (cI, 6, .inl rse)), (a4, .inl (cZ, 6, .inl rfu)), (a5, .inl (cZ, 6, .inl rda)), (a6, .inl (cI, 8, .inl rle)), (a7, .inl (cI, 8, .inl rmo)), (a8, .inl (cJ, 200, .inr (.inl (vp_updL rsn rpn v)))), (a9, .inl (cI, 200, .inl rpa)), (a10, .inl (cI, 200, .inl rsh)), (a11, .inl (cJ, 200, .inr (.inl rmt))), (a12, .inl (cZ, 200, .inl rco)), (a13, .inl (cZ, 200, .inl rpr)), (a14, .inl (cJ, 1100, .inr (.inl rrf))), (a15, .inl (cI, 1100, .inl rof)), (a16, .inl (cI, 1100, .inl rfr))] H := hP
            have hD : va_D A [(w0, .inr (9, [.ref a1, .ref a2, .int (nI rdn), .int ((FX9_reasonFor rmn rpn rse rfu rda rle rmo rsn rpa rco k v sh w).2), .int (nI rmn), .ref a3, .ref a4, .ref a5, .ref a6, .ref a7, .ref a8, .ref a9, .ref a10, .ref a11, .ref a12, .ref a13, .int (nI rpn), .int ((FX9_reasonFor rmn rpn rse rfu rda rle rmo rsn rpa rco k v sh w).1), .ref a14, .ref a15, .int (nI rrn), .ref a16, .int (nI rfn), .ref a17, .ref a18, .ref a19, .int (nI rkn), .ref a20, .ref a21, .int (nI rcn), .ref a22, .ref a23])), (a3, .inl (cI, 6, .inl rse)), (a4, .inl (cZ, 6, .inl rfu)), (a5, .inl (cZ, 6, .inl rda)), (a6, .inl (cI, 8, .inl rle)), (a7, .inl (cI, 8, .inl rmo)), (a8, .inl (cJ, 200, .inr (.inl (vp_updL rsn rpn v)))), (a9, .inl (cI, 200, .inl rpa)), (a10, .inl (cI, 200, .inl rsh)), (a11, .inl (cJ, 200, .inr (.inl rmt))), (a12, .inl (cZ, 200, .inl rco)), (a13, .inl (cZ, 200, .inl rpr)), (a14, .inl (cJ, 1100, .inr (.inl rrf))), (a15, .inl (cI, 1100, .inl rof)), (a16, .inl (cI, 1100, .inl rfr))] := hD
            refine lv_aload_n hx hb dX9_give_86 rfl (lv_at hl 0 rfl) ?_
            refine va_get (D := D) (ci := 9) (v := .ref a9) (C := RX9) (T := TX9) (N := 32) hx hb hts iw_9 hown hK hP 0 rfl rfl 11 (by decide) (hts (.fieldLink RX9 36 "DepositCodesModel" "payers" "[I") (by decide +kernel)) (fun _ h9 => h9) rfl dX9_give_87 ?_
            refine lv_aload_n hx hb dX9_give_90 rfl (lv_at hl 0 rfl) ?_
            refine va_get (D := D) (ci := 9) (v := .int (nI rpn)) (C := RX9) (T := TX9) (N := 32) hx hb hts iw_9 hown hK hP 0 rfl rfl 16 (by decide) (hts (.fieldLink RX9 140 "DepositCodesModel" "paid" "I") (by decide +kernel)) (fun _ h9 => h9) rfl dX9_give_91 ?_
            refine lv_iload_n hx hb dX9_give_94 rfl (lv_at hl 1 rfl) ?_
            refine na_iast hx hb hK hP hD hS 7 0 rfl rfl (by omega) (by decide) dX9_give_95 (fun H locs hP hD hS => ?_)
            have hP : va_P D vwCl [(w0, .inr (9, [.ref a1, .ref a2, .int (nI rdn), .int ((FX9_reasonFor rmn rpn rse rfu rda rle rmo rsn rpa rco k v sh w).2), .int (nI rmn), .ref a3, .ref a4, .ref a5, .ref a6, .ref a7, .ref a8, .ref a9, .ref a10, .ref a11, .ref a12, .ref a13, .int (nI rpn), .int ((FX9_reasonFor rmn rpn rse rfu rda rle rmo rsn rpa rco k v sh w).1), .ref a14, .ref a15, .int (nI rrn), .ref a16, .int (nI rfn), .ref a17, .ref a18, .ref a19, .int (nI rkn), .ref a20, .ref a21, .int (nI rcn), .ref a22, .ref a23])), (a3, .inl (cI, 6, .inl rse)), (a4, .inl (cZ, 6, .inl rfu)), (a5, .inl (cZ, 6, .inl rda)), (a6, .inl (cI, 8, .inl rle)), (a7, .inl (cI, 8, .inl rmo)), (a8, .inl (cJ, 200, .inr (.inl (vp_updL rsn rpn v)))), (a9, .inl (cI, 200, .inl (upd rpa rpn k))), (a10, .inl (cI, 200, .inl rsh)), (a11, .inl (cJ, 200, .inr (.inl rmt))), (a12, .inl (cZ, 200, .inl rco)), (a13, .inl (cZ, 200, .inl rpr)), (a14, .inl (cJ, 1100, .inr (.inl rrf))), (a15, .inl (cI, 1100, .inl rof)), (a16, .inl (cI, 1100, .inl rfr))] H := hP
            have hD : va_D A [(w0, .inr (9, [.ref a1, .ref a2, .int (nI rdn), .int ((FX9_reasonFor rmn rpn rse rfu rda rle rmo rsn rpa rco k v sh w).2), .int (nI rmn), .ref a3, .ref a4, .ref a5, .ref a6, .ref a7, .ref a8, .ref a9, .ref a10, .ref a11, .ref a12, .ref a13, .int (nI rpn), .int ((FX9_reasonFor rmn rpn rse rfu rda rle rmo rsn rpa rco k v sh w).1), .ref a14, .ref a15, .int (nI rrn), .ref a16, .int (nI rfn), .ref a17, .ref a18, .ref a19, .int (nI rkn), .ref a20, .ref a21, .int (nI rcn), .ref a22, .ref a23])), (a3, .inl (cI, 6, .inl rse)), (a4, .inl (cZ, 6, .inl rfu)), (a5, .inl (cZ, 6, .inl rda)), (a6, .inl (cI, 8, .inl rle)), (a7, .inl (cI, 8, .inl rmo)), (a8, .inl (cJ, 200, .inr (.inl (vp_updL rsn rpn v)))), (a9, .inl (cI, 200, .inl (upd rpa rpn k))), (a10, .inl (cI, 200, .inl rsh)), (a11, .inl (cJ, 200, .inr (.inl rmt))), (a12, .inl (cZ, 200, .inl rco)), (a13, .inl (cZ, 200, .inl rpr)), (a14, .inl (cJ, 1100, .inr (.inl rrf))), (a15, .inl (cI, 1100, .inl rof)), (a16, .inl (cI, 1100, .inl rfr))] := hD
            refine lv_aload_n hx hb dX9_give_96 rfl (lv_at hl 0 rfl) ?_
            refine va_get (D := D) (ci := 9) (v := .ref a10) (C := RX9) (T := TX9) (N := 32) hx hb hts iw_9 hown hK hP 0 rfl rfl 12 (by decide) (hts (.fieldLink RX9 39 "DepositCodesModel" "shapes" "[I") (by decide +kernel)) (fun _ h9 => h9) rfl dX9_give_97 ?_
            refine lv_aload_n hx hb dX9_give_100 rfl (lv_at hl 0 rfl) ?_
            refine va_get (D := D) (ci := 9) (v := .int (nI rpn)) (C := RX9) (T := TX9) (N := 32) hx hb hts iw_9 hown hK hP 0 rfl rfl 16 (by decide) (hts (.fieldLink RX9 140 "DepositCodesModel" "paid" "I") (by decide +kernel)) (fun _ h9 => h9) rfl dX9_give_101 ?_
            refine lv_iload hx hb dX9_give_104 (lv_at hl 3 rfl) ?_
            refine na_iast hx hb hK hP hD hS 8 0 rfl rfl (by omega) (by decide) dX9_give_106 (fun H locs hP hD hS => ?_)
            have hP : va_P D vwCl [(w0, .inr (9, [.ref a1, .ref a2, .int (nI rdn), .int ((FX9_reasonFor rmn rpn rse rfu rda rle rmo rsn rpa rco k v sh w).2), .int (nI rmn), .ref a3, .ref a4, .ref a5, .ref a6, .ref a7, .ref a8, .ref a9, .ref a10, .ref a11, .ref a12, .ref a13, .int (nI rpn), .int ((FX9_reasonFor rmn rpn rse rfu rda rle rmo rsn rpa rco k v sh w).1), .ref a14, .ref a15, .int (nI rrn), .ref a16, .int (nI rfn), .ref a17, .ref a18, .ref a19, .int (nI rkn), .ref a20, .ref a21, .int (nI rcn), .ref a22, .ref a23])), (a3, .inl (cI, 6, .inl rse)), (a4, .inl (cZ, 6, .inl rfu)), (a5, .inl (cZ, 6, .inl rda)), (a6, .inl (cI, 8, .inl rle)), (a7, .inl (cI, 8, .inl rmo)), (a8, .inl (cJ, 200, .inr (.inl (vp_updL rsn rpn v)))), (a9, .inl (cI, 200, .inl (upd rpa rpn k))), (a10, .inl (cI, 200, .inl (upd rsh rpn sh))), (a11, .inl (cJ, 200, .inr (.inl rmt))), (a12, .inl (cZ, 200, .inl rco)), (a13, .inl (cZ, 200, .inl rpr)), (a14, .inl (cJ, 1100, .inr (.inl rrf))), (a15, .inl (cI, 1100, .inl rof)), (a16, .inl (cI, 1100, .inl rfr))] H := hP
            have hD : va_D A [(w0, .inr (9, [.ref a1, .ref a2, .int (nI rdn), .int ((FX9_reasonFor rmn rpn rse rfu rda rle rmo rsn rpa rco k v sh w).2), .int (nI rmn), .ref a3, .ref a4, .ref a5, .ref a6, .ref a7, .ref a8, .ref a9, .ref a10, .ref a11, .ref a12, .ref a13, .int (nI rpn), .int ((FX9_reasonFor rmn rpn rse rfu rda rle rmo rsn rpa rco k v sh w).1), .ref a14, .ref a15, .int (nI rrn), .ref a16, .int (nI rfn), .ref a17, .ref a18, .ref a19, .int (nI rkn), .ref a20, .ref a21, .int (nI rcn), .ref a22, .ref a23])), (a3, .inl (cI, 6, .inl rse)), (a4, .inl (cZ, 6, .inl rfu)), (a5, .inl (cZ, 6, .inl rda)), (a6, .inl (cI, 8, .inl rle)), (a7, .inl (cI, 8, .inl rmo)), (a8, .inl (cJ, 200, .inr (.inl (vp_updL rsn rpn v)))), (a9, .inl (cI, 200, .inl (upd rpa rpn k))), (a10, .inl (cI, 200, .inl (upd rsh rpn sh))), (a11, .inl (cJ, 200, .inr (.inl rmt))), (a12, .inl (cZ, 200, .inl rco)), (a13, .inl (cZ, 200, .inl rpr)), (a14, .inl (cJ, 1100, .inr (.inl rrf))), (a15, .inl (cI, 1100, .inl rof)), (a16, .inl (cI, 1100, .inl rfr))] := hD
            refine lv_aload_n hx hb dX9_give_107 rfl (lv_at hl 0 rfl) ?_
            refine va_get (D := D) (ci := 9) (v := .ref a11) (C := RX9) (T := TX9) (N := 32) hx hb hts iw_9 hown hK hP 0 rfl rfl 13 (by decide) (hts (.fieldLink RX9 42 "DepositCodesModel" "months" "[J") (by decide +kernel)) (fun _ h9 => h9) rfl dX9_give_108 ?_
            refine lv_aload_n hx hb dX9_give_111 rfl (lv_at hl 0 rfl) ?_
            refine va_get (D := D) (ci := 9) (v := .int (nI rpn)) (C := RX9) (T := TX9) (N := 32) hx hb hts iw_9 hown hK hP 0 rfl rfl 16 (by decide) (hts (.fieldLink RX9 140 "DepositCodesModel" "paid" "I") (by decide +kernel)) (fun _ h9 => h9) rfl dX9_give_112 ?_
            refine lv_lload hx hb dX9_give_115 (lv_at hl 5 rfl) ?_
            refine lv_ldc2 hx hb hown (hts (.constantLong RX9 166 2592000) (by decide +kernel)) dX9_give_117 ?_
            refine lv_ldiv hx hb dX9_give_120 (by decide) ?_
            refine na_last hx hb hK hP hD hS 9 1 rfl rfl (by omega) (by decide) dX9_give_121 (fun H locs hP hD hS => ?_)
            have hP : va_P D vwCl [(w0, .inr (9, [.ref a1, .ref a2, .int (nI rdn), .int ((FX9_reasonFor rmn rpn rse rfu rda rle rmo rsn rpa rco k v sh w).2), .int (nI rmn), .ref a3, .ref a4, .ref a5, .ref a6, .ref a7, .ref a8, .ref a9, .ref a10, .ref a11, .ref a12, .ref a13, .int (nI rpn), .int ((FX9_reasonFor rmn rpn rse rfu rda rle rmo rsn rpa rco k v sh w).1), .ref a14, .ref a15, .int (nI rrn), .ref a16, .int (nI rfn), .ref a17, .ref a18, .ref a19, .int (nI rkn), .ref a20, .ref a21, .int (nI rcn), .ref a22, .ref a23])), (a3, .inl (cI, 6, .inl rse)), (a4, .inl (cZ, 6, .inl rfu)), (a5, .inl (cZ, 6, .inl rda)), (a6, .inl (cI, 8, .inl rle)), (a7, .inl (cI, 8, .inl rmo)), (a8, .inl (cJ, 200, .inr (.inl (vp_updL rsn rpn v)))), (a9, .inl (cI, 200, .inl (upd rpa rpn k))), (a10, .inl (cI, 200, .inl (upd rsh rpn sh))), (a11, .inl (cJ, 200, .inr (.inl (vp_updL rmt rpn (sc / 2592000))))), (a12, .inl (cZ, 200, .inl rco)), (a13, .inl (cZ, 200, .inl rpr)), (a14, .inl (cJ, 1100, .inr (.inl rrf))), (a15, .inl (cI, 1100, .inl rof)), (a16, .inl (cI, 1100, .inl rfr))] H := hP
            have hD : va_D A [(w0, .inr (9, [.ref a1, .ref a2, .int (nI rdn), .int ((FX9_reasonFor rmn rpn rse rfu rda rle rmo rsn rpa rco k v sh w).2), .int (nI rmn), .ref a3, .ref a4, .ref a5, .ref a6, .ref a7, .ref a8, .ref a9, .ref a10, .ref a11, .ref a12, .ref a13, .int (nI rpn), .int ((FX9_reasonFor rmn rpn rse rfu rda rle rmo rsn rpa rco k v sh w).1), .ref a14, .ref a15, .int (nI rrn), .ref a16, .int (nI rfn), .ref a17, .ref a18, .ref a19, .int (nI rkn), .ref a20, .ref a21, .int (nI rcn), .ref a22, .ref a23])), (a3, .inl (cI, 6, .inl rse)), (a4, .inl (cZ, 6, .inl rfu)), (a5, .inl (cZ, 6, .inl rda)), (a6, .inl (cI, 8, .inl rle)), (a7, .inl (cI, 8, .inl rmo)), (a8, .inl (cJ, 200, .inr (.inl (vp_updL rsn rpn v)))), (a9, .inl (cI, 200, .inl (upd rpa rpn k))), (a10, .inl (cI, 200, .inl (upd rsh rpn sh))), (a11, .inl (cJ, 200, .inr (.inl (vp_updL rmt rpn (sc / 2592000))))), (a12, .inl (cZ, 200, .inl rco)), (a13, .inl (cZ, 200, .inl rpr)), (a14, .inl (cJ, 1100, .inr (.inl rrf))), (a15, .inl (cI, 1100, .inl rof)), (a16, .inl (cI, 1100, .inl rfr))] := hD
            refine lv_aload_n hx hb dX9_give_122 rfl (lv_at hl 0 rfl) ?_
            refine va_get (D := D) (ci := 9) (v := .ref a12) (C := RX9) (T := TX9) (N := 32) hx hb hts iw_9 hown hK hP 0 rfl rfl 14 (by decide) (hts (.fieldLink RX9 45 "DepositCodesModel" "counts" "[Z") (by decide +kernel)) (fun _ h9 => h9) rfl dX9_give_123 ?_
            refine lv_aload_n hx hb dX9_give_126 rfl (lv_at hl 0 rfl) ?_
            refine va_get (D := D) (ci := 9) (v := .int (nI rpn)) (C := RX9) (T := TX9) (N := 32) hx hb hts iw_9 hown hK hP 0 rfl rfl 16 (by decide) (hts (.fieldLink RX9 140 "DepositCodesModel" "paid" "I") (by decide +kernel)) (fun _ h9 => h9) rfl dX9_give_127 ?_
            refine lv_iconst (v := 1) hx hb dX9_give_130 (by decide) ?_
            refine na_zast hx hb hK hP hD hS 10 2 rfl rfl (by omega) (by decide) dX9_give_131 (fun H locs hP hD hS => ?_)
            have hP : va_P D vwCl [(w0, .inr (9, [.ref a1, .ref a2, .int (nI rdn), .int ((FX9_reasonFor rmn rpn rse rfu rda rle rmo rsn rpa rco k v sh w).2), .int (nI rmn), .ref a3, .ref a4, .ref a5, .ref a6, .ref a7, .ref a8, .ref a9, .ref a10, .ref a11, .ref a12, .ref a13, .int (nI rpn), .int ((FX9_reasonFor rmn rpn rse rfu rda rle rmo rsn rpa rco k v sh w).1), .ref a14, .ref a15, .int (nI rrn), .ref a16, .int (nI rfn), .ref a17, .ref a18, .ref a19, .int (nI rkn), .ref a20, .ref a21, .int (nI rcn), .ref a22, .ref a23])), (a3, .inl (cI, 6, .inl rse)), (a4, .inl (cZ, 6, .inl rfu)), (a5, .inl (cZ, 6, .inl rda)), (a6, .inl (cI, 8, .inl rle)), (a7, .inl (cI, 8, .inl rmo)), (a8, .inl (cJ, 200, .inr (.inl (vp_updL rsn rpn v)))), (a9, .inl (cI, 200, .inl (upd rpa rpn k))), (a10, .inl (cI, 200, .inl (upd rsh rpn sh))), (a11, .inl (cJ, 200, .inr (.inl (vp_updL rmt rpn (sc / 2592000))))), (a12, .inl (cZ, 200, .inl (upd rco rpn (vp_nar .boolean 1)))), (a13, .inl (cZ, 200, .inl rpr)), (a14, .inl (cJ, 1100, .inr (.inl rrf))), (a15, .inl (cI, 1100, .inl rof)), (a16, .inl (cI, 1100, .inl rfr))] H := hP
            have hD : va_D A [(w0, .inr (9, [.ref a1, .ref a2, .int (nI rdn), .int ((FX9_reasonFor rmn rpn rse rfu rda rle rmo rsn rpa rco k v sh w).2), .int (nI rmn), .ref a3, .ref a4, .ref a5, .ref a6, .ref a7, .ref a8, .ref a9, .ref a10, .ref a11, .ref a12, .ref a13, .int (nI rpn), .int ((FX9_reasonFor rmn rpn rse rfu rda rle rmo rsn rpa rco k v sh w).1), .ref a14, .ref a15, .int (nI rrn), .ref a16, .int (nI rfn), .ref a17, .ref a18, .ref a19, .int (nI rkn), .ref a20, .ref a21, .int (nI rcn), .ref a22, .ref a23])), (a3, .inl (cI, 6, .inl rse)), (a4, .inl (cZ, 6, .inl rfu)), (a5, .inl (cZ, 6, .inl rda)), (a6, .inl (cI, 8, .inl rle)), (a7, .inl (cI, 8, .inl rmo)), (a8, .inl (cJ, 200, .inr (.inl (vp_updL rsn rpn v)))), (a9, .inl (cI, 200, .inl (upd rpa rpn k))), (a10, .inl (cI, 200, .inl (upd rsh rpn sh))), (a11, .inl (cJ, 200, .inr (.inl (vp_updL rmt rpn (sc / 2592000))))), (a12, .inl (cZ, 200, .inl (upd rco rpn (vp_nar .boolean 1)))), (a13, .inl (cZ, 200, .inl rpr)), (a14, .inl (cJ, 1100, .inr (.inl rrf))), (a15, .inl (cI, 1100, .inl rof)), (a16, .inl (cI, 1100, .inl rfr))] := hD
            refine lv_aload_n hx hb dX9_give_132 rfl (lv_at hl 0 rfl) ?_
            refine va_get (D := D) (ci := 9) (v := .ref a13) (C := RX9) (T := TX9) (N := 32) hx hb hts iw_9 hown hK hP 0 rfl rfl 15 (by decide) (hts (.fieldLink RX9 48 "DepositCodesModel" "printed" "[Z") (by decide +kernel)) (fun _ h9 => h9) rfl dX9_give_133 ?_
            refine lv_aload_n hx hb dX9_give_136 rfl (lv_at hl 0 rfl) ?_
            refine va_get (D := D) (ci := 9) (v := .int (nI rpn)) (C := RX9) (T := TX9) (N := 32) hx hb hts iw_9 hown hK hP 0 rfl rfl 16 (by decide) (hts (.fieldLink RX9 140 "DepositCodesModel" "paid" "I") (by decide +kernel)) (fun _ h9 => h9) rfl dX9_give_137 ?_
            refine lv_iconst (v := 0) hx hb dX9_give_140 (by decide) ?_
            refine na_zast hx hb hK hP hD hS 11 2 rfl rfl (by omega) (by decide) dX9_give_141 (fun H locs hP hD hS => ?_)
            have hP : va_P D vwCl [(w0, .inr (9, [.ref a1, .ref a2, .int (nI rdn), .int ((FX9_reasonFor rmn rpn rse rfu rda rle rmo rsn rpa rco k v sh w).2), .int (nI rmn), .ref a3, .ref a4, .ref a5, .ref a6, .ref a7, .ref a8, .ref a9, .ref a10, .ref a11, .ref a12, .ref a13, .int (nI rpn), .int ((FX9_reasonFor rmn rpn rse rfu rda rle rmo rsn rpa rco k v sh w).1), .ref a14, .ref a15, .int (nI rrn), .ref a16, .int (nI rfn), .ref a17, .ref a18, .ref a19, .int (nI rkn), .ref a20, .ref a21, .int (nI rcn), .ref a22, .ref a23])), (a3, .inl (cI, 6, .inl rse)), (a4, .inl (cZ, 6, .inl rfu)), (a5, .inl (cZ, 6, .inl rda)), (a6, .inl (cI, 8, .inl rle)), (a7, .inl (cI, 8, .inl rmo)), (a8, .inl (cJ, 200, .inr (.inl (vp_updL rsn rpn v)))), (a9, .inl (cI, 200, .inl (upd rpa rpn k))), (a10, .inl (cI, 200, .inl (upd rsh rpn sh))), (a11, .inl (cJ, 200, .inr (.inl (vp_updL rmt rpn (sc / 2592000))))), (a12, .inl (cZ, 200, .inl (upd rco rpn (vp_nar .boolean 1)))), (a13, .inl (cZ, 200, .inl (upd rpr rpn (vp_nar .boolean 0)))), (a14, .inl (cJ, 1100, .inr (.inl rrf))), (a15, .inl (cI, 1100, .inl rof)), (a16, .inl (cI, 1100, .inl rfr))] H := hP
            have hD : va_D A [(w0, .inr (9, [.ref a1, .ref a2, .int (nI rdn), .int ((FX9_reasonFor rmn rpn rse rfu rda rle rmo rsn rpa rco k v sh w).2), .int (nI rmn), .ref a3, .ref a4, .ref a5, .ref a6, .ref a7, .ref a8, .ref a9, .ref a10, .ref a11, .ref a12, .ref a13, .int (nI rpn), .int ((FX9_reasonFor rmn rpn rse rfu rda rle rmo rsn rpa rco k v sh w).1), .ref a14, .ref a15, .int (nI rrn), .ref a16, .int (nI rfn), .ref a17, .ref a18, .ref a19, .int (nI rkn), .ref a20, .ref a21, .int (nI rcn), .ref a22, .ref a23])), (a3, .inl (cI, 6, .inl rse)), (a4, .inl (cZ, 6, .inl rfu)), (a5, .inl (cZ, 6, .inl rda)), (a6, .inl (cI, 8, .inl rle)), (a7, .inl (cI, 8, .inl rmo)), (a8, .inl (cJ, 200, .inr (.inl (vp_updL rsn rpn v)))), (a9, .inl (cI, 200, .inl (upd rpa rpn k))), (a10, .inl (cI, 200, .inl (upd rsh rpn sh))), (a11, .inl (cJ, 200, .inr (.inl (vp_updL rmt rpn (sc / 2592000))))), (a12, .inl (cZ, 200, .inl (upd rco rpn (vp_nar .boolean 1)))), (a13, .inl (cZ, 200, .inl (upd rpr rpn (vp_nar .boolean 0)))), (a14, .inl (cJ, 1100, .inr (.inl rrf))), (a15, .inl (cI, 1100, .inl rof)), (a16, .inl (cI, 1100, .inl rfr))] := hD
            refine lv_aload_n hx hb dX9_give_142 rfl (lv_at hl 0 rfl) ?_
            refine lv_dup hx hb dX9_give_143 rfl ?_
            refine va_get (D := D) (ci := 9) (v := .int (nI rpn)) (C := RX9) (T := TX9) (N := 32) hx hb hts iw_9 hown hK hP 0 rfl rfl 16 (by decide) (hts (.fieldLink RX9 140 "DepositCodesModel" "paid" "I") (by decide +kernel)) (fun _ h9 => h9) rfl dX9_give_144 ?_
            refine lv_iconst (v := 1) hx hb dX9_give_147 (by decide) ?_
            refine lv_iadd hx hb dX9_give_148 ?_
            refine na_top (show (nI rpn) + 1 = nI (rpn + 1) from nI_add rpn 1) ?_
            refine va_put (D := D) (ci := 9) (v := .int (nI (rpn + 1))) (ty := .int) (C := RX9) (T := TX9) (N := 32) hx hb hts iw_9 tyX9 tyX9_ok nmX9 hown hK hP hD hS 0 rfl rfl 16 (by decide) (hts (.fieldLink RX9 140 "DepositCodesModel" "paid" "I") (by decide +kernel)) (fun _ h9 => h9) rfl (by decide +kernel) rfl rfl (Nat.le_of_ble_eq_true rfl) dX9_give_149 (fun H locs hP hD hS => ?_)
            have hP : va_P D vwCl [(w0, .inr (9, [.ref a1, .ref a2, .int (nI rdn), .int ((FX9_reasonFor rmn rpn rse rfu rda rle rmo rsn rpa rco k v sh w).2), .int (nI rmn), .ref a3, .ref a4, .ref a5, .ref a6, .ref a7, .ref a8, .ref a9, .ref a10, .ref a11, .ref a12, .ref a13, .int (nI (rpn + 1)), .int ((FX9_reasonFor rmn rpn rse rfu rda rle rmo rsn rpa rco k v sh w).1), .ref a14, .ref a15, .int (nI rrn), .ref a16, .int (nI rfn), .ref a17, .ref a18, .ref a19, .int (nI rkn), .ref a20, .ref a21, .int (nI rcn), .ref a22, .ref a23])), (a3, .inl (cI, 6, .inl rse)), (a4, .inl (cZ, 6, .inl rfu)), (a5, .inl (cZ, 6, .inl rda)), (a6, .inl (cI, 8, .inl rle)), (a7, .inl (cI, 8, .inl rmo)), (a8, .inl (cJ, 200, .inr (.inl (vp_updL rsn rpn v)))), (a9, .inl (cI, 200, .inl (upd rpa rpn k))), (a10, .inl (cI, 200, .inl (upd rsh rpn sh))), (a11, .inl (cJ, 200, .inr (.inl (vp_updL rmt rpn (sc / 2592000))))), (a12, .inl (cZ, 200, .inl (upd rco rpn (vp_nar .boolean 1)))), (a13, .inl (cZ, 200, .inl (upd rpr rpn (vp_nar .boolean 0)))), (a14, .inl (cJ, 1100, .inr (.inl rrf))), (a15, .inl (cI, 1100, .inl rof)), (a16, .inl (cI, 1100, .inl rfr))] H := hP
            have hD : va_D A [(w0, .inr (9, [.ref a1, .ref a2, .int (nI rdn), .int ((FX9_reasonFor rmn rpn rse rfu rda rle rmo rsn rpa rco k v sh w).2), .int (nI rmn), .ref a3, .ref a4, .ref a5, .ref a6, .ref a7, .ref a8, .ref a9, .ref a10, .ref a11, .ref a12, .ref a13, .int (nI (rpn + 1)), .int ((FX9_reasonFor rmn rpn rse rfu rda rle rmo rsn rpa rco k v sh w).1), .ref a14, .ref a15, .int (nI rrn), .ref a16, .int (nI rfn), .ref a17, .ref a18, .ref a19, .int (nI rkn), .ref a20, .ref a21, .int (nI rcn), .ref a22, .ref a23])), (a3, .inl (cI, 6, .inl rse)), (a4, .inl (cZ, 6, .inl rfu)), (a5, .inl (cZ, 6, .inl rda)), (a6, .inl (cI, 8, .inl rle)), (a7, .inl (cI, 8, .inl rmo)), (a8, .inl (cJ, 200, .inr (.inl (vp_updL rsn rpn v)))), (a9, .inl (cI, 200, .inl (upd rpa rpn k))), (a10, .inl (cI, 200, .inl (upd rsh rpn sh))), (a11, .inl (cJ, 200, .inr (.inl (vp_updL rmt rpn (sc / 2592000))))), (a12, .inl (cZ, 200, .inl (upd rco rpn (vp_nar .boolean 1)))), (a13, .inl (cZ, 200, .inl (upd rpr rpn (vp_nar .boolean 0)))), (a14, .inl (cJ, 1100, .inr (.inl rrf))), (a15, .inl (cI, 1100, .inl rof)), (a16, .inl (cI, 1100, .inl rfr))] := hD
            refine lv_iconst (v := 1) hx hb dX9_give_152 (by decide) ?_
            subst hE
            exact W.iret hx hb hr (fun t ht hW => ⟨rfl, by rw [ht]; exact hP, hD, hS.F ht⟩) hS.2.2 dX9_give_153
          · rw [if_neg c_5] at hE
            refine lv_iconst (v := 0) hx hb dX9_give_74 (by decide) ?_
            subst hE
            exact W.iret hx hb hr (fun t ht hW => ⟨rfl, by rw [ht]; exact hP, hD, hS.F ht⟩) hS.2.2 dX9_give_75
        · rw [if_pos c_4] at hE
          refine lv_aload_n hx hb dX9_give_61 rfl (lv_at hl 0 rfl) ?_
          refine lv_iload_n hx hb dX9_give_62 rfl (lv_at hl 1 rfl) ?_
          refine lv_lload_n hx hb dX9_give_63 rfl (lv_at hl 2 rfl) ?_
          refine mt_call0 (wr := [(a3, .inl (cI, 6, .inl rse)), (a4, .inl (cZ, 6, .inl rfu)), (a5, .inl (cZ, 6, .inl rda)), (a6, .inl (cI, 8, .inl rle)), (a7, .inl (cI, 8, .inl rmo)), (a8, .inl (cJ, 200, .inr (.inl rsn))), (a9, .inl (cI, 200, .inl rpa)), (a10, .inl (cI, 200, .inl rsh)), (a11, .inl (cJ, 200, .inr (.inl rmt))), (a12, .inl (cZ, 200, .inl rco)), (a13, .inl (cZ, 200, .inl rpr))]) (ws' := [(w0, .inr (9, [.ref a1, .ref a2, .int (nI rdn), .int ((FX9_reasonFor rmn rpn rse rfu rda rle rmo rsn rpa rco k v sh w).2), .int (nI rmn), .ref a3, .ref a4, .ref a5, .ref a6, .ref a7, .ref a8, .ref a9, .ref a10, .ref a11, .ref a12, .ref a13, .int (nI rpn), .int ((FX9_reasonFor rmn rpn rse rfu rda rle rmo rsn rpa rco k v sh w).1), .ref a14, .ref a15, .int (nI ((FX9_refuse rrn rfn rrf rof rfr k v).2.2.1)), .ref a16, .int (nI ((FX9_refuse rrn rfn rrf rof rfr k v).2.2.2.2)), .ref a17, .ref a18, .ref a19, .int (nI rkn), .ref a20, .ref a21, .int (nI rcn), .ref a22, .ref a23])), (a3, .inl (cI, 6, .inl rse)), (a4, .inl (cZ, 6, .inl rfu)), (a5, .inl (cZ, 6, .inl rda)), (a6, .inl (cI, 8, .inl rle)), (a7, .inl (cI, 8, .inl rmo)), (a8, .inl (cJ, 200, .inr (.inl rsn))), (a9, .inl (cI, 200, .inl rpa)), (a10, .inl (cI, 200, .inl rsh)), (a11, .inl (cJ, 200, .inr (.inl rmt))), (a12, .inl (cZ, 200, .inl rco)), (a13, .inl (cZ, 200, .inl rpr)), (a14, .inl (cJ, 1100, .inr (.inl ((FX9_refuse rrn rfn rrf rof rfr k v).1)))), (a15, .inl (cI, 1100, .inl ((FX9_refuse rrn rfn rrf rof rfr k v).2.1))), (a16, .inl (cI, 1100, .inl ((FX9_refuse rrn rfn rrf rof rfr k v).2.2.2.1)))]) (st1 := []) (va_runV (As := [.int k, .long v]) (rest := []) ⟨hx, hb, hml, hown, hts⟩ (kX9_refuse l D cI cJ cZ w0 a1 a2 a3 a4 a5 a6 a7 a8 a9 a10 a11 a12 a13 a14 a15 a16 a17 a18 a19 a20 a21 a22 a23 rdn ((FX9_reasonFor rmn rpn rse rfu rda rle rmo rsn rpa rco k v sh w).2) rmn rpn ((FX9_reasonFor rmn rpn rse rfu rda rle rmo rsn rpa rco k v sh w).1) rrn rfn rkn rcn rrf rof rfr k v _ (by first | assumption | omega) (by first | assumption | omega)) (cwV 2 hts gX9_give_X9_refuse rfl rfl rfl (by decide +kernel) ⟨Nat.le_of_ble_eq_true rfl, Nat.le_of_ble_eq_true rfl⟩) ⟨mP_blind, va_recv hK hP (ci := 9) (q0 := 0) rfl rfl, mP_pre (hP.sub [0, 12, 13, 14] rfl) (hD.sub [0, 12, 13, 14] (by decide) rfl) hK hN⟩ rfl rfl hl.1 rfl (lv_room (Nat.le_of_ble_eq_true rfl)) dX9_give_64 ⟨Nat.zero_le _, Nat.zero_le _⟩) hP hD hS hA [0, 12, 13, 14] [1, 2, 3, 4, 5, 6, 7, 8, 9, 10, 11] [11, 0, 1, 2, 3, 4, 5, 6, 7, 8, 9, 10, 12, 13, 14] rfl rfl (by decide) (by decide) (by decide) rfl rfl (fun H locs hP hD hS => ?_)
          refine lv_aload_n hx hb dX9_give_67 rfl (lv_at hl 0 rfl) ?_
          refine va_get (D := D) (ci := 9) (v := .int ((FX9_reasonFor rmn rpn rse rfu rda rle rmo rsn rpa rco k v sh w).1)) (C := RX9) (T := TX9) (N := 32) hx hb hts iw_9 hown hK hP 0 rfl rfl 17 (by decide) (hts (.fieldLink RX9 159 "DepositCodesModel" "reason" "I") (by decide +kernel)) (fun _ h9 => h9) rfl dX9_give_68 ?_
          refine lv_if_le (tgt := 76) hx hb dX9_give_71 (by decide) (fun c_6 => ?_) (fun c_6 => ?_)
          · rw [if_pos c_6] at hE
            refine lv_aload_n hx hb dX9_give_76 rfl (lv_at hl 0 rfl) ?_
            refine va_get (D := D) (ci := 9) (v := .ref a8) (C := RX9) (T := TX9) (N := 32) hx hb hts iw_9 hown hK hP 0 rfl rfl 10 (by decide) (hts (.fieldLink RX9 32 "DepositCodesModel" "serials" "[J") (by decide +kernel)) (fun _ h9 => h9) rfl dX9_give_77 ?_
            refine lv_aload_n hx hb dX9_give_80 rfl (lv_at hl 0 rfl) ?_
            refine va_get (D := D) (ci := 9) (v := .int (nI rpn)) (C := RX9) (T := TX9) (N := 32) hx hb hts iw_9 hown hK hP 0 rfl rfl 16 (by decide) (hts (.fieldLink RX9 140 "DepositCodesModel" "paid" "I") (by decide +kernel)) (fun _ h9 => h9) rfl dX9_give_81 ?_
            refine lv_lload_n hx hb dX9_give_84 rfl (lv_at hl 2 rfl) ?_
            refine na_last hx hb hK hP hD hS 6 1 rfl rfl (by omega) (by decide) dX9_give_85 (fun H locs hP hD hS => ?_)
            have hP : va_P D vwCl [(w0, .inr (9, [.ref a1, .ref a2, .int (nI rdn), .int ((FX9_reasonFor rmn rpn rse rfu rda rle rmo rsn rpa rco k v sh w).2), .int (nI rmn), .ref a3, .ref a4, .ref a5, .ref a6, .ref a7, .ref a8, .ref a9, .ref a10, .ref a11, .ref a12, .ref a13, .int (nI rpn), .int ((FX9_reasonFor rmn rpn rse rfu rda rle rmo rsn rpa rco k v sh w).1), .ref a14, .ref a15, .int (nI ((FX9_refuse rrn rfn rrf rof rfr k v).2.2.1)), .ref a16, .int (nI ((FX9_refuse rrn rfn rrf rof rfr k v).2.2.2.2)), .ref a17, .ref a18, .ref a19, .int (nI rkn), .ref a20, .ref a21, .int (nI rcn), .ref a22, .ref a23])), (a3, .inl (cI, 6, .inl rse)), (a4, .inl (cZ, 6, .inl rfu)), (a5, .inl (cZ, 6, .inl rda)), (a6, .inl (cI, 8, .inl rle)), (a7, .inl (cI, 8, .inl rmo)), (a8, .inl (cJ, 200, .inr (.inl (vp_updL rsn rpn v)))), (a9, .inl (cI, 200, .inl rpa)), (a10, .inl (cI, 200, .inl rsh)), (a11, .inl (cJ, 200, .inr (.inl rmt))), (a12, .inl (cZ, 200, .inl rco)), (a13, .inl (cZ, 200, .inl rpr)), (a14, .inl (cJ, 1100, .inr (.inl ((FX9_refuse rrn rfn rrf rof rfr k v).1)))), (a15, .inl (cI, 1100, .inl ((FX9_refuse rrn rfn rrf rof rfr k v).2.1))), (a16, .inl (cI, 1100, .inl ((FX9_refuse rrn rfn rrf rof rfr k v).2.2.2.1)))] H := hP
            have hD : va_D A [(w0, .inr (9, [.ref a1, .ref a2, .int (nI rdn), .int ((FX9_reasonFor rmn rpn rse rfu rda rle rmo rsn rpa rco k v sh w).2), .int (nI rmn), .ref a3, .ref a4, .ref a5, .ref a6, .ref a7, .ref a8, .ref a9, .ref a10, .ref a11, .ref a12, .ref a13, .int (nI rpn), .int ((FX9_reasonFor rmn rpn rse rfu rda rle rmo rsn rpa rco k v sh w).1), .ref a14, .ref a15, .int (nI ((FX9_refuse rrn rfn rrf rof rfr k v).2.2.1)), .ref a16, .int (nI ((FX9_refuse rrn rfn rrf rof rfr k v).2.2.2.2)), .ref a17, .ref a18, .ref a19, .int (nI rkn), .ref a20, .ref a21, .int (nI rcn), .ref a22, .ref a23])), (a3, .inl (cI, 6, .inl rse)), (a4, .inl (cZ, 6, .inl rfu)), (a5, .inl (cZ, 6, .inl rda)), (a6, .inl (cI, 8, .inl rle)), (a7, .inl (cI, 8, .inl rmo)), (a8, .inl (cJ, 200, .inr (.inl (vp_updL rsn rpn v)))), (a9, .inl (cI, 200, .inl rpa)), (a10, .inl (cI, 200, .inl rsh)), (a11, .inl (cJ, 200, .inr (.inl rmt))), (a12, .inl (cZ, 200, .inl rco)), (a13, .inl (cZ, 200, .inl rpr)), (a14, .inl (cJ, 1100, .inr (.inl ((FX9_refuse rrn rfn rrf rof rfr k v).1)))), (a15, .inl (cI, 1100, .inl ((FX9_refuse rrn rfn rrf rof rfr k v).2.1))), (a16, .inl (cI, 1100, .inl ((FX9_refuse rrn rfn rrf rof rfr k v).2.2.2.1)))] := hD
            refine lv_aload_n hx hb dX9_give_86 rfl (lv_at hl 0 rfl) ?_
            refine va_get (D := D) (ci := 9) (v := .ref a9) (C := RX9) (T := TX9) (N := 32) hx hb hts iw_9 hown hK hP 0 rfl rfl 11 (by decide) (hts (.fieldLink RX9 36 "DepositCodesModel" "payers" "[I") (by decide +kernel)) (fun _ h9 => h9) rfl dX9_give_87 ?_
            refine lv_aload_n hx hb dX9_give_90 rfl (lv_at hl 0 rfl) ?_
            refine va_get (D := D) (ci := 9) (v := .int (nI rpn)) (C := RX9) (T := TX9) (N := 32) hx hb hts iw_9 hown hK hP 0 rfl rfl 16 (by decide) (hts (.fieldLink RX9 140 "DepositCodesModel" "paid" "I") (by decide +kernel)) (fun _ h9 => h9) rfl dX9_give_91 ?_
            refine lv_iload_n hx hb dX9_give_94 rfl (lv_at hl 1 rfl) ?_
            refine na_iast hx hb hK hP hD hS 7 0 rfl rfl (by omega) (by decide) dX9_give_95 (fun H locs hP hD hS => ?_)
            have hP : va_P D vwCl [(w0, .inr (9, [.ref a1, .ref a2, .int (nI rdn), .int ((FX9_reasonFor rmn rpn rse rfu rda rle rmo rsn rpa rco k v sh w).2), .int (nI rmn), .ref a3, .ref a4, .ref a5, .ref a6, .ref a7, .ref a8, .ref a9, .ref a10, .ref a11, .ref a12, .ref a13, .int (nI rpn), .int ((FX9_reasonFor rmn rpn rse rfu rda rle rmo rsn rpa rco k v sh w).1), .ref a14, .ref a15, .int (nI ((FX9_refuse rrn rfn rrf rof rfr k v).2.2.1)), .ref a16, .int (nI ((FX9_refuse rrn rfn rrf rof rfr k v).2.2.2.2)), .ref a17, .ref a18, .ref a19, .int (nI rkn), .ref a20, .ref a21, .int (nI rcn), .ref a22, .ref a23])), (a3, .inl (cI, 6, .inl rse)), (a4, .inl (cZ, 6, .inl rfu)), (a5, .inl (cZ, 6, .inl rda)), (a6, .inl (cI, 8, .inl rle)), (a7, .inl (cI, 8, .inl rmo)), (a8, .inl (cJ, 200, .inr (.inl (vp_updL rsn rpn v)))), (a9, .inl (cI, 200, .inl (upd rpa rpn k))), (a10, .inl (cI, 200, .inl rsh)), (a11, .inl (cJ, 200, .inr (.inl rmt))), (a12, .inl (cZ, 200, .inl rco)), (a13, .inl (cZ, 200, .inl rpr)), (a14, .inl (cJ, 1100, .inr (.inl ((FX9_refuse rrn rfn rrf rof rfr k v).1)))), (a15, .inl (cI, 1100, .inl ((FX9_refuse rrn rfn rrf rof rfr k v).2.1))), (a16, .inl (cI, 1100, .inl ((FX9_refuse rrn rfn rrf rof rfr k v).2.2.2.1)))] H := hP
            have hD : va_D A [(w0, .inr (9, [.ref a1, .ref a2, .int (nI rdn), .int ((FX9_reasonFor rmn rpn rse rfu rda rle rmo rsn rpa rco k v sh w).2), .int (nI rmn), .ref a3, .ref a4, .ref a5, .ref a6, .ref a7, .ref a8, .ref a9, .ref a10, .ref a11, .ref a12, .ref a13, .int (nI rpn), .int ((FX9_reasonFor rmn rpn rse rfu rda rle rmo rsn rpa rco k v sh w).1), .ref a14, .ref a15, .int (nI ((FX9_refuse rrn rfn rrf rof rfr k v).2.2.1)), .ref a16, .int (nI ((FX9_refuse rrn rfn rrf rof rfr k v).2.2.2.2)), .ref a17, .ref a18, .ref a19, .int (nI rkn), .ref a20, .ref a21, .int (nI rcn), .ref a22, .ref a23])), (a3, .inl (cI, 6, .inl rse)), (a4, .inl (cZ, 6, .inl rfu)), (a5, .inl (cZ, 6, .inl rda)), (a6, .inl (cI, 8, .inl rle)), (a7, .inl (cI, 8, .inl rmo)), (a8, .inl (cJ, 200, .inr (.inl (vp_updL rsn rpn v)))), (a9, .inl (cI, 200, .inl (upd rpa rpn k))), (a10, .inl (cI, 200, .inl rsh)), (a11, .inl (cJ, 200, .inr (.inl rmt))), (a12, .inl (cZ, 200, .inl rco)), (a13, .inl (cZ, 200, .inl rpr)), (a14, .inl (cJ, 1100, .inr (.inl ((FX9_refuse rrn rfn rrf rof rfr k v).1)))), (a15, .inl (cI, 1100, .inl ((FX9_refuse rrn rfn rrf rof rfr k v).2.1))), (a16, .inl (cI, 1100, .inl ((FX9_refuse rrn rfn rrf rof rfr k v).2.2.2.1)))] := hD
            refine lv_aload_n hx hb dX9_give_96 rfl (lv_at hl 0 rfl) ?_
            refine va_get (D := D) (ci := 9) (v := .ref a10) (C := RX9) (T := TX9) (N := 32) hx hb hts iw_9 hown hK hP 0 rfl rfl 12 (by decide) (hts (.fieldLink RX9 39 "DepositCodesModel" "shapes" "[I") (by decide +kernel)) (fun _ h9 => h9) rfl dX9_give_97 ?_
            refine lv_aload_n hx hb dX9_give_100 rfl (lv_at hl 0 rfl) ?_
            refine va_get (D := D) (ci := 9) (v := .int (nI rpn)) (C := RX9) (T := TX9) (N := 32) hx hb hts iw_9 hown hK hP 0 rfl rfl 16 (by decide) (hts (.fieldLink RX9 140 "DepositCodesModel" "paid" "I") (by decide +kernel)) (fun _ h9 => h9) rfl dX9_give_101 ?_
            refine lv_iload hx hb dX9_give_104 (lv_at hl 3 rfl) ?_
            refine na_iast hx hb hK hP hD hS 8 0 rfl rfl (by omega) (by decide) dX9_give_106 (fun H locs hP hD hS => ?_)
            have hP : va_P D vwCl [(w0, .inr (9, [.ref a1, .ref a2, .int (nI rdn), .int ((FX9_reasonFor rmn rpn rse rfu rda rle rmo rsn rpa rco k v sh w).2), .int (nI rmn), .ref a3, .ref a4, .ref a5, .ref a6, .ref a7, .ref a8, .ref a9, .ref a10, .ref a11, .ref a12, .ref a13, .int (nI rpn), .int ((FX9_reasonFor rmn rpn rse rfu rda rle rmo rsn rpa rco k v sh w).1), .ref a14, .ref a15, .int (nI ((FX9_refuse rrn rfn rrf rof rfr k v).2.2.1)), .ref a16, .int (nI ((FX9_refuse rrn rfn rrf rof rfr k v).2.2.2.2)), .ref a17, .ref a18, .ref a19, .int (nI rkn), .ref a20, .ref a21, .int (nI rcn), .ref a22, .ref a23])), (a3, .inl (cI, 6, .inl rse)), (a4, .inl (cZ, 6, .inl rfu)), (a5, .inl (cZ, 6, .inl rda)), (a6, .inl (cI, 8, .inl rle)), (a7, .inl (cI, 8, .inl rmo)), (a8, .inl (cJ, 200, .inr (.inl (vp_updL rsn rpn v)))), (a9, .inl (cI, 200, .inl (upd rpa rpn k))), (a10, .inl (cI, 200, .inl (upd rsh rpn sh))), (a11, .inl (cJ, 200, .inr (.inl rmt))), (a12, .inl (cZ, 200, .inl rco)), (a13, .inl (cZ, 200, .inl rpr)), (a14, .inl (cJ, 1100, .inr (.inl ((FX9_refuse rrn rfn rrf rof rfr k v).1)))), (a15, .inl (cI, 1100, .inl ((FX9_refuse rrn rfn rrf rof rfr k v).2.1))), (a16, .inl (cI, 1100, .inl ((FX9_refuse rrn rfn rrf rof rfr k v).2.2.2.1)))] H := hP
            have hD : va_D A [(w0, .inr (9, [.ref a1, .ref a2, .int (nI rdn), .int ((FX9_reasonFor rmn rpn rse rfu rda rle rmo rsn rpa rco k v sh w).2), .int (nI rmn), .ref a3, .ref a4, .ref a5, .ref a6, .ref a7, .ref a8, .ref a9, .ref a10, .ref a11, .ref a12, .ref a13, .int (nI rpn), .int ((FX9_reasonFor rmn rpn rse rfu rda rle rmo rsn rpa rco k v sh w).1), .ref a14, .ref a15, .int (nI ((FX9_refuse rrn rfn rrf rof rfr k v).2.2.1)), .ref a16, .int (nI ((FX9_refuse rrn rfn rrf rof rfr k v).2.2.2.2)), .ref a17, .ref a18, .ref a19, .int (nI rkn), .ref a20, .ref a21, .int (nI rcn), .ref a22, .ref a23])), (a3, .inl (cI, 6, .inl rse)), (a4, .inl (cZ, 6, .inl rfu)), (a5, .inl (cZ, 6, .inl rda)), (a6, .inl (cI, 8, .inl rle)), (a7, .inl (cI, 8, .inl rmo)), (a8, .inl (cJ, 200, .inr (.inl (vp_updL rsn rpn v)))), (a9, .inl (cI, 200, .inl (upd rpa rpn k))), (a10, .inl (cI, 200, .inl (upd rsh rpn sh))), (a11, .inl (cJ, 200, .inr (.inl rmt))), (a12, .inl (cZ, 200, .inl rco)), (a13, .inl (cZ, 200, .inl rpr)), (a14, .inl (cJ, 1100, .inr (.inl ((FX9_refuse rrn rfn rrf rof rfr k v).1)))), (a15, .inl (cI, 1100, .inl ((FX9_refuse rrn rfn rrf rof rfr k v).2.1))), (a16, .inl (cI, 1100, .inl ((FX9_refuse rrn rfn rrf rof rfr k v).2.2.2.1)))] := hD
            refine lv_aload_n hx hb dX9_give_107 rfl (lv_at hl 0 rfl) ?_
            refine va_get (D := D) (ci := 9) (v := .ref a11) (C := RX9) (T := TX9) (N := 32) hx hb hts iw_9 hown hK hP 0 rfl rfl 13 (by decide) (hts (.fieldLink RX9 42 "DepositCodesModel" "months" "[J") (by decide +kernel)) (fun _ h9 => h9) rfl dX9_give_108 ?_
            refine lv_aload_n hx hb dX9_give_111 rfl (lv_at hl 0 rfl) ?_
            refine va_get (D := D) (ci := 9) (v := .int (nI rpn)) (C := RX9) (T := TX9) (N := 32) hx hb hts iw_9 hown hK hP 0 rfl rfl 16 (by decide) (hts (.fieldLink RX9 140 "DepositCodesModel" "paid" "I") (by decide +kernel)) (fun _ h9 => h9) rfl dX9_give_112 ?_
            refine lv_lload hx hb dX9_give_115 (lv_at hl 5 rfl) ?_
            refine lv_ldc2 hx hb hown (hts (.constantLong RX9 166 2592000) (by decide +kernel)) dX9_give_117 ?_
            refine lv_ldiv hx hb dX9_give_120 (by decide) ?_
            refine na_last hx hb hK hP hD hS 9 1 rfl rfl (by omega) (by decide) dX9_give_121 (fun H locs hP hD hS => ?_)
            have hP : va_P D vwCl [(w0, .inr (9, [.ref a1, .ref a2, .int (nI rdn), .int ((FX9_reasonFor rmn rpn rse rfu rda rle rmo rsn rpa rco k v sh w).2), .int (nI rmn), .ref a3, .ref a4, .ref a5, .ref a6, .ref a7, .ref a8, .ref a9, .ref a10, .ref a11, .ref a12, .ref a13, .int (nI rpn), .int ((FX9_reasonFor rmn rpn rse rfu rda rle rmo rsn rpa rco k v sh w).1), .ref a14, .ref a15, .int (nI ((FX9_refuse rrn rfn rrf rof rfr k v).2.2.1)), .ref a16, .int (nI ((FX9_refuse rrn rfn rrf rof rfr k v).2.2.2.2)), .ref a17, .ref a18, .ref a19, .int (nI rkn), .ref a20, .ref a21, .int (nI rcn), .ref a22, .ref a23])), (a3, .inl (cI, 6, .inl rse)), (a4, .inl (cZ, 6, .inl rfu)), (a5, .inl (cZ, 6, .inl rda)), (a6, .inl (cI, 8, .inl rle)), (a7, .inl (cI, 8, .inl rmo)), (a8, .inl (cJ, 200, .inr (.inl (vp_updL rsn rpn v)))), (a9, .inl (cI, 200, .inl (upd rpa rpn k))), (a10, .inl (cI, 200, .inl (upd rsh rpn sh))), (a11, .inl (cJ, 200, .inr (.inl (vp_updL rmt rpn (sc / 2592000))))), (a12, .inl (cZ, 200, .inl rco)), (a13, .inl (cZ, 200, .inl rpr)), (a14, .inl (cJ, 1100, .inr (.inl ((FX9_refuse rrn rfn rrf rof rfr k v).1)))), (a15, .inl (cI, 1100, .inl ((FX9_refuse rrn rfn rrf rof rfr k v).2.1))), (a16, .inl (cI, 1100, .inl ((FX9_refuse rrn rfn rrf rof rfr k v).2.2.2.1)))] H := hP
            have hD : va_D A [(w0, .inr (9, [.ref a1, .ref a2, .int (nI rdn), .int ((FX9_reasonFor rmn rpn rse rfu rda rle rmo rsn rpa rco k v sh w).2), .int (nI rmn), .ref a3, .ref a4, .ref a5, .ref a6, .ref a7, .ref a8, .ref a9, .ref a10, .ref a11, .ref a12, .ref a13, .int (nI rpn), .int ((FX9_reasonFor rmn rpn rse rfu rda rle rmo rsn rpa rco k v sh w).1), .ref a14, .ref a15, .int (nI ((FX9_refuse rrn rfn rrf rof rfr k v).2.2.1)), .ref a16, .int (nI ((FX9_refuse rrn rfn rrf rof rfr k v).2.2.2.2)), .ref a17, .ref a18, .ref a19, .int (nI rkn), .ref a20, .ref a21, .int (nI rcn), .ref a22, .ref a23])), (a3, .inl (cI, 6, .inl rse)), (a4, .inl (cZ, 6, .inl rfu)), (a5, .inl (cZ, 6, .inl rda)), (a6, .inl (cI, 8, .inl rle)), (a7, .inl (cI, 8, .inl rmo)), (a8, .inl (cJ, 200, .inr (.inl (vp_updL rsn rpn v)))), (a9, .inl (cI, 200, .inl (upd rpa rpn k))), (a10, .inl (cI, 200, .inl (upd rsh rpn sh))), (a11, .inl (cJ, 200, .inr (.inl (vp_updL rmt rpn (sc / 2592000))))), (a12, .inl (cZ, 200, .inl rco)), (a13, .inl (cZ, 200, .inl rpr)), (a14, .inl (cJ, 1100, .inr (.inl ((FX9_refuse rrn rfn rrf rof rfr k v).1)))), (a15, .inl (cI, 1100, .inl ((FX9_refuse rrn rfn rrf rof rfr k v).2.1))), (a16, .inl (cI, 1100, .inl ((FX9_refuse rrn rfn rrf rof rfr k v).2.2.2.1)))] := hD
            refine lv_aload_n hx hb dX9_give_122 rfl (lv_at hl 0 rfl) ?_
            refine va_get (D := D) (ci := 9) (v := .ref a12) (C := RX9) (T := TX9) (N := 32) hx hb hts iw_9 hown hK hP 0 rfl rfl 14 (by decide) (hts (.fieldLink RX9 45 "DepositCodesModel" "counts" "[Z") (by decide +kernel)) (fun _ h9 => h9) rfl dX9_give_123 ?_
            refine lv_aload_n hx hb dX9_give_126 rfl (lv_at hl 0 rfl) ?_
            refine va_get (D := D) (ci := 9) (v := .int (nI rpn)) (C := RX9) (T := TX9) (N := 32) hx hb hts iw_9 hown hK hP 0 rfl rfl 16 (by decide) (hts (.fieldLink RX9 140 "DepositCodesModel" "paid" "I") (by decide +kernel)) (fun _ h9 => h9) rfl dX9_give_127 ?_
            refine lv_iconst (v := 1) hx hb dX9_give_130 (by decide) ?_
            refine na_zast hx hb hK hP hD hS 10 2 rfl rfl (by omega) (by decide) dX9_give_131 (fun H locs hP hD hS => ?_)
            have hP : va_P D vwCl [(w0, .inr (9, [.ref a1, .ref a2, .int (nI rdn), .int ((FX9_reasonFor rmn rpn rse rfu rda rle rmo rsn rpa rco k v sh w).2), .int (nI rmn), .ref a3, .ref a4, .ref a5, .ref a6, .ref a7, .ref a8, .ref a9, .ref a10, .ref a11, .ref a12, .ref a13, .int (nI rpn), .int ((FX9_reasonFor rmn rpn rse rfu rda rle rmo rsn rpa rco k v sh w).1), .ref a14, .ref a15, .int (nI ((FX9_refuse rrn rfn rrf rof rfr k v).2.2.1)), .ref a16, .int (nI ((FX9_refuse rrn rfn rrf rof rfr k v).2.2.2.2)), .ref a17, .ref a18, .ref a19, .int (nI rkn), .ref a20, .ref a21, .int (nI rcn), .ref a22, .ref a23])), (a3, .inl (cI, 6, .inl rse)), (a4, .inl (cZ, 6, .inl rfu)), (a5, .inl (cZ, 6, .inl rda)), (a6, .inl (cI, 8, .inl rle)), (a7, .inl (cI, 8, .inl rmo)), (a8, .inl (cJ, 200, .inr (.inl (vp_updL rsn rpn v)))), (a9, .inl (cI, 200, .inl (upd rpa rpn k))), (a10, .inl (cI, 200, .inl (upd rsh rpn sh))), (a11, .inl (cJ, 200, .inr (.inl (vp_updL rmt rpn (sc / 2592000))))), (a12, .inl (cZ, 200, .inl (upd rco rpn (vp_nar .boolean 1)))), (a13, .inl (cZ, 200, .inl rpr)), (a14, .inl (cJ, 1100, .inr (.inl ((FX9_refuse rrn rfn rrf rof rfr k v).1)))), (a15, .inl (cI, 1100, .inl ((FX9_refuse rrn rfn rrf rof rfr k v).2.1))), (a16, .inl (cI, 1100, .inl ((FX9_refuse rrn rfn rrf rof rfr k v).2.2.2.1)))] H := hP
            have hD : va_D A [(w0, .inr (9, [.ref a1, .ref a2, .int (nI rdn), .int ((FX9_reasonFor rmn rpn rse rfu rda rle rmo rsn rpa rco k v sh w).2), .int (nI rmn), .ref a3, .ref a4, .ref a5, .ref a6, .ref a7, .ref a8, .ref a9, .ref a10, .ref a11, .ref a12, .ref a13, .int (nI rpn), .int ((FX9_reasonFor rmn rpn rse rfu rda rle rmo rsn rpa rco k v sh w).1), .ref a14, .ref a15, .int (nI ((FX9_refuse rrn rfn rrf rof rfr k v).2.2.1)), .ref a16, .int (nI ((FX9_refuse rrn rfn rrf rof rfr k v).2.2.2.2)), .ref a17, .ref a18, .ref a19, .int (nI rkn), .ref a20, .ref a21, .int (nI rcn), .ref a22, .ref a23])), (a3, .inl (cI, 6, .inl rse)), (a4, .inl (cZ, 6, .inl rfu)), (a5, .inl (cZ, 6, .inl rda)), (a6, .inl (cI, 8, .inl rle)), (a7, .inl (cI, 8, .inl rmo)), (a8, .inl (cJ, 200, .inr (.inl (vp_updL rsn rpn v)))), (a9, .inl (cI, 200, .inl (upd rpa rpn k))), (a10, .inl (cI, 200, .inl (upd rsh rpn sh))), (a11, .inl (cJ, 200, .inr (.inl (vp_updL rmt rpn (sc / 2592000))))), (a12, .inl (cZ, 200, .inl (upd rco rpn (vp_nar .boolean 1)))), (a13, .inl (cZ, 200, .inl rpr)), (a14, .inl (cJ, 1100, .inr (.inl ((FX9_refuse rrn rfn rrf rof rfr k v).1)))), (a15, .inl (cI, 1100, .inl ((FX9_refuse rrn rfn rrf rof rfr k v).2.1))), (a16, .inl (cI, 1100, .inl ((FX9_refuse rrn rfn rrf rof rfr k v).2.2.2.1)))] := hD
            refine lv_aload_n hx hb dX9_give_132 rfl (lv_at hl 0 rfl) ?_
            refine va_get (D := D) (ci := 9) (v := .ref a13) (C := RX9) (T := TX9) (N := 32) hx hb hts iw_9 hown hK hP 0 rfl rfl 15 (by decide) (hts (.fieldLink RX9 48 "DepositCodesModel" "printed" "[Z") (by decide +kernel)) (fun _ h9 => h9) rfl dX9_give_133 ?_
            refine lv_aload_n hx hb dX9_give_136 rfl (lv_at hl 0 rfl) ?_
            refine va_get (D := D) (ci := 9) (v := .int (nI rpn)) (C := RX9) (T := TX9) (N := 32) hx hb hts iw_9 hown hK hP 0 rfl rfl 16 (by decide) (hts (.fieldLink RX9 140 "DepositCodesModel" "paid" "I") (by decide +kernel)) (fun _ h9 => h9) rfl dX9_give_137 ?_
            refine lv_iconst (v := 0) hx hb dX9_give_140 (by decide) ?_
            refine na_zast hx hb hK hP hD hS 11 2 rfl rfl (by omega) (by decide) dX9_give_141 (fun H locs hP hD hS => ?_)
            have hP : va_P D vwCl [(w0, .inr (9, [.ref a1, .ref a2, .int (nI rdn), .int ((FX9_reasonFor rmn rpn rse rfu rda rle rmo rsn rpa rco k v sh w).2), .int (nI rmn), .ref a3, .ref a4, .ref a5, .ref a6, .ref a7, .ref a8, .ref a9, .ref a10, .ref a11, .ref a12, .ref a13, .int (nI rpn), .int ((FX9_reasonFor rmn rpn rse rfu rda rle rmo rsn rpa rco k v sh w).1), .ref a14, .ref a15, .int (nI ((FX9_refuse rrn rfn rrf rof rfr k v).2.2.1)), .ref a16, .int (nI ((FX9_refuse rrn rfn rrf rof rfr k v).2.2.2.2)), .ref a17, .ref a18, .ref a19, .int (nI rkn), .ref a20, .ref a21, .int (nI rcn), .ref a22, .ref a23])), (a3, .inl (cI, 6, .inl rse)), (a4, .inl (cZ, 6, .inl rfu)), (a5, .inl (cZ, 6, .inl rda)), (a6, .inl (cI, 8, .inl rle)), (a7, .inl (cI, 8, .inl rmo)), (a8, .inl (cJ, 200, .inr (.inl (vp_updL rsn rpn v)))), (a9, .inl (cI, 200, .inl (upd rpa rpn k))), (a10, .inl (cI, 200, .inl (upd rsh rpn sh))), (a11, .inl (cJ, 200, .inr (.inl (vp_updL rmt rpn (sc / 2592000))))), (a12, .inl (cZ, 200, .inl (upd rco rpn (vp_nar .boolean 1)))), (a13, .inl (cZ, 200, .inl (upd rpr rpn (vp_nar .boolean 0)))), (a14, .inl (cJ, 1100, .inr (.inl ((FX9_refuse rrn rfn rrf rof rfr k v).1)))), (a15, .inl (cI, 1100, .inl ((FX9_refuse rrn rfn rrf rof rfr k v).2.1))), (a16, .inl (cI, 1100, .inl ((FX9_refuse rrn rfn rrf rof rfr k v).2.2.2.1)))] H := hP
            have hD : va_D A [(w0, .inr (9, [.ref a1, .ref a2, .int (nI rdn), .int ((FX9_reasonFor rmn rpn rse rfu rda rle rmo rsn rpa rco k v sh w).2), .int (nI rmn), .ref a3, .ref a4, .ref a5, .ref a6, .ref a7, .ref a8, .ref a9, .ref a10, .ref a11, .ref a12, .ref a13, .int (nI rpn), .int ((FX9_reasonFor rmn rpn rse rfu rda rle rmo rsn rpa rco k v sh w).1), .ref a14, .ref a15, .int (nI ((FX9_refuse rrn rfn rrf rof rfr k v).2.2.1)), .ref a16, .int (nI ((FX9_refuse rrn rfn rrf rof rfr k v).2.2.2.2)), .ref a17, .ref a18, .ref a19, .int (nI rkn), .ref a20, .ref a21, .int (nI rcn), .ref a22, .ref a23])), (a3, .inl (cI, 6, .inl rse)), (a4, .inl (cZ, 6, .inl rfu)), (a5, .inl (cZ, 6, .inl rda)), (a6, .inl (cI, 8, .inl rle)), (a7, .inl (cI, 8, .inl rmo)), (a8, .inl (cJ, 200, .inr (.inl (vp_updL rsn rpn v)))), (a9, .inl (cI, 200, .inl (upd rpa rpn k))), (a10, .inl (cI, 200, .inl (upd rsh rpn sh))), (a11, .inl (cJ, 200, .inr (.inl (vp_updL rmt rpn (sc / 2592000))))), (a12, .inl (cZ, 200, .inl (upd rco rpn (vp_nar .boolean 1)))), (a13, .inl (cZ, 200, .inl (upd rpr rpn (vp_nar .boolean 0)))), (a14, .inl (cJ, 1100, .inr (.inl ((FX9_refuse rrn rfn rrf rof rfr k v).1)))), (a15, .inl (cI, 1100, .inl ((FX9_refuse rrn rfn rrf rof rfr k v).2.1))), (a16, .inl (cI, 1100, .inl ((FX9_refuse rrn rfn rrf rof rfr k v).2.2.2.1)))] := hD
            refine lv_aload_n hx hb dX9_give_142 rfl (lv_at hl 0 rfl) ?_
            refine lv_dup hx hb dX9_give_143 rfl ?_
            refine va_get (D := D) (ci := 9) (v := .int (nI rpn)) (C := RX9) (T := TX9) (N := 32) hx hb hts iw_9 hown hK hP 0 rfl rfl 16 (by decide) (hts (.fieldLink RX9 140 "DepositCodesModel" "paid" "I") (by decide +kernel)) (fun _ h9 => h9) rfl dX9_give_144 ?_
            refine lv_iconst (v := 1) hx hb dX9_give_147 (by decide) ?_
            refine lv_iadd hx hb dX9_give_148 ?_
            refine na_top (show (nI rpn) + 1 = nI (rpn + 1) from nI_add rpn 1) ?_
            refine va_put (D := D) (ci := 9) (v := .int (nI (rpn + 1))) (ty := .int) (C := RX9) (T := TX9) (N := 32) hx hb hts iw_9 tyX9 tyX9_ok nmX9 hown hK hP hD hS 0 rfl rfl 16 (by decide) (hts (.fieldLink RX9 140 "DepositCodesModel" "paid" "I") (by decide +kernel)) (fun _ h9 => h9) rfl (by decide +kernel) rfl rfl (Nat.le_of_ble_eq_true rfl) dX9_give_149 (fun H locs hP hD hS => ?_)
            have hP : va_P D vwCl [(w0, .inr (9, [.ref a1, .ref a2, .int (nI rdn), .int ((FX9_reasonFor rmn rpn rse rfu rda rle rmo rsn rpa rco k v sh w).2), .int (nI rmn), .ref a3, .ref a4, .ref a5, .ref a6, .ref a7, .ref a8, .ref a9, .ref a10, .ref a11, .ref a12, .ref a13, .int (nI (rpn + 1)), .int ((FX9_reasonFor rmn rpn rse rfu rda rle rmo rsn rpa rco k v sh w).1), .ref a14, .ref a15, .int (nI ((FX9_refuse rrn rfn rrf rof rfr k v).2.2.1)), .ref a16, .int (nI ((FX9_refuse rrn rfn rrf rof rfr k v).2.2.2.2)), .ref a17, .ref a18, .ref a19, .int (nI rkn), .ref a20, .ref a21, .int (nI rcn), .ref a22, .ref a23])), (a3, .inl (cI, 6, .inl rse)), (a4, .inl (cZ, 6, .inl rfu)), (a5, .inl (cZ, 6, .inl rda)), (a6, .inl (cI, 8, .inl rle)), (a7, .inl (cI, 8, .inl rmo)), (a8, .inl (cJ, 200, .inr (.inl (vp_updL rsn rpn v)))), (a9, .inl (cI, 200, .inl (upd rpa rpn k))), (a10, .inl (cI, 200, .inl (upd rsh rpn sh))), (a11, .inl (cJ, 200, .inr (.inl (vp_updL rmt rpn (sc / 2592000))))), (a12, .inl (cZ, 200, .inl (upd rco rpn (vp_nar .boolean 1)))), (a13, .inl (cZ, 200, .inl (upd rpr rpn (vp_nar .boolean 0)))), (a14, .inl (cJ, 1100, .inr (.inl ((FX9_refuse rrn rfn rrf rof rfr k v).1)))), (a15, .inl (cI, 1100, .inl ((FX9_refuse rrn rfn rrf rof rfr k v).2.1))), (a16, .inl (cI, 1100, .inl ((FX9_refuse rrn rfn rrf rof rfr k v).2.2.2.1)))] H := hP
            have hD : va_D A [(w0, .inr (9, [.ref a1, .ref a2, .int (nI rdn), .int ((FX9_reasonFor rmn rpn rse rfu rda rle rmo rsn rpa rco k v sh w).2), .int (nI rmn), .ref a3, .ref a4, .ref a5, .ref a6, .ref a7, .ref a8, .ref a9, .ref a10, .ref a11, .ref a12, .ref a13, .int (nI (rpn + 1)), .int ((FX9_reasonFor rmn rpn rse rfu rda rle rmo rsn rpa rco k v sh w).1), .ref a14, .ref a15, .int (nI ((FX9_refuse rrn rfn rrf rof rfr k v).2.2.1)), .ref a16, .int (nI ((FX9_refuse rrn rfn rrf rof rfr k v).2.2.2.2)), .ref a17, .ref a18, .ref a19, .int (nI rkn), .ref a20, .ref a21, .int (nI rcn), .ref a22, .ref a23])), (a3, .inl (cI, 6, .inl rse)), (a4, .inl (cZ, 6, .inl rfu)), (a5, .inl (cZ, 6, .inl rda)), (a6, .inl (cI, 8, .inl rle)), (a7, .inl (cI, 8, .inl rmo)), (a8, .inl (cJ, 200, .inr (.inl (vp_updL rsn rpn v)))), (a9, .inl (cI, 200, .inl (upd rpa rpn k))), (a10, .inl (cI, 200, .inl (upd rsh rpn sh))), (a11, .inl (cJ, 200, .inr (.inl (vp_updL rmt rpn (sc / 2592000))))), (a12, .inl (cZ, 200, .inl (upd rco rpn (vp_nar .boolean 1)))), (a13, .inl (cZ, 200, .inl (upd rpr rpn (vp_nar .boolean 0)))), (a14, .inl (cJ, 1100, .inr (.inl ((FX9_refuse rrn rfn rrf rof rfr k v).1)))), (a15, .inl (cI, 1100, .inl ((FX9_refuse rrn rfn rrf rof rfr k v).2.1))), (a16, .inl (cI, 1100, .inl ((FX9_refuse rrn rfn rrf rof rfr k v).2.2.2.1)))] := hD
            refine lv_iconst (v := 1) hx hb dX9_give_152 (by decide) ?_
            subst hE
            exact W.iret hx hb hr (fun t ht hW => ⟨rfl, by rw [ht]; exact hP, hD, hS.F ht⟩) hS.2.2 dX9_give_153
          · rw [if_neg c_6] at hE
            refine lv_iconst (v := 0) hx hb dX9_give_74 (by decide) ?_
            subst hE
            exact W.iret hx hb hr (fun t ht hW => ⟨rfl, by rw [ht]; exact hP, hD, hS.F ht⟩) hS.2.2 dX9_give_75
      · have c_3 : rpn = 200 := (nI_eq (a := rpn) (b := 200) (by omega) (by omega)).mp c_3
        rw [if_pos c_3] at hE
        refine lv_iconst (v := (-1)) hx hb dX9_give_36 (by decide) ?_
        subst hE
        exact W.iret hx hb hr (fun t ht hW => ⟨rfl, by rw [ht]; exact hP, hD, hS.F ht⟩) hS.2.2 dX9_give_37
def FX9_count_l28 (rmn : Nat) (rpn : Nat) (rpa : Nat → Int32) (rsh : Nat → Int32) (mc : Int32) (sh : Int32) : Nat → Nat → Nat → Int64 × Int32
  | 0, _, _ => (0, 0)
  | n + 1, k, q => if rpn ≤ k then ((nI q).toInt64, (FX9_isMachine rmn mc).2) else (if (rpa k) = mc then (if (rsh k) = sh then FX9_count_l28 rmn rpn rpa rsh mc sh n (k + 1) (q + 1) else FX9_count_l28 rmn rpn rpa rsh mc sh n (k + 1) q) else FX9_count_l28 rmn rpn rpa rsh mc sh n (k + 1) q)
def FX9_count (rmn : Nat) (rpn : Nat) (rpa : Nat → Int32) (rsh : Nat → Int32) (mc : Int32) (sh : Int32) : Int64 × Int32 := if ((FX9_isMachine rmn mc).1) = 0 then ((-1), (FX9_isMachine rmn mc).2) else (if (FX9_isIn sh.toInt64 7) = 0 then ((-1), (FX9_isMachine rmn mc).2) else FX9_count_l28 rmn rpn rpa rsh mc sh (rpn + 1) 0 0)
set_option maxHeartbeats 4000000 in
set_option maxRecDepth 100000 in
theorem kX9_count (l : Launch) (D : va_G) (cI cJ cZ : ClassId) (w0 : Nat) (a1 : Nat) (a2 : Nat) (a3 : Nat) (a4 : Nat) (a5 : Nat) (a6 : Nat) (a7 : Nat) (a8 : Nat) (a9 : Nat) (a10 : Nat) (a11 : Nat) (a12 : Nat) (a13 : Nat) (a14 : Nat) (a15 : Nat) (a16 : Nat) (a17 : Nat) (a18 : Nat) (a19 : Nat) (a20 : Nat) (a21 : Nat) (a22 : Nat) (a23 : Nat) (rdn : Nat) (rfa : Int32) (rmn : Nat) (rpn : Nat) (rre : Int32) (rrn : Nat) (rfn : Nat) (rkn : Nat) (rcn : Nat) (rpa : Nat → Int32) (rsh : Nat → Int32) (mc : Int32) (sh : Int32) (sz : Nat) (hpn : rpn ≤ 200) : Met l yX9_count wsX9_count ({ frames := 1, cells := 0, slots := 0, locals := 23 }) (mP D (tz cI cJ cZ) [.ref w0, .int mc, .int sh] sz [(w0, .inr (9, [.ref a1, .ref a2, .int (nI rdn), .int rfa, .int (nI rmn), .ref a3, .ref a4, .ref a5, .ref a6, .ref a7, .ref a8, .ref a9, .ref a10, .ref a11, .ref a12, .ref a13, .int (nI rpn), .int rre, .ref a14, .ref a15, .int (nI rrn), .ref a16, .int (nI rfn), .ref a17, .ref a18, .ref a19, .int (nI rkn), .ref a20, .ref a21, .int (nI rcn), .ref a22, .ref a23])), (a9, .inl (cI, 200, .inl rpa)), (a10, .inl (cI, 200, .inl rsh))]) (mQ D (some (.long ((FX9_count rmn rpn rpa rsh mc sh).1))) [(w0, .inr (9, [.ref a1, .ref a2, .int (nI rdn), .int ((FX9_count rmn rpn rpa rsh mc sh).2), .int (nI rmn), .ref a3, .ref a4, .ref a5, .ref a6, .ref a7, .ref a8, .ref a9, .ref a10, .ref a11, .ref a12, .ref a13, .int (nI rpn), .int rre, .ref a14, .ref a15, .int (nI rrn), .ref a16, .int (nI rfn), .ref a17, .ref a18, .ref a19, .int (nI rkn), .ref a20, .ref a21, .int (nI rcn), .ref a22, .ref a23])), (a9, .inl (cI, 200, .inl rpa)), (a10, .inl (cI, 200, .inl rsh))] (va_A [(w0, .inr (9, [.ref a1, .ref a2, .int (nI rdn), .int rfa, .int (nI rmn), .ref a3, .ref a4, .ref a5, .ref a6, .ref a7, .ref a8, .ref a9, .ref a10, .ref a11, .ref a12, .ref a13, .int (nI rpn), .int rre, .ref a14, .ref a15, .int (nI rrn), .ref a16, .int (nI rfn), .ref a17, .ref a18, .ref a19, .int (nI rkn), .ref a20, .ref a21, .int (nI rcn), .ref a22, .ref a23])), (a9, .inl (cI, 200, .inl rpa)), (a10, .inl (cI, 200, .inl rsh))] sz)) 0 0 (va_A [(w0, .inr (9, [.ref a1, .ref a2, .int (nI rdn), .int rfa, .int (nI rmn), .ref a3, .ref a4, .ref a5, .ref a6, .ref a7, .ref a8, .ref a9, .ref a10, .ref a11, .ref a12, .ref a13, .int (nI rpn), .int rre, .ref a14, .ref a15, .int (nI rrn), .ref a16, .int (nI rfn), .ref a17, .ref a18, .ref a19, .int (nI rkn), .ref a20, .ref a21, .int (nI rcn), .ref a22, .ref a23])), (a9, .inl (cI, 200, .inl rpa)), (a10, .inl (cI, 200, .inl rsh))] sz) := by
  refine Met.ofW (cc := cX9_count) (maxL := 5) (ret := (some .long)) (by decide) rfl ?_
  intro p e s m args below meth c s₁ B hml hv
  obtain ⟨rfl, hsz, hP, hK, hD0, hN⟩ := hv
  have hx := B.exec
  have hb := B.bytes
  have hr := B.returns
  have hts := atoms_spec (ws := wsX9_count) B.pre
  have hown : s.vm.findClass RX9 = some m.cls := findClass_of_methodNamed B.named
  have hlocks := B.notSynchronized
  have iw_9 : ∀ w ∈ u_ws RX9 TX9 32, w ∈ wsX9_count := by decide +kernel
  subst hsz
  have hD := hD0.self (sz := s.heap.size)
  generalize hE : FX9_count rmn rpn rpa rsh mc sh = R0
  generalize hAe : va_A [(w0, .inr (9, [.ref a1, .ref a2, .int (nI rdn), .int rfa, .int (nI rmn), .ref a3, .ref a4, .ref a5, .ref a6, .ref a7, .ref a8, .ref a9, .ref a10, .ref a11, .ref a12, .ref a13, .int (nI rpn), .int rre, .ref a14, .ref a15, .int (nI rrn), .ref a16, .int (nI rfn), .ref a17, .ref a18, .ref a19, .int (nI rkn), .ref a20, .ref a21, .int (nI rcn), .ref a22, .ref a23])), (a9, .inl (cI, 200, .inl rpa)), (a10, .inl (cI, 200, .inl rsh))] s.heap.size = A at hD ⊢
  have hA : ∀ q : Nat, s.heap.size ≤ q → A q := fun q h => by rw [← hAe]; exact Or.inr h
  have hS : va_S A s.heap s.heap [] := va_S.rf
  rw [FX9_count] at hE
  have hl := lv_entry ([.ref w0, .int mc, .int sh]) (n := 5) (Nat.le_of_ble_eq_true rfl)
  rw [lg_entry_eq]
  generalize (lg_sl ([.ref w0, .int mc, .int sh]) ++ List.replicate (5 - (lg_sl ([.ref w0, .int mc, .int sh])).length) Slot.unset).toArray = ls at hl ⊢
  have hl : lv_has ls 5 [(0, .ref w0), (1, .int mc), (2, .int sh)] := hl
  have loop_28 : ∀ (n : Nat) (k : Nat) (q : Nat), k ≤ rpn → k + n = rpn + 1 → FX9_count_l28 rmn rpn rpa rsh mc sh n k q = R0 → ∀ (H : Heap) (locs : List Loc), va_P D vwCl [(w0, .inr (9, [.ref a1, .ref a2, .int (nI rdn), .int ((FX9_isMachine rmn mc).2), .int (nI rmn), .ref a3, .ref a4, .ref a5, .ref a6, .ref a7, .ref a8, .ref a9, .ref a10, .ref a11, .ref a12, .ref a13, .int (nI rpn), .int rre, .ref a14, .ref a15, .int (nI rrn), .ref a16, .int (nI rfn), .ref a17, .ref a18, .ref a19, .int (nI rkn), .ref a20, .ref a21, .int (nI rcn), .ref a22, .ref a23])), (a9, .inl (cI, 200, .inl rpa)), (a10, .inl (cI, 200, .inl rsh))] H → va_D A [(w0, .inr (9, [.ref a1, .ref a2, .int (nI rdn), .int ((FX9_isMachine rmn mc).2), .int (nI rmn), .ref a3, .ref a4, .ref a5, .ref a6, .ref a7, .ref a8, .ref a9, .ref a10, .ref a11, .ref a12, .ref a13, .int (nI rpn), .int rre, .ref a14, .ref a15, .int (nI rrn), .ref a16, .int (nI rfn), .ref a17, .ref a18, .ref a19, .int (nI rkn), .ref a20, .ref a21, .int (nI rcn), .ref a22, .ref a23])), (a9, .inl (cI, 200, .inl rpa)), (a10, .inl (cI, 200, .inl rsh))] → va_S A s.heap H locs → ∀ ls : Array Slot, lv_has ls 5 [(4, .int (nI k)), (3, .int (nI q)), (0, .ref w0), (1, .int mc), (2, .int sh)] → W p l e (headSpec wsX9_count ({ frames := 1, cells := 0, slots := 0, locals := 23 })).room s m ([.ref w0, .int mc, .int sh] : List Value).toArray below meth c H locs 0 0 (MQ below (mQ D (some (.long R0.1)) [(w0, .inr (9, [.ref a1, .ref a2, .int (nI rdn), .int R0.2, .int (nI rmn), .ref a3, .ref a4, .ref a5, .ref a6, .ref a7, .ref a8, .ref a9, .ref a10, .ref a11, .ref a12, .ref a13, .int (nI rpn), .int rre, .ref a14, .ref a15, .int (nI rrn), .ref a16, .int (nI rfn), .ref a17, .ref a18, .ref a19, .int (nI rkn), .ref a20, .ref a21, .int (nI rcn), .ref a22, .ref a23])), (a9, .inl (cI, 200, .inl rpa)), (a10, .inl (cI, 200, .inl rsh))] A) ([.ref w0, .int mc, .int sh] : List Value).toArray s 0 0 A) (F0 m 28 ls []) := by
    intro n
    induction n with
    | zero =>
      intro k q i_1 i_2
      exact absurd i_1 (by omega)
    | succ n ih =>
      intro k q i_1 i_2 hE H locs hP hD hS ls hl
      rw [FX9_count_l28] at hE
      refine lv_iload hx hb dX9_count_28 (lv_at hl 0 rfl) ?_
      refine lv_aload_n hx hb dX9_count_30 rfl (lv_at hl 2 rfl) ?_
      refine va_get (D := D) (ci := 9) (v := .int (nI rpn)) (C := RX9) (T := TX9) (N := 32) hx hb hts iw_9 hown hK hP 0 rfl rfl 16 (by decide) (hts (.fieldLink RX9 140 "DepositCodesModel" "paid" "I") (by decide +kernel)) (fun _ h9 => h9) rfl dX9_count_31 ?_
      refine lv_icmp_ge (tgt := 73) hx hb dX9_count_34 (by decide) (fun c_3 => ?_) (fun c_3 => ?_)
      · have c_3 : rpn ≤ k := (nI_leI (a := rpn) (b := k) (by omega) (by omega)).mp c_3
        rw [if_pos c_3] at hE
        refine lv_iload_n hx hb dX9_count_73 rfl (lv_at hl 1 rfl) ?_
        refine lv_i2l hx hb dX9_count_74 rfl ?_
        subst hE
        exact W.lret hx hb hr (fun t ht hW => ⟨rfl, by rw [ht]; exact hP, hD, hS.F ht⟩) hS.2.2 dX9_count_75
      · have c_3 : ¬ rpn ≤ k := fun h9 => c_3 ((nI_leI (a := rpn) (b := k) (by omega) (by omega)).mpr h9)
        rw [if_neg c_3] at hE
        refine lv_aload_n hx hb dX9_count_37 rfl (lv_at hl 2 rfl) ?_
        refine va_get (D := D) (ci := 9) (v := .ref a9) (C := RX9) (T := TX9) (N := 32) hx hb hts iw_9 hown hK hP 0 rfl rfl 11 (by decide) (hts (.fieldLink RX9 36 "DepositCodesModel" "payers" "[I") (by decide +kernel)) (fun _ h9 => h9) rfl dX9_count_38 ?_
        refine lv_iload hx hb dX9_count_41 (lv_at hl 0 rfl) ?_
        refine na_iald hx hb hK hP 1 0 rfl rfl (by omega) (by decide) dX9_count_43 ?_
        refine lv_iload_n hx hb dX9_count_44 rfl (lv_at hl 3 rfl) ?_
        refine lv_icmp_ne (tgt := 65) hx hb dX9_count_45 (by decide) (fun c_4 => ?_) (fun c_4 => ?_)
        · rw [if_neg c_4] at hE
          refine lv_iload_n hx hb dX9_count_65 rfl (lv_at hl 1 rfl) ?_
          refine lv_istore_n (lv' := [(3, .int (nI q)), (4, .int (nI k)), (0, .ref w0), (1, .int mc), (2, .int sh)]) hx hb dX9_count_66 rfl hl (by decide) rfl (fun ls hl => ?_)
          refine lv_iinc (v := nI (k + 1)) (lv' := [(4, .int (nI (k + 1))), (3, .int (nI q)), (0, .ref w0), (1, .int mc), (2, .int sh)]) hx hb dX9_count_67 hl (k := 1) rfl (nI_1 k) (by decide) rfl (fun ls hl => ?_)
          refine lv_goto (tgt := 28) hx hb dX9_count_70 (by decide) ?_
          exact ih (k + 1) q (by omega) (by omega) hE _ _ hP hD hS ls (lv_sub hl [0, 1, 2, 3, 4] rfl)
        · rw [if_pos c_4] at hE
          refine lv_aload_n hx hb dX9_count_48 rfl (lv_at hl 2 rfl) ?_
          refine va_get (D := D) (ci := 9) (v := .ref a10) (C := RX9) (T := TX9) (N := 32) hx hb hts iw_9 hown hK hP 0 rfl rfl 12 (by decide) (hts (.fieldLink RX9 39 "DepositCodesModel" "shapes" "[I") (by decide +kernel)) (fun _ h9 => h9) rfl dX9_count_49 ?_
          refine lv_iload hx hb dX9_count_52 (lv_at hl 0 rfl) ?_
          refine na_iald hx hb hK hP 2 0 rfl rfl (by omega) (by decide) dX9_count_54 ?_
          refine lv_iload_n hx hb dX9_count_55 rfl (lv_at hl 4 rfl) ?_
          refine lv_icmp_ne (tgt := 65) hx hb dX9_count_56 (by decide) (fun c_5 => ?_) (fun c_5 => ?_)
          · rw [if_neg c_5] at hE
            refine lv_iload_n hx hb dX9_count_65 rfl (lv_at hl 1 rfl) ?_
            refine lv_istore_n (lv' := [(3, .int (nI q)), (4, .int (nI k)), (0, .ref w0), (1, .int mc), (2, .int sh)]) hx hb dX9_count_66 rfl hl (by decide) rfl (fun ls hl => ?_)
            refine lv_iinc (v := nI (k + 1)) (lv' := [(4, .int (nI (k + 1))), (3, .int (nI q)), (0, .ref w0), (1, .int mc), (2, .int sh)]) hx hb dX9_count_67 hl (k := 1) rfl (nI_1 k) (by decide) rfl (fun ls hl => ?_)
            refine lv_goto (tgt := 28) hx hb dX9_count_70 (by decide) ?_
            exact ih (k + 1) q (by omega) (by omega) hE _ _ hP hD hS ls (lv_sub hl [0, 1, 2, 3, 4] rfl)
          · rw [if_pos c_5] at hE
            refine lv_iload_n hx hb dX9_count_59 rfl (lv_at hl 1 rfl) ?_
            refine lv_iconst (v := 1) hx hb dX9_count_60 (by decide) ?_
            refine lv_iadd hx hb dX9_count_61 ?_
            refine na_top (show (nI q) + 1 = nI (q + 1) from nI_add q 1) ?_
            refine lv_goto (tgt := 66) hx hb dX9_count_62 (by decide) ?_
            refine lv_istore_n (lv' := [(3, .int (nI (q + 1))), (4, .int (nI k)), (0, .ref w0), (1, .int mc), (2, .int sh)]) hx hb dX9_count_66 rfl hl (by decide) rfl (fun ls hl => ?_)
            refine lv_iinc (v := nI (k + 1)) (lv' := [(4, .int (nI (k + 1))), (3, .int (nI (q + 1))), (0, .ref w0), (1, .int mc), (2, .int sh)]) hx hb dX9_count_67 hl (k := 1) rfl (nI_1 k) (by decide) rfl (fun ls hl => ?_)
            refine lv_goto (tgt := 28) hx hb dX9_count_70 (by decide) ?_
            exact ih (k + 1) (q + 1) (by omega) (by omega) hE _ _ hP hD hS ls (lv_sub hl [0, 1, 2, 3, 4] rfl)
  refine lv_aload_n hx hb dX9_count_0 rfl (lv_at hl 0 rfl) ?_
  refine lv_iload_n hx hb dX9_count_1 rfl (lv_at hl 1 rfl) ?_
  refine mt_call0 (wr := [(a9, .inl (cI, 200, .inl rpa)), (a10, .inl (cI, 200, .inl rsh))]) (ws' := [(w0, .inr (9, [.ref a1, .ref a2, .int (nI rdn), .int ((FX9_isMachine rmn mc).2), .int (nI rmn), .ref a3, .ref a4, .ref a5, .ref a6, .ref a7, .ref a8, .ref a9, .ref a10, .ref a11, .ref a12, .ref a13, .int (nI rpn), .int rre, .ref a14, .ref a15, .int (nI rrn), .ref a16, .int (nI rfn), .ref a17, .ref a18, .ref a19, .int (nI rkn), .ref a20, .ref a21, .int (nI rcn), .ref a22, .ref a23])), (a9, .inl (cI, 200, .inl rpa)), (a10, .inl (cI, 200, .inl rsh))]) (st1 := [.int ((FX9_isMachine rmn mc).1)]) (va_runV (As := [.int mc]) (rest := []) ⟨hx, hb, hml, hown, hts⟩ (kX9_isMachine l D cI cJ cZ w0 a1 a2 a3 a4 a5 a6 a7 a8 a9 a10 a11 a12 a13 a14 a15 a16 a17 a18 a19 a20 a21 a22 a23 rdn rfa rmn rpn rre rrn rfn rkn rcn mc _) (cwV 1 hts gX9_count_X9_isMachine rfl rfl rfl (by decide +kernel) ⟨Nat.le_of_ble_eq_true rfl, Nat.le_of_ble_eq_true rfl⟩) ⟨mP_blind, va_recv hK hP (ci := 9) (q0 := 0) rfl rfl, mP_pre (hP.sub [0] rfl) (hD.sub [0] (by decide) rfl) hK hN⟩ rfl rfl hl.1 rfl (lv_room (Nat.le_of_ble_eq_true rfl)) dX9_count_2 ⟨Nat.zero_le _, Nat.zero_le _⟩) hP hD hS hA [0] [1, 2] [2, 0, 1] rfl rfl (by decide) (by decide) (by decide) rfl rfl (fun H locs hP hD hS => ?_)
  refine lv_if_eq (tgt := 19) hx hb dX9_count_5 (by decide) (fun c_1 => ?_) (fun c_1 => ?_)
  · rw [if_pos c_1] at hE
    refine lv_ldc2 hx hb hown (hts (.constantLong RX9 168 (-1)) (by decide +kernel)) dX9_count_19 ?_
    subst hE
    exact W.lret hx hb hr (fun t ht hW => ⟨rfl, by rw [ht]; exact hP, hD, hS.F ht⟩) hS.2.2 dX9_count_22
  · rw [if_neg c_1] at hE
    refine lv_iload_n hx hb dX9_count_8 rfl (lv_at hl 2 rfl) ?_
    refine lv_i2l hx hb dX9_count_9 rfl ?_
    refine lv_ldc2 hx hb hown (hts (.constantLong RX9 125 7) (by decide +kernel)) dX9_count_10 ?_
    refine rd_call (va_runS (As := [.long sh.toInt64, .long 7]) (rest := []) ⟨hx, hb, hml, hown, hts⟩ (kX9_isIn l D cI cJ cZ sh.toInt64 7) (va_cwS 2 hts gX9_count_X9_isIn rfl rfl rfl (by decide +kernel) ⟨Nat.le_of_ble_eq_true rfl, Nat.le_of_ble_eq_true rfl⟩) ⟨rP_blind, rP_pre (va_P_nil) hK hN⟩ rfl rfl hl.1 rfl (lv_room (Nat.le_of_ble_eq_true rfl)) dX9_count_13 ⟨Nat.zero_le _, Nat.zero_le _⟩) ?_
    refine lv_if_ne (tgt := 23) hx hb dX9_count_16 (by decide) (fun c_2 => ?_) (fun c_2 => ?_)
    · rw [if_neg c_2] at hE
      refine lv_iconst (v := 0) hx hb dX9_count_23 (by decide) ?_
      refine lv_istore_n (lv' := [(3, .int 0), (0, .ref w0), (1, .int mc), (2, .int sh)]) hx hb dX9_count_24 rfl hl (by decide) rfl (fun ls hl => ?_)
      refine lv_iconst (v := 0) hx hb dX9_count_25 (by decide) ?_
      refine lv_istore (lv' := [(4, .int 0), (3, .int 0), (0, .ref w0), (1, .int mc), (2, .int sh)]) hx hb dX9_count_26 hl (by decide) rfl (fun ls hl => ?_)
      exact loop_28 (rpn + 1) 0 0 (by omega) (by omega) hE _ _ hP hD hS ls (lv_sub hl [0, 1, 2, 3, 4] rfl)
    · rw [if_pos c_2] at hE
      refine lv_ldc2 hx hb hown (hts (.constantLong RX9 168 (-1)) (by decide +kernel)) dX9_count_19 ?_
      subst hE
      exact W.lret hx hb hr (fun t ht hW => ⟨rfl, by rw [ht]; exact hP, hD, hS.F ht⟩) hS.2.2 dX9_count_22
def FX9_insert_l6 (rkn : Nat) (fi : Nat) (v : Int64) (pa : Int32) (pb : Int32) : Nat → Nat → (Nat → Int64) → (Nat → Int32) → (Nat → Int32) → (Nat → Int64) × (Nat → Int32) × (Nat → Int32) × Nat
  | 0, _, _, _, _ => (fun _ => 0, fun _ => 0, fun _ => 0, 0)
  | n + 1, pq, dzx, dax, dbx => if pq ≤ fi then (vp_updL dzx pq v, upd dax pq pa, upd dbx pq pb, rkn + 1) else (if (lg_cmp (dzx (pq - 1)) v) ≤ 0 then (vp_updL dzx pq v, upd dax pq pa, upd dbx pq pb, rkn + 1) else FX9_insert_l6 rkn fi v pa pb n (pq - 1) (vp_updL dzx pq (dzx (pq - 1))) (upd dax pq (dax (pq - 1))) (upd dbx pq (dbx (pq - 1))))
def FX9_insert (rkn : Nat) (rdz : Nat → Int64) (rdA : Nat → Int32) (rdB : Nat → Int32) (fi : Nat) (v : Int64) (pa : Int32) (pb : Int32) : (Nat → Int64) × (Nat → Int32) × (Nat → Int32) × Nat := FX9_insert_l6 rkn fi v pa pb (rkn + 1) rkn rdz rdA rdB
set_option maxHeartbeats 4000000 in
set_option maxRecDepth 100000 in
theorem kX9_insert (l : Launch) (D : va_G) (cI cJ cZ : ClassId) (w0 : Nat) (a1 : Nat) (a2 : Nat) (a3 : Nat) (a4 : Nat) (a5 : Nat) (a6 : Nat) (a7 : Nat) (a8 : Nat) (a9 : Nat) (a10 : Nat) (a11 : Nat) (a12 : Nat) (a13 : Nat) (a14 : Nat) (a15 : Nat) (a16 : Nat) (a17 : Nat) (a18 : Nat) (a19 : Nat) (a20 : Nat) (a21 : Nat) (a22 : Nat) (a23 : Nat) (rdn : Nat) (rfa : Int32) (rmn : Nat) (rpn : Nat) (rre : Int32) (rrn : Nat) (rfn : Nat) (rkn : Nat) (rcn : Nat) (rdz : Nat → Int64) (rdA : Nat → Int32) (rdB : Nat → Int32) (fi : Nat) (v : Int64) (pa : Int32) (pb : Int32) (sz : Nat) (hkn : rkn < 1100) (hfi : fi < 1100) : Met l yX9_insert wsX9_insert ({ frames := 0, cells := 0, slots := 0, locals := 0 }) (mP D (tz cI cJ cZ) [.ref w0, .int (nI fi), .long v, .int pa, .int pb] sz [(w0, .inr (9, [.ref a1, .ref a2, .int (nI rdn), .int rfa, .int (nI rmn), .ref a3, .ref a4, .ref a5, .ref a6, .ref a7, .ref a8, .ref a9, .ref a10, .ref a11, .ref a12, .ref a13, .int (nI rpn), .int rre, .ref a14, .ref a15, .int (nI rrn), .ref a16, .int (nI rfn), .ref a17, .ref a18, .ref a19, .int (nI rkn), .ref a20, .ref a21, .int (nI rcn), .ref a22, .ref a23])), (a17, .inl (cJ, 1100, .inr (.inl rdz))), (a18, .inl (cI, 1100, .inl rdA)), (a19, .inl (cI, 1100, .inl rdB))]) (mQ D none [(w0, .inr (9, [.ref a1, .ref a2, .int (nI rdn), .int rfa, .int (nI rmn), .ref a3, .ref a4, .ref a5, .ref a6, .ref a7, .ref a8, .ref a9, .ref a10, .ref a11, .ref a12, .ref a13, .int (nI rpn), .int rre, .ref a14, .ref a15, .int (nI rrn), .ref a16, .int (nI rfn), .ref a17, .ref a18, .ref a19, .int (nI ((FX9_insert rkn rdz rdA rdB fi v pa pb).2.2.2)), .ref a20, .ref a21, .int (nI rcn), .ref a22, .ref a23])), (a17, .inl (cJ, 1100, .inr (.inl ((FX9_insert rkn rdz rdA rdB fi v pa pb).1)))), (a18, .inl (cI, 1100, .inl ((FX9_insert rkn rdz rdA rdB fi v pa pb).2.1))), (a19, .inl (cI, 1100, .inl ((FX9_insert rkn rdz rdA rdB fi v pa pb).2.2.1)))] (va_A [(w0, .inr (9, [.ref a1, .ref a2, .int (nI rdn), .int rfa, .int (nI rmn), .ref a3, .ref a4, .ref a5, .ref a6, .ref a7, .ref a8, .ref a9, .ref a10, .ref a11, .ref a12, .ref a13, .int (nI rpn), .int rre, .ref a14, .ref a15, .int (nI rrn), .ref a16, .int (nI rfn), .ref a17, .ref a18, .ref a19, .int (nI rkn), .ref a20, .ref a21, .int (nI rcn), .ref a22, .ref a23])), (a17, .inl (cJ, 1100, .inr (.inl rdz))), (a18, .inl (cI, 1100, .inl rdA)), (a19, .inl (cI, 1100, .inl rdB))] sz)) 0 0 (va_A [(w0, .inr (9, [.ref a1, .ref a2, .int (nI rdn), .int rfa, .int (nI rmn), .ref a3, .ref a4, .ref a5, .ref a6, .ref a7, .ref a8, .ref a9, .ref a10, .ref a11, .ref a12, .ref a13, .int (nI rpn), .int rre, .ref a14, .ref a15, .int (nI rrn), .ref a16, .int (nI rfn), .ref a17, .ref a18, .ref a19, .int (nI rkn), .ref a20, .ref a21, .int (nI rcn), .ref a22, .ref a23])), (a17, .inl (cJ, 1100, .inr (.inl rdz))), (a18, .inl (cI, 1100, .inl rdA)), (a19, .inl (cI, 1100, .inl rdB))] sz) := by
  refine Met.ofW (cc := cX9_insert) (maxL := 7) (ret := none) (by decide) rfl ?_
  intro p e s m args below meth c s₁ B hml hv
  obtain ⟨rfl, hsz, hP, hK, hD0, hN⟩ := hv
  have hx := B.exec
  have hb := B.bytes
  have hr := B.returns
  have hts := atoms_spec (ws := wsX9_insert) B.pre
  have hown : s.vm.findClass RX9 = some m.cls := findClass_of_methodNamed B.named
  have hlocks := B.notSynchronized
  have iw_9 : ∀ w ∈ u_ws RX9 TX9 32, w ∈ wsX9_insert := by decide +kernel
  subst hsz
  have hD := hD0.self (sz := s.heap.size)
  generalize hE : FX9_insert rkn rdz rdA rdB fi v pa pb = R0
  generalize hAe : va_A [(w0, .inr (9, [.ref a1, .ref a2, .int (nI rdn), .int rfa, .int (nI rmn), .ref a3, .ref a4, .ref a5, .ref a6, .ref a7, .ref a8, .ref a9, .ref a10, .ref a11, .ref a12, .ref a13, .int (nI rpn), .int rre, .ref a14, .ref a15, .int (nI rrn), .ref a16, .int (nI rfn), .ref a17, .ref a18, .ref a19, .int (nI rkn), .ref a20, .ref a21, .int (nI rcn), .ref a22, .ref a23])), (a17, .inl (cJ, 1100, .inr (.inl rdz))), (a18, .inl (cI, 1100, .inl rdA)), (a19, .inl (cI, 1100, .inl rdB))] s.heap.size = A at hD ⊢
  have hA : ∀ q : Nat, s.heap.size ≤ q → A q := fun q h => by rw [← hAe]; exact Or.inr h
  have hS : va_S A s.heap s.heap [] := va_S.rf
  rw [FX9_insert] at hE
  have hl := lv_entry ([.ref w0, .int (nI fi), .long v, .int pa, .int pb]) (n := 7) (Nat.le_of_ble_eq_true rfl)
  rw [lg_entry_eq]
  generalize (lg_sl ([.ref w0, .int (nI fi), .long v, .int pa, .int pb]) ++ List.replicate (7 - (lg_sl ([.ref w0, .int (nI fi), .long v, .int pa, .int pb])).length) Slot.unset).toArray = ls at hl ⊢
  have hl : lv_has ls 7 [(0, .ref w0), (1, .int (nI fi)), (2, .long v), (4, .int pa), (5, .int pb)] := hl
  have loop_6 : ∀ (n : Nat) (pq : Nat) (dzx : Nat → Int64) (dax : Nat → Int32) (dbx : Nat → Int32), pq ≤ rkn → pq < n → FX9_insert_l6 rkn fi v pa pb n pq dzx dax dbx = R0 → ∀ (H : Heap) (locs : List Loc), va_P D vwCl [(w0, .inr (9, [.ref a1, .ref a2, .int (nI rdn), .int rfa, .int (nI rmn), .ref a3, .ref a4, .ref a5, .ref a6, .ref a7, .ref a8, .ref a9, .ref a10, .ref a11, .ref a12, .ref a13, .int (nI rpn), .int rre, .ref a14, .ref a15, .int (nI rrn), .ref a16, .int (nI rfn), .ref a17, .ref a18, .ref a19, .int (nI rkn), .ref a20, .ref a21, .int (nI rcn), .ref a22, .ref a23])), (a17, .inl (cJ, 1100, .inr (.inl dzx))), (a18, .inl (cI, 1100, .inl dax)), (a19, .inl (cI, 1100, .inl dbx))] H → va_D A [(w0, .inr (9, [.ref a1, .ref a2, .int (nI rdn), .int rfa, .int (nI rmn), .ref a3, .ref a4, .ref a5, .ref a6, .ref a7, .ref a8, .ref a9, .ref a10, .ref a11, .ref a12, .ref a13, .int (nI rpn), .int rre, .ref a14, .ref a15, .int (nI rrn), .ref a16, .int (nI rfn), .ref a17, .ref a18, .ref a19, .int (nI rkn), .ref a20, .ref a21, .int (nI rcn), .ref a22, .ref a23])), (a17, .inl (cJ, 1100, .inr (.inl dzx))), (a18, .inl (cI, 1100, .inl dax)), (a19, .inl (cI, 1100, .inl dbx))] → va_S A s.heap H locs → ∀ ls : Array Slot, lv_has ls 7 [(6, .int (nI pq)), (0, .ref w0), (1, .int (nI fi)), (2, .long v), (4, .int pa), (5, .int pb)] → W p l e (headSpec wsX9_insert ({ frames := 0, cells := 0, slots := 0, locals := 0 })).room s m ([.ref w0, .int (nI fi), .long v, .int pa, .int pb] : List Value).toArray below meth c H locs 0 0 (MQ below (mQ D none [(w0, .inr (9, [.ref a1, .ref a2, .int (nI rdn), .int rfa, .int (nI rmn), .ref a3, .ref a4, .ref a5, .ref a6, .ref a7, .ref a8, .ref a9, .ref a10, .ref a11, .ref a12, .ref a13, .int (nI rpn), .int rre, .ref a14, .ref a15, .int (nI rrn), .ref a16, .int (nI rfn), .ref a17, .ref a18, .ref a19, .int (nI R0.2.2.2), .ref a20, .ref a21, .int (nI rcn), .ref a22, .ref a23])), (a17, .inl (cJ, 1100, .inr (.inl R0.1))), (a18, .inl (cI, 1100, .inl R0.2.1)), (a19, .inl (cI, 1100, .inl R0.2.2.1))] A) ([.ref w0, .int (nI fi), .long v, .int pa, .int pb] : List Value).toArray s 0 0 A) (F0 m 6 ls []) := by
    intro n
    induction n with
    | zero =>
      intro pq dzx dax dbx i_1 i_2
      exact absurd i_1 (by omega)
    | succ n ih =>
      intro pq dzx dax dbx i_1 i_2 hE H locs hP hD hS ls hl
      rw [FX9_insert_l6] at hE
      refine lv_iload hx hb dX9_insert_6 (lv_at hl 0 rfl) ?_
      refine lv_iload_n hx hb dX9_insert_8 rfl (lv_at hl 2 rfl) ?_
      refine lv_icmp_le (tgt := 80) hx hb dX9_insert_9 (by decide) (fun c_1 => ?_) (fun c_1 => ?_)
      · have c_1 : pq ≤ fi := (nI_leI (a := pq) (b := fi) (by omega) (by omega)).mp c_1
        rw [if_pos c_1] at hE
        refine lv_aload_n hx hb dX9_insert_80 rfl (lv_at hl 1 rfl) ?_
        refine va_get (D := D) (ci := 9) (v := .ref a17) (C := RX9) (T := TX9) (N := 32) hx hb hts iw_9 hown hK hP 0 rfl rfl 23 (by decide) (hts (.fieldLink RX9 60 "DepositCodesModel" "doubles" "[J") (by decide +kernel)) (fun _ h9 => h9) rfl dX9_insert_81 ?_
        refine lv_iload hx hb dX9_insert_84 (lv_at hl 0 rfl) ?_
        refine lv_lload_n hx hb dX9_insert_86 rfl (lv_at hl 3 rfl) ?_
        refine na_last hx hb hK hP hD hS 1 1 rfl rfl (by omega) (by decide) dX9_insert_87 (fun H locs hP hD hS => ?_)
        have hP : va_P D vwCl [(w0, .inr (9, [.ref a1, .ref a2, .int (nI rdn), .int rfa, .int (nI rmn), .ref a3, .ref a4, .ref a5, .ref a6, .ref a7, .ref a8, .ref a9, .ref a10, .ref a11, .ref a12, .ref a13, .int (nI rpn), .int rre, .ref a14, .ref a15, .int (nI rrn), .ref a16, .int (nI rfn), .ref a17, .ref a18, .ref a19, .int (nI rkn), .ref a20, .ref a21, .int (nI rcn), .ref a22, .ref a23])), (a17, .inl (cJ, 1100, .inr (.inl (vp_updL dzx pq v)))), (a18, .inl (cI, 1100, .inl dax)), (a19, .inl (cI, 1100, .inl dbx))] H := hP
        have hD : va_D A [(w0, .inr (9, [.ref a1, .ref a2, .int (nI rdn), .int rfa, .int (nI rmn), .ref a3, .ref a4, .ref a5, .ref a6, .ref a7, .ref a8, .ref a9, .ref a10, .ref a11, .ref a12, .ref a13, .int (nI rpn), .int rre, .ref a14, .ref a15, .int (nI rrn), .ref a16, .int (nI rfn), .ref a17, .ref a18, .ref a19, .int (nI rkn), .ref a20, .ref a21, .int (nI rcn), .ref a22, .ref a23])), (a17, .inl (cJ, 1100, .inr (.inl (vp_updL dzx pq v)))), (a18, .inl (cI, 1100, .inl dax)), (a19, .inl (cI, 1100, .inl dbx))] := hD
        refine lv_aload_n hx hb dX9_insert_88 rfl (lv_at hl 1 rfl) ?_
        refine va_get (D := D) (ci := 9) (v := .ref a18) (C := RX9) (T := TX9) (N := 32) hx hb hts iw_9 hown hK hP 0 rfl rfl 24 (by decide) (hts (.fieldLink RX9 63 "DepositCodesModel" "doubleA" "[I") (by decide +kernel)) (fun _ h9 => h9) rfl dX9_insert_89 ?_
        refine lv_iload hx hb dX9_insert_92 (lv_at hl 0 rfl) ?_
        refine lv_iload hx hb dX9_insert_94 (lv_at hl 4 rfl) ?_
        refine na_iast hx hb hK hP hD hS 2 0 rfl rfl (by omega) (by decide) dX9_insert_96 (fun H locs hP hD hS => ?_)
        have hP : va_P D vwCl [(w0, .inr (9, [.ref a1, .ref a2, .int (nI rdn), .int rfa, .int (nI rmn), .ref a3, .ref a4, .ref a5, .ref a6, .ref a7, .ref a8, .ref a9, .ref a10, .ref a11, .ref a12, .ref a13, .int (nI rpn), .int rre, .ref a14, .ref a15, .int (nI rrn), .ref a16, .int (nI rfn), .ref a17, .ref a18, .ref a19, .int (nI rkn), .ref a20, .ref a21, .int (nI rcn), .ref a22, .ref a23])), (a17, .inl (cJ, 1100, .inr (.inl (vp_updL dzx pq v)))), (a18, .inl (cI, 1100, .inl (upd dax pq pa))), (a19, .inl (cI, 1100, .inl dbx))] H := hP
        have hD : va_D A [(w0, .inr (9, [.ref a1, .ref a2, .int (nI rdn), .int rfa, .int (nI rmn), .ref a3, .ref a4, .ref a5, .ref a6, .ref a7, .ref a8, .ref a9, .ref a10, .ref a11, .ref a12, .ref a13, .int (nI rpn), .int rre, .ref a14, .ref a15, .int (nI rrn), .ref a16, .int (nI rfn), .ref a17, .ref a18, .ref a19, .int (nI rkn), .ref a20, .ref a21, .int (nI rcn), .ref a22, .ref a23])), (a17, .inl (cJ, 1100, .inr (.inl (vp_updL dzx pq v)))), (a18, .inl (cI, 1100, .inl (upd dax pq pa))), (a19, .inl (cI, 1100, .inl dbx))] := hD
        refine lv_aload_n hx hb dX9_insert_97 rfl (lv_at hl 1 rfl) ?_
        refine va_get (D := D) (ci := 9) (v := .ref a19) (C := RX9) (T := TX9) (N := 32) hx hb hts iw_9 hown hK hP 0 rfl rfl 25 (by decide) (hts (.fieldLink RX9 66 "DepositCodesModel" "doubleB" "[I") (by decide +kernel)) (fun _ h9 => h9) rfl dX9_insert_98 ?_
        refine lv_iload hx hb dX9_insert_101 (lv_at hl 0 rfl) ?_
        refine lv_iload hx hb dX9_insert_103 (lv_at hl 5 rfl) ?_
        refine na_iast hx hb hK hP hD hS 3 0 rfl rfl (by omega) (by decide) dX9_insert_105 (fun H locs hP hD hS => ?_)
        have hP : va_P D vwCl [(w0, .inr (9, [.ref a1, .ref a2, .int (nI rdn), .int rfa, .int (nI rmn), .ref a3, .ref a4, .ref a5, .ref a6, .ref a7, .ref a8, .ref a9, .ref a10, .ref a11, .ref a12, .ref a13, .int (nI rpn), .int rre, .ref a14, .ref a15, .int (nI rrn), .ref a16, .int (nI rfn), .ref a17, .ref a18, .ref a19, .int (nI rkn), .ref a20, .ref a21, .int (nI rcn), .ref a22, .ref a23])), (a17, .inl (cJ, 1100, .inr (.inl (vp_updL dzx pq v)))), (a18, .inl (cI, 1100, .inl (upd dax pq pa))), (a19, .inl (cI, 1100, .inl (upd dbx pq pb)))] H := hP
        have hD : va_D A [(w0, .inr (9, [.ref a1, .ref a2, .int (nI rdn), .int rfa, .int (nI rmn), .ref a3, .ref a4, .ref a5, .ref a6, .ref a7, .ref a8, .ref a9, .ref a10, .ref a11, .ref a12, .ref a13, .int (nI rpn), .int rre, .ref a14, .ref a15, .int (nI rrn), .ref a16, .int (nI rfn), .ref a17, .ref a18, .ref a19, .int (nI rkn), .ref a20, .ref a21, .int (nI rcn), .ref a22, .ref a23])), (a17, .inl (cJ, 1100, .inr (.inl (vp_updL dzx pq v)))), (a18, .inl (cI, 1100, .inl (upd dax pq pa))), (a19, .inl (cI, 1100, .inl (upd dbx pq pb)))] := hD
        refine lv_aload_n hx hb dX9_insert_106 rfl (lv_at hl 1 rfl) ?_
        refine lv_dup hx hb dX9_insert_107 rfl ?_
        refine va_get (D := D) (ci := 9) (v := .int (nI rkn)) (C := RX9) (T := TX9) (N := 32) hx hb hts iw_9 hown hK hP 0 rfl rfl 26 (by decide) (hts (.fieldLink RX9 170 "DepositCodesModel" "doubleCount" "I") (by decide +kernel)) (fun _ h9 => h9) rfl dX9_insert_108 ?_
        refine lv_iconst (v := 1) hx hb dX9_insert_111 (by decide) ?_
        refine lv_iadd hx hb dX9_insert_112 ?_
        refine na_top (show (nI rkn) + 1 = nI (rkn + 1) from nI_add rkn 1) ?_
        refine va_put (D := D) (ci := 9) (v := .int (nI (rkn + 1))) (ty := .int) (C := RX9) (T := TX9) (N := 32) hx hb hts iw_9 tyX9 tyX9_ok nmX9 hown hK hP hD hS 0 rfl rfl 26 (by decide) (hts (.fieldLink RX9 170 "DepositCodesModel" "doubleCount" "I") (by decide +kernel)) (fun _ h9 => h9) rfl (by decide +kernel) rfl rfl (Nat.le_of_ble_eq_true rfl) dX9_insert_113 (fun H locs hP hD hS => ?_)
        have hP : va_P D vwCl [(w0, .inr (9, [.ref a1, .ref a2, .int (nI rdn), .int rfa, .int (nI rmn), .ref a3, .ref a4, .ref a5, .ref a6, .ref a7, .ref a8, .ref a9, .ref a10, .ref a11, .ref a12, .ref a13, .int (nI rpn), .int rre, .ref a14, .ref a15, .int (nI rrn), .ref a16, .int (nI rfn), .ref a17, .ref a18, .ref a19, .int (nI (rkn + 1)), .ref a20, .ref a21, .int (nI rcn), .ref a22, .ref a23])), (a17, .inl (cJ, 1100, .inr (.inl (vp_updL dzx pq v)))), (a18, .inl (cI, 1100, .inl (upd dax pq pa))), (a19, .inl (cI, 1100, .inl (upd dbx pq pb)))] H := hP
        have hD : va_D A [(w0, .inr (9, [.ref a1, .ref a2, .int (nI rdn), .int rfa, .int (nI rmn), .ref a3, .ref a4, .ref a5, .ref a6, .ref a7, .ref a8, .ref a9, .ref a10, .ref a11, .ref a12, .ref a13, .int (nI rpn), .int rre, .ref a14, .ref a15, .int (nI rrn), .ref a16, .int (nI rfn), .ref a17, .ref a18, .ref a19, .int (nI (rkn + 1)), .ref a20, .ref a21, .int (nI rcn), .ref a22, .ref a23])), (a17, .inl (cJ, 1100, .inr (.inl (vp_updL dzx pq v)))), (a18, .inl (cI, 1100, .inl (upd dax pq pa))), (a19, .inl (cI, 1100, .inl (upd dbx pq pb)))] := hD
        subst hE
        exact W.vret hx hb hr (fun t ht hW => ⟨rfl, by rw [ht]; exact hP, hD, hS.F ht⟩) hS.2.2 dX9_insert_116
      · have c_1 : ¬ pq ≤ fi := fun h9 => c_1 ((nI_leI (a := pq) (b := fi) (by omega) (by omega)).mpr h9)
        rw [if_neg c_1] at hE
        refine lv_aload_n hx hb dX9_insert_12 rfl (lv_at hl 1 rfl) ?_
        refine va_get (D := D) (ci := 9) (v := .ref a17) (C := RX9) (T := TX9) (N := 32) hx hb hts iw_9 hown hK hP 0 rfl rfl 23 (by decide) (hts (.fieldLink RX9 60 "DepositCodesModel" "doubles" "[J") (by decide +kernel)) (fun _ h9 => h9) rfl dX9_insert_13 ?_
        refine lv_iload hx hb dX9_insert_16 (lv_at hl 0 rfl) ?_
        refine lv_iconst (v := 1) hx hb dX9_insert_18 (by decide) ?_
        refine lv_isub hx hb dX9_insert_19 ?_
        refine na_top (show (nI pq) - 1 = nI (pq - 1) from pk_sub (a := pq) (b := 1) (by omega)) ?_
        refine na_lald hx hb hK hP 1 1 rfl rfl (by omega) (by decide) dX9_insert_20 ?_
        refine lv_lload_n hx hb dX9_insert_21 rfl (lv_at hl 3 rfl) ?_
        refine W.lcmp hx hb dX9_insert_22 ?_
        refine lv_if_le (tgt := 80) hx hb dX9_insert_23 (by decide) (fun c_2 => ?_) (fun c_2 => ?_)
        · rw [if_pos c_2] at hE
          refine lv_aload_n hx hb dX9_insert_80 rfl (lv_at hl 1 rfl) ?_
          refine va_get (D := D) (ci := 9) (v := .ref a17) (C := RX9) (T := TX9) (N := 32) hx hb hts iw_9 hown hK hP 0 rfl rfl 23 (by decide) (hts (.fieldLink RX9 60 "DepositCodesModel" "doubles" "[J") (by decide +kernel)) (fun _ h9 => h9) rfl dX9_insert_81 ?_
          refine lv_iload hx hb dX9_insert_84 (lv_at hl 0 rfl) ?_
          refine lv_lload_n hx hb dX9_insert_86 rfl (lv_at hl 3 rfl) ?_
          refine na_last hx hb hK hP hD hS 1 1 rfl rfl (by omega) (by decide) dX9_insert_87 (fun H locs hP hD hS => ?_)
          have hP : va_P D vwCl [(w0, .inr (9, [.ref a1, .ref a2, .int (nI rdn), .int rfa, .int (nI rmn), .ref a3, .ref a4, .ref a5, .ref a6, .ref a7, .ref a8, .ref a9, .ref a10, .ref a11, .ref a12, .ref a13, .int (nI rpn), .int rre, .ref a14, .ref a15, .int (nI rrn), .ref a16, .int (nI rfn), .ref a17, .ref a18, .ref a19, .int (nI rkn), .ref a20, .ref a21, .int (nI rcn), .ref a22, .ref a23])), (a17, .inl (cJ, 1100, .inr (.inl (vp_updL dzx pq v)))), (a18, .inl (cI, 1100, .inl dax)), (a19, .inl (cI, 1100, .inl dbx))] H := hP
          have hD : va_D A [(w0, .inr (9, [.ref a1, .ref a2, .int (nI rdn), .int rfa, .int (nI rmn), .ref a3, .ref a4, .ref a5, .ref a6, .ref a7, .ref a8, .ref a9, .ref a10, .ref a11, .ref a12, .ref a13, .int (nI rpn), .int rre, .ref a14, .ref a15, .int (nI rrn), .ref a16, .int (nI rfn), .ref a17, .ref a18, .ref a19, .int (nI rkn), .ref a20, .ref a21, .int (nI rcn), .ref a22, .ref a23])), (a17, .inl (cJ, 1100, .inr (.inl (vp_updL dzx pq v)))), (a18, .inl (cI, 1100, .inl dax)), (a19, .inl (cI, 1100, .inl dbx))] := hD
          refine lv_aload_n hx hb dX9_insert_88 rfl (lv_at hl 1 rfl) ?_
          refine va_get (D := D) (ci := 9) (v := .ref a18) (C := RX9) (T := TX9) (N := 32) hx hb hts iw_9 hown hK hP 0 rfl rfl 24 (by decide) (hts (.fieldLink RX9 63 "DepositCodesModel" "doubleA" "[I") (by decide +kernel)) (fun _ h9 => h9) rfl dX9_insert_89 ?_
          refine lv_iload hx hb dX9_insert_92 (lv_at hl 0 rfl) ?_
          refine lv_iload hx hb dX9_insert_94 (lv_at hl 4 rfl) ?_
          refine na_iast hx hb hK hP hD hS 2 0 rfl rfl (by omega) (by decide) dX9_insert_96 (fun H locs hP hD hS => ?_)
          have hP : va_P D vwCl [(w0, .inr (9, [.ref a1, .ref a2, .int (nI rdn), .int rfa, .int (nI rmn), .ref a3, .ref a4, .ref a5, .ref a6, .ref a7, .ref a8, .ref a9, .ref a10, .ref a11, .ref a12, .ref a13, .int (nI rpn), .int rre, .ref a14, .ref a15, .int (nI rrn), .ref a16, .int (nI rfn), .ref a17, .ref a18, .ref a19, .int (nI rkn), .ref a20, .ref a21, .int (nI rcn), .ref a22, .ref a23])), (a17, .inl (cJ, 1100, .inr (.inl (vp_updL dzx pq v)))), (a18, .inl (cI, 1100, .inl (upd dax pq pa))), (a19, .inl (cI, 1100, .inl dbx))] H := hP
          have hD : va_D A [(w0, .inr (9, [.ref a1, .ref a2, .int (nI rdn), .int rfa, .int (nI rmn), .ref a3, .ref a4, .ref a5, .ref a6, .ref a7, .ref a8, .ref a9, .ref a10, .ref a11, .ref a12, .ref a13, .int (nI rpn), .int rre, .ref a14, .ref a15, .int (nI rrn), .ref a16, .int (nI rfn), .ref a17, .ref a18, .ref a19, .int (nI rkn), .ref a20, .ref a21, .int (nI rcn), .ref a22, .ref a23])), (a17, .inl (cJ, 1100, .inr (.inl (vp_updL dzx pq v)))), (a18, .inl (cI, 1100, .inl (upd dax pq pa))), (a19, .inl (cI, 1100, .inl dbx))] := hD
          refine lv_aload_n hx hb dX9_insert_97 rfl (lv_at hl 1 rfl) ?_
          refine va_get (D := D) (ci := 9) (v := .ref a19) (C := RX9) (T := TX9) (N := 32) hx hb hts iw_9 hown hK hP 0 rfl rfl 25 (by decide) (hts (.fieldLink RX9 66 "DepositCodesModel" "doubleB" "[I") (by decide +kernel)) (fun _ h9 => h9) rfl dX9_insert_98 ?_
          refine lv_iload hx hb dX9_insert_101 (lv_at hl 0 rfl) ?_
          refine lv_iload hx hb dX9_insert_103 (lv_at hl 5 rfl) ?_
          refine na_iast hx hb hK hP hD hS 3 0 rfl rfl (by omega) (by decide) dX9_insert_105 (fun H locs hP hD hS => ?_)
          have hP : va_P D vwCl [(w0, .inr (9, [.ref a1, .ref a2, .int (nI rdn), .int rfa, .int (nI rmn), .ref a3, .ref a4, .ref a5, .ref a6, .ref a7, .ref a8, .ref a9, .ref a10, .ref a11, .ref a12, .ref a13, .int (nI rpn), .int rre, .ref a14, .ref a15, .int (nI rrn), .ref a16, .int (nI rfn), .ref a17, .ref a18, .ref a19, .int (nI rkn), .ref a20, .ref a21, .int (nI rcn), .ref a22, .ref a23])), (a17, .inl (cJ, 1100, .inr (.inl (vp_updL dzx pq v)))), (a18, .inl (cI, 1100, .inl (upd dax pq pa))), (a19, .inl (cI, 1100, .inl (upd dbx pq pb)))] H := hP
          have hD : va_D A [(w0, .inr (9, [.ref a1, .ref a2, .int (nI rdn), .int rfa, .int (nI rmn), .ref a3, .ref a4, .ref a5, .ref a6, .ref a7, .ref a8, .ref a9, .ref a10, .ref a11, .ref a12, .ref a13, .int (nI rpn), .int rre, .ref a14, .ref a15, .int (nI rrn), .ref a16, .int (nI rfn), .ref a17, .ref a18, .ref a19, .int (nI rkn), .ref a20, .ref a21, .int (nI rcn), .ref a22, .ref a23])), (a17, .inl (cJ, 1100, .inr (.inl (vp_updL dzx pq v)))), (a18, .inl (cI, 1100, .inl (upd dax pq pa))), (a19, .inl (cI, 1100, .inl (upd dbx pq pb)))] := hD
          refine lv_aload_n hx hb dX9_insert_106 rfl (lv_at hl 1 rfl) ?_
          refine lv_dup hx hb dX9_insert_107 rfl ?_
          refine va_get (D := D) (ci := 9) (v := .int (nI rkn)) (C := RX9) (T := TX9) (N := 32) hx hb hts iw_9 hown hK hP 0 rfl rfl 26 (by decide) (hts (.fieldLink RX9 170 "DepositCodesModel" "doubleCount" "I") (by decide +kernel)) (fun _ h9 => h9) rfl dX9_insert_108 ?_
          refine lv_iconst (v := 1) hx hb dX9_insert_111 (by decide) ?_
          refine lv_iadd hx hb dX9_insert_112 ?_
          refine na_top (show (nI rkn) + 1 = nI (rkn + 1) from nI_add rkn 1) ?_
          refine va_put (D := D) (ci := 9) (v := .int (nI (rkn + 1))) (ty := .int) (C := RX9) (T := TX9) (N := 32) hx hb hts iw_9 tyX9 tyX9_ok nmX9 hown hK hP hD hS 0 rfl rfl 26 (by decide) (hts (.fieldLink RX9 170 "DepositCodesModel" "doubleCount" "I") (by decide +kernel)) (fun _ h9 => h9) rfl (by decide +kernel) rfl rfl (Nat.le_of_ble_eq_true rfl) dX9_insert_113 (fun H locs hP hD hS => ?_)
          have hP : va_P D vwCl [(w0, .inr (9, [.ref a1, .ref a2, .int (nI rdn), .int rfa, .int (nI rmn), .ref a3, .ref a4, .ref a5, .ref a6, .ref a7, .ref a8, .ref a9, .ref a10, .ref a11, .ref a12, .ref a13, .int (nI rpn), .int rre, .ref a14, .ref a15, .int (nI rrn), .ref a16, .int (nI rfn), .ref a17, .ref a18, .ref a19, .int (nI (rkn + 1)), .ref a20, .ref a21, .int (nI rcn), .ref a22, .ref a23])), (a17, .inl (cJ, 1100, .inr (.inl (vp_updL dzx pq v)))), (a18, .inl (cI, 1100, .inl (upd dax pq pa))), (a19, .inl (cI, 1100, .inl (upd dbx pq pb)))] H := hP
          have hD : va_D A [(w0, .inr (9, [.ref a1, .ref a2, .int (nI rdn), .int rfa, .int (nI rmn), .ref a3, .ref a4, .ref a5, .ref a6, .ref a7, .ref a8, .ref a9, .ref a10, .ref a11, .ref a12, .ref a13, .int (nI rpn), .int rre, .ref a14, .ref a15, .int (nI rrn), .ref a16, .int (nI rfn), .ref a17, .ref a18, .ref a19, .int (nI (rkn + 1)), .ref a20, .ref a21, .int (nI rcn), .ref a22, .ref a23])), (a17, .inl (cJ, 1100, .inr (.inl (vp_updL dzx pq v)))), (a18, .inl (cI, 1100, .inl (upd dax pq pa))), (a19, .inl (cI, 1100, .inl (upd dbx pq pb)))] := hD
          subst hE
          exact W.vret hx hb hr (fun t ht hW => ⟨rfl, by rw [ht]; exact hP, hD, hS.F ht⟩) hS.2.2 dX9_insert_116
        · rw [if_neg c_2] at hE
          refine lv_aload_n hx hb dX9_insert_26 rfl (lv_at hl 1 rfl) ?_
          refine va_get (D := D) (ci := 9) (v := .ref a17) (C := RX9) (T := TX9) (N := 32) hx hb hts iw_9 hown hK hP 0 rfl rfl 23 (by decide) (hts (.fieldLink RX9 60 "DepositCodesModel" "doubles" "[J") (by decide +kernel)) (fun _ h9 => h9) rfl dX9_insert_27 ?_
          refine lv_iload hx hb dX9_insert_30 (lv_at hl 0 rfl) ?_
          refine lv_aload_n hx hb dX9_insert_32 rfl (lv_at hl 1 rfl) ?_
          refine va_get (D := D) (ci := 9) (v := .ref a17) (C := RX9) (T := TX9) (N := 32) hx hb hts iw_9 hown hK hP 0 rfl rfl 23 (by decide) (hts (.fieldLink RX9 60 "DepositCodesModel" "doubles" "[J") (by decide +kernel)) (fun _ h9 => h9) rfl dX9_insert_33 ?_
          refine lv_iload hx hb dX9_insert_36 (lv_at hl 0 rfl) ?_
          refine lv_iconst (v := 1) hx hb dX9_insert_38 (by decide) ?_
          refine lv_isub hx hb dX9_insert_39 ?_
          refine na_top (show (nI pq) - 1 = nI (pq - 1) from pk_sub (a := pq) (b := 1) (by omega)) ?_
          refine na_lald hx hb hK hP 1 1 rfl rfl (by omega) (by decide) dX9_insert_40 ?_
          refine na_last hx hb hK hP hD hS 1 1 rfl rfl (by omega) (by decide) dX9_insert_41 (fun H locs hP hD hS => ?_)
          have hP : va_P D vwCl [(w0, .inr (9, [.ref a1, .ref a2, .int (nI rdn), .int rfa, .int (nI rmn), .ref a3, .ref a4, .ref a5, .ref a6, .ref a7, .ref a8, .ref a9, .ref a10, .ref a11, .ref a12, .ref a13, .int (nI rpn), .int rre, .ref a14, .ref a15, .int (nI rrn), .ref a16, .int (nI rfn), .ref a17, .ref a18, .ref a19, .int (nI rkn), .ref a20, .ref a21, .int (nI rcn), .ref a22, .ref a23])), (a17, .inl (cJ, 1100, .inr (.inl (vp_updL dzx pq (dzx (pq - 1)))))), (a18, .inl (cI, 1100, .inl dax)), (a19, .inl (cI, 1100, .inl dbx))] H := hP
          have hD : va_D A [(w0, .inr (9, [.ref a1, .ref a2, .int (nI rdn), .int rfa, .int (nI rmn), .ref a3, .ref a4, .ref a5, .ref a6, .ref a7, .ref a8, .ref a9, .ref a10, .ref a11, .ref a12, .ref a13, .int (nI rpn), .int rre, .ref a14, .ref a15, .int (nI rrn), .ref a16, .int (nI rfn), .ref a17, .ref a18, .ref a19, .int (nI rkn), .ref a20, .ref a21, .int (nI rcn), .ref a22, .ref a23])), (a17, .inl (cJ, 1100, .inr (.inl (vp_updL dzx pq (dzx (pq - 1)))))), (a18, .inl (cI, 1100, .inl dax)), (a19, .inl (cI, 1100, .inl dbx))] := hD
          refine lv_aload_n hx hb dX9_insert_42 rfl (lv_at hl 1 rfl) ?_
          refine va_get (D := D) (ci := 9) (v := .ref a18) (C := RX9) (T := TX9) (N := 32) hx hb hts iw_9 hown hK hP 0 rfl rfl 24 (by decide) (hts (.fieldLink RX9 63 "DepositCodesModel" "doubleA" "[I") (by decide +kernel)) (fun _ h9 => h9) rfl dX9_insert_43 ?_
          refine lv_iload hx hb dX9_insert_46 (lv_at hl 0 rfl) ?_
          refine lv_aload_n hx hb dX9_insert_48 rfl (lv_at hl 1 rfl) ?_
          refine va_get (D := D) (ci := 9) (v := .ref a18) (C := RX9) (T := TX9) (N := 32) hx hb hts iw_9 hown hK hP 0 rfl rfl 24 (by decide) (hts (.fieldLink RX9 63 "DepositCodesModel" "doubleA" "[I") (by decide +kernel)) (fun _ h9 => h9) rfl dX9_insert_49 ?_
          refine lv_iload hx hb dX9_insert_52 (lv_at hl 0 rfl) ?_
          refine lv_iconst (v := 1) hx hb dX9_insert_54 (by decide) ?_
          refine lv_isub hx hb dX9_insert_55 ?_
          refine na_top (show (nI pq) - 1 = nI (pq - 1) from pk_sub (a := pq) (b := 1) (by omega)) ?_
          refine na_iald hx hb hK hP 2 0 rfl rfl (by omega) (by decide) dX9_insert_56 ?_
          refine na_iast hx hb hK hP hD hS 2 0 rfl rfl (by omega) (by decide) dX9_insert_57 (fun H locs hP hD hS => ?_)
          have hP : va_P D vwCl [(w0, .inr (9, [.ref a1, .ref a2, .int (nI rdn), .int rfa, .int (nI rmn), .ref a3, .ref a4, .ref a5, .ref a6, .ref a7, .ref a8, .ref a9, .ref a10, .ref a11, .ref a12, .ref a13, .int (nI rpn), .int rre, .ref a14, .ref a15, .int (nI rrn), .ref a16, .int (nI rfn), .ref a17, .ref a18, .ref a19, .int (nI rkn), .ref a20, .ref a21, .int (nI rcn), .ref a22, .ref a23])), (a17, .inl (cJ, 1100, .inr (.inl (vp_updL dzx pq (dzx (pq - 1)))))), (a18, .inl (cI, 1100, .inl (upd dax pq (dax (pq - 1))))), (a19, .inl (cI, 1100, .inl dbx))] H := hP
          have hD : va_D A [(w0, .inr (9, [.ref a1, .ref a2, .int (nI rdn), .int rfa, .int (nI rmn), .ref a3, .ref a4, .ref a5, .ref a6, .ref a7, .ref a8, .ref a9, .ref a10, .ref a11, .ref a12, .ref a13, .int (nI rpn), .int rre, .ref a14, .ref a15, .int (nI rrn), .ref a16, .int (nI rfn), .ref a17, .ref a18, .ref a19, .int (nI rkn), .ref a20, .ref a21, .int (nI rcn), .ref a22, .ref a23])), (a17, .inl (cJ, 1100, .inr (.inl (vp_updL dzx pq (dzx (pq - 1)))))), (a18, .inl (cI, 1100, .inl (upd dax pq (dax (pq - 1))))), (a19, .inl (cI, 1100, .inl dbx))] := hD
          refine lv_aload_n hx hb dX9_insert_58 rfl (lv_at hl 1 rfl) ?_
          refine va_get (D := D) (ci := 9) (v := .ref a19) (C := RX9) (T := TX9) (N := 32) hx hb hts iw_9 hown hK hP 0 rfl rfl 25 (by decide) (hts (.fieldLink RX9 66 "DepositCodesModel" "doubleB" "[I") (by decide +kernel)) (fun _ h9 => h9) rfl dX9_insert_59 ?_
          refine lv_iload hx hb dX9_insert_62 (lv_at hl 0 rfl) ?_
          refine lv_aload_n hx hb dX9_insert_64 rfl (lv_at hl 1 rfl) ?_
          refine va_get (D := D) (ci := 9) (v := .ref a19) (C := RX9) (T := TX9) (N := 32) hx hb hts iw_9 hown hK hP 0 rfl rfl 25 (by decide) (hts (.fieldLink RX9 66 "DepositCodesModel" "doubleB" "[I") (by decide +kernel)) (fun _ h9 => h9) rfl dX9_insert_65 ?_
          refine lv_iload hx hb dX9_insert_68 (lv_at hl 0 rfl) ?_
          refine lv_iconst (v := 1) hx hb dX9_insert_70 (by decide) ?_
          refine lv_isub hx hb dX9_insert_71 ?_
          refine na_top (show (nI pq) - 1 = nI (pq - 1) from pk_sub (a := pq) (b := 1) (by omega)) ?_
          refine na_iald hx hb hK hP 3 0 rfl rfl (by omega) (by decide) dX9_insert_72 ?_
          refine na_iast hx hb hK hP hD hS 3 0 rfl rfl (by omega) (by decide) dX9_insert_73 (fun H locs hP hD hS => ?_)
          have hP : va_P D vwCl [(w0, .inr (9, [.ref a1, .ref a2, .int (nI rdn), .int rfa, .int (nI rmn), .ref a3, .ref a4, .ref a5, .ref a6, .ref a7, .ref a8, .ref a9, .ref a10, .ref a11, .ref a12, .ref a13, .int (nI rpn), .int rre, .ref a14, .ref a15, .int (nI rrn), .ref a16, .int (nI rfn), .ref a17, .ref a18, .ref a19, .int (nI rkn), .ref a20, .ref a21, .int (nI rcn), .ref a22, .ref a23])), (a17, .inl (cJ, 1100, .inr (.inl (vp_updL dzx pq (dzx (pq - 1)))))), (a18, .inl (cI, 1100, .inl (upd dax pq (dax (pq - 1))))), (a19, .inl (cI, 1100, .inl (upd dbx pq (dbx (pq - 1)))))] H := hP
          have hD : va_D A [(w0, .inr (9, [.ref a1, .ref a2, .int (nI rdn), .int rfa, .int (nI rmn), .ref a3, .ref a4, .ref a5, .ref a6, .ref a7, .ref a8, .ref a9, .ref a10, .ref a11, .ref a12, .ref a13, .int (nI rpn), .int rre, .ref a14, .ref a15, .int (nI rrn), .ref a16, .int (nI rfn), .ref a17, .ref a18, .ref a19, .int (nI rkn), .ref a20, .ref a21, .int (nI rcn), .ref a22, .ref a23])), (a17, .inl (cJ, 1100, .inr (.inl (vp_updL dzx pq (dzx (pq - 1)))))), (a18, .inl (cI, 1100, .inl (upd dax pq (dax (pq - 1))))), (a19, .inl (cI, 1100, .inl (upd dbx pq (dbx (pq - 1)))))] := hD
          refine lv_iinc (v := nI (pq - 1)) (lv' := [(6, .int (nI (pq - 1))), (0, .ref w0), (1, .int (nI fi)), (2, .long v), (4, .int pa), (5, .int pb)]) hx hb dX9_insert_74 hl (k := 0) rfl (sb_m1 (p := pq) (by omega)) (by decide) rfl (fun ls hl => ?_)
          refine lv_goto (tgt := 6) hx hb dX9_insert_77 (by decide) ?_
          exact ih (pq - 1) (vp_updL dzx pq (dzx (pq - 1))) (upd dax pq (dax (pq - 1))) (upd dbx pq (dbx (pq - 1))) (by omega) (by omega) hE _ _ hP hD hS ls (lv_sub hl [0, 1, 2, 3, 4, 5] rfl)
  refine lv_aload_n hx hb dX9_insert_0 rfl (lv_at hl 0 rfl) ?_
  refine va_get (D := D) (ci := 9) (v := .int (nI rkn)) (C := RX9) (T := TX9) (N := 32) hx hb hts iw_9 hown hK hP 0 rfl rfl 26 (by decide) (hts (.fieldLink RX9 170 "DepositCodesModel" "doubleCount" "I") (by decide +kernel)) (fun _ h9 => h9) rfl dX9_insert_1 ?_
  refine lv_istore (lv' := [(6, .int (nI rkn)), (0, .ref w0), (1, .int (nI fi)), (2, .long v), (4, .int pa), (5, .int pb)]) hx hb dX9_insert_4 hl (by decide) rfl (fun ls hl => ?_)
  exact loop_6 (rkn + 1) rkn rdz rdA rdB (by omega) (by omega) hE _ _ hP hD hS ls (lv_sub hl [0, 1, 2, 3, 4, 5] rfl)
def FX9_decimals_l4 : Nat → Nat → Int64 → Nat
  | 0, _, _ => 0
  | n + 1, k, r => if (lg_cmp r 9) ≤ 0 then k else FX9_decimals_l4 n (k + 1) (r / 10)
def FX9_decimals (v : Int64) : Nat := FX9_decimals_l4 19 1 v
set_option maxHeartbeats 4000000 in
set_option maxRecDepth 100000 in
theorem kX9_decimals (l : Launch) (D : va_G) (cI cJ cZ : ClassId) (v : Int64) : Met l yX9_decimals wsX9_decimals ({ frames := 0, cells := 0, slots := 0, locals := 0 }) (rP D (tz cI cJ cZ) [.long v] []) (k2_QcV (.int (nI (FX9_decimals v)))) 0 0 (fun _ => False) := by
  refine Met.ofW (cc := cX9_decimals) (maxL := 5) (ret := (some .int)) (by decide) rfl ?_
  intro p e s m args below meth c s₁ B hml hv
  obtain ⟨rfl, hP, hK, hN⟩ := hv
  have hx := B.exec
  have hb := B.bytes
  have hr := B.returns
  have hts := atoms_spec (ws := wsX9_decimals) B.pre
  have hown : s.vm.findClass RX9 = some m.cls := findClass_of_methodNamed B.named
  have hlocks := B.notSynchronized
  generalize hE : FX9_decimals v = R0
  rw [FX9_decimals] at hE
  have hl := lv_entry ([.long v]) (n := 5) (Nat.le_of_ble_eq_true rfl)
  rw [lg_entry_eq]
  generalize (lg_sl ([.long v]) ++ List.replicate (5 - (lg_sl ([.long v])).length) Slot.unset).toArray = ls at hl ⊢
  have hl : lv_has ls 5 [(0, .long v)] := hl
  have loop_4 : ∀ (n : Nat) (k : Nat) (r : Int64), 1 ≤ n → r.toInt < 10 ^ n → FX9_decimals_l4 n k r = R0 → ∀ ls : Array Slot, lv_has ls 5 [(3, .long r), (2, .int (nI k)), (0, .long v)] → W p l e (headSpec wsX9_decimals ({ frames := 0, cells := 0, slots := 0, locals := 0 })).room s m ([.long v] : List Value).toArray below meth c s.heap [] 0 0 (MQ below (k2_QcV (.int (nI R0))) ([.long v] : List Value).toArray s 0 0 (fun _ => False)) (F0 m 4 ls []) := by
    intro n
    induction n with
    | zero =>
      intro k r i_1 i_2
      exact absurd i_1 (by omega)
    | succ n ih =>
      intro k r i_1 i_2 hE ls hl
      rw [FX9_decimals_l4] at hE
      refine lv_lload_n hx hb dX9_decimals_4 rfl (lv_at hl 0 rfl) ?_
      refine lv_ldc2 hx hb hown (hts (.constantLong RX9 177 9) (by decide +kernel)) dX9_decimals_5 ?_
      refine W.lcmp hx hb dX9_decimals_8 ?_
      refine lv_if_le (tgt := 24) hx hb dX9_decimals_9 (by decide) (fun c_1 => ?_) (fun c_1 => ?_)
      · rw [if_pos c_1] at hE
        refine lv_iload_n hx hb dX9_decimals_24 rfl (lv_at hl 1 rfl) ?_
        exact W.iret (v := nI k) hx hb hr (fun t ht hW => ⟨by rw [← hE], ht⟩) (fun q h => absurd h List.not_mem_nil) dX9_decimals_25
      · rw [if_neg c_1] at hE
        refine lv_iinc (v := nI (k + 1)) (lv' := [(2, .int (nI (k + 1))), (3, .long r), (0, .long v)]) hx hb dX9_decimals_12 hl (k := 1) rfl (nI_1 k) (by decide) rfl (fun ls hl => ?_)
        refine lv_lload_n hx hb dX9_decimals_15 rfl (lv_at hl 1 rfl) ?_
        refine lv_ldc2 hx hb hown (hts (.constantLong RX9 115 10) (by decide +kernel)) dX9_decimals_16 ?_
        refine lv_ldiv hx hb dX9_decimals_19 (by decide) ?_
        refine lv_lstore_n (lv' := [(3, .long (r / 10)), (2, .int (nI (k + 1))), (0, .long v)]) hx hb dX9_decimals_20 rfl hl (by decide) rfl (fun ls hl => ?_)
        refine lv_goto (tgt := 4) hx hb dX9_decimals_21 (by decide) ?_
        exact ih (k + 1) (r / 10) (dk_1 (by assumption) i_2) (dk_2 (by assumption) i_2) hE ls (lv_sub hl [0, 1, 2] rfl)
  refine lv_iconst (v := 1) hx hb dX9_decimals_0 (by decide) ?_
  refine lv_istore_n (lv' := [(2, .int 1), (0, .long v)]) hx hb dX9_decimals_1 rfl hl (by decide) rfl (fun ls hl => ?_)
  refine lv_lload_n hx hb dX9_decimals_2 rfl (lv_at hl 1 rfl) ?_
  refine lv_lstore_n (lv' := [(3, .long v), (2, .int 1), (0, .long v)]) hx hb dX9_decimals_3 rfl hl (by decide) rfl (fun ls hl => ?_)
  exact loop_4 19 1 v (by omega) (i64_lt _) hE ls (lv_sub hl [0, 1, 2] rfl)
theorem FX9_decimals_l4_in (n : Nat) : ∀ (k : Nat) (r : Int64), 1 ≤ n → r.toInt < 10 ^ n → k ≤ FX9_decimals_l4 n k r ∧ FX9_decimals_l4 n k r + 1 ≤ k + n := by
  induction n with
  | zero => intro k r h; omega
  | succ n ih =>
    intro k r h hi
    rw [FX9_decimals_l4]
    split
    · exact ⟨Nat.le_refl k, by omega⟩
    · next h2 =>
      have h3 := ih (k + 1) (r / 10) (dk_1 h2 hi) (dk_2 h2 hi)
      omega
theorem FX9_decimals_in (v : Int64) : 1 ≤ FX9_decimals v ∧ FX9_decimals v ≤ 19 := by
  have h := FX9_decimals_l4_in 19 1 v (by omega) (i64_lt v)
  unfold FX9_decimals
  omega
def FX9_coupon_l23 (rmn : Nat) (rpn : Nat) (rcn : Nat) (rpa : Nat → Int32) (rcp : Nat → Int32) (mc : Int32) : Nat → Nat → Nat → (Nat → Int32) → Int32 × Int32 × (Nat → Int32) × (Nat → Int32) × Nat
  | 0, _, _, _ => (0, 0, fun _ => 0, fun _ => 0, 0)
  | n + 1, k, q, prx => if rpn ≤ k then (if q = 0 then ((-1), (FX9_isMachine rmn mc).2, prx, rcp, rcn) else (nI ((rcn + 1) - 1), (FX9_isMachine rmn mc).2, prx, upd rcp rcn (nI (25 * q)), rcn + 1)) else (if (rpa k) = mc then (if (prx k) = 0 then FX9_coupon_l23 rmn rpn rcn rpa rcp mc n (k + 1) (q + 1) (upd prx k (vp_nar .boolean 1)) else FX9_coupon_l23 rmn rpn rcn rpa rcp mc n (k + 1) q prx) else FX9_coupon_l23 rmn rpn rcn rpa rcp mc n (k + 1) q prx)
def FX9_coupon (rmn : Nat) (rpn : Nat) (rcn : Nat) (rda : Nat → Int32) (rpa : Nat → Int32) (rpr : Nat → Int32) (rcp : Nat → Int32) (mc : Int32) : Int32 × Int32 × (Nat → Int32) × (Nat → Int32) × Nat := if ((FX9_isMachine rmn mc).1) = 0 then ((-1), (FX9_isMachine rmn mc).2, rpr, rcp, rcn) else (if (rda mc.toNatClampNeg) = 0 then FX9_coupon_l23 rmn rpn rcn rpa rcp mc (rpn + 1) 0 0 rpr else ((-1), (FX9_isMachine rmn mc).2, rpr, rcp, rcn))
set_option maxHeartbeats 4000000 in
set_option maxRecDepth 100000 in
theorem kX9_coupon (l : Launch) (D : va_G) (cI cJ cZ : ClassId) (w0 : Nat) (a1 : Nat) (a2 : Nat) (a3 : Nat) (a4 : Nat) (a5 : Nat) (a6 : Nat) (a7 : Nat) (a8 : Nat) (a9 : Nat) (a10 : Nat) (a11 : Nat) (a12 : Nat) (a13 : Nat) (a14 : Nat) (a15 : Nat) (a16 : Nat) (a17 : Nat) (a18 : Nat) (a19 : Nat) (a20 : Nat) (a21 : Nat) (a22 : Nat) (a23 : Nat) (rdn : Nat) (rfa : Int32) (rmn : Nat) (rpn : Nat) (rre : Int32) (rrn : Nat) (rfn : Nat) (rkn : Nat) (rcn : Nat) (rda : Nat → Int32) (rpa : Nat → Int32) (rpr : Nat → Int32) (rcp : Nat → Int32) (mc : Int32) (sz : Nat) (hmn : rmn ≤ 6) (hpn : rpn ≤ 200) (hcn : rcn < 1100) : Met l yX9_coupon wsX9_coupon ({ frames := 1, cells := 0, slots := 0, locals := 21 }) (mP D (tz cI cJ cZ) [.ref w0, .int mc] sz [(w0, .inr (9, [.ref a1, .ref a2, .int (nI rdn), .int rfa, .int (nI rmn), .ref a3, .ref a4, .ref a5, .ref a6, .ref a7, .ref a8, .ref a9, .ref a10, .ref a11, .ref a12, .ref a13, .int (nI rpn), .int rre, .ref a14, .ref a15, .int (nI rrn), .ref a16, .int (nI rfn), .ref a17, .ref a18, .ref a19, .int (nI rkn), .ref a20, .ref a21, .int (nI rcn), .ref a22, .ref a23])), (a5, .inl (cZ, 6, .inl rda)), (a9, .inl (cI, 200, .inl rpa)), (a13, .inl (cZ, 200, .inl rpr)), (a20, .inl (cI, 1100, .inl rcp))]) (mQ D (some (.int ((FX9_coupon rmn rpn rcn rda rpa rpr rcp mc).1))) [(w0, .inr (9, [.ref a1, .ref a2, .int (nI rdn), .int ((FX9_coupon rmn rpn rcn rda rpa rpr rcp mc).2.1), .int (nI rmn), .ref a3, .ref a4, .ref a5, .ref a6, .ref a7, .ref a8, .ref a9, .ref a10, .ref a11, .ref a12, .ref a13, .int (nI rpn), .int rre, .ref a14, .ref a15, .int (nI rrn), .ref a16, .int (nI rfn), .ref a17, .ref a18, .ref a19, .int (nI rkn), .ref a20, .ref a21, .int (nI ((FX9_coupon rmn rpn rcn rda rpa rpr rcp mc).2.2.2.2)), .ref a22, .ref a23])), (a5, .inl (cZ, 6, .inl rda)), (a9, .inl (cI, 200, .inl rpa)), (a13, .inl (cZ, 200, .inl ((FX9_coupon rmn rpn rcn rda rpa rpr rcp mc).2.2.1))), (a20, .inl (cI, 1100, .inl ((FX9_coupon rmn rpn rcn rda rpa rpr rcp mc).2.2.2.1)))] (va_A [(w0, .inr (9, [.ref a1, .ref a2, .int (nI rdn), .int rfa, .int (nI rmn), .ref a3, .ref a4, .ref a5, .ref a6, .ref a7, .ref a8, .ref a9, .ref a10, .ref a11, .ref a12, .ref a13, .int (nI rpn), .int rre, .ref a14, .ref a15, .int (nI rrn), .ref a16, .int (nI rfn), .ref a17, .ref a18, .ref a19, .int (nI rkn), .ref a20, .ref a21, .int (nI rcn), .ref a22, .ref a23])), (a5, .inl (cZ, 6, .inl rda)), (a9, .inl (cI, 200, .inl rpa)), (a13, .inl (cZ, 200, .inl rpr)), (a20, .inl (cI, 1100, .inl rcp))] sz)) 0 0 (va_A [(w0, .inr (9, [.ref a1, .ref a2, .int (nI rdn), .int rfa, .int (nI rmn), .ref a3, .ref a4, .ref a5, .ref a6, .ref a7, .ref a8, .ref a9, .ref a10, .ref a11, .ref a12, .ref a13, .int (nI rpn), .int rre, .ref a14, .ref a15, .int (nI rrn), .ref a16, .int (nI rfn), .ref a17, .ref a18, .ref a19, .int (nI rkn), .ref a20, .ref a21, .int (nI rcn), .ref a22, .ref a23])), (a5, .inl (cZ, 6, .inl rda)), (a9, .inl (cI, 200, .inl rpa)), (a13, .inl (cZ, 200, .inl rpr)), (a20, .inl (cI, 1100, .inl rcp))] sz) := by
  refine Met.ofW (cc := cX9_coupon) (maxL := 4) (ret := (some .int)) (by decide) rfl ?_
  intro p e s m args below meth c s₁ B hml hv
  obtain ⟨rfl, hsz, hP, hK, hD0, hN⟩ := hv
  have hx := B.exec
  have hb := B.bytes
  have hr := B.returns
  have hts := atoms_spec (ws := wsX9_coupon) B.pre
  have hown : s.vm.findClass RX9 = some m.cls := findClass_of_methodNamed B.named
  have hlocks := B.notSynchronized
  have iw_9 : ∀ w ∈ u_ws RX9 TX9 32, w ∈ wsX9_coupon := by decide +kernel
  subst hsz
  have hD := hD0.self (sz := s.heap.size)
  generalize hE : FX9_coupon rmn rpn rcn rda rpa rpr rcp mc = R0
  generalize hAe : va_A [(w0, .inr (9, [.ref a1, .ref a2, .int (nI rdn), .int rfa, .int (nI rmn), .ref a3, .ref a4, .ref a5, .ref a6, .ref a7, .ref a8, .ref a9, .ref a10, .ref a11, .ref a12, .ref a13, .int (nI rpn), .int rre, .ref a14, .ref a15, .int (nI rrn), .ref a16, .int (nI rfn), .ref a17, .ref a18, .ref a19, .int (nI rkn), .ref a20, .ref a21, .int (nI rcn), .ref a22, .ref a23])), (a5, .inl (cZ, 6, .inl rda)), (a9, .inl (cI, 200, .inl rpa)), (a13, .inl (cZ, 200, .inl rpr)), (a20, .inl (cI, 1100, .inl rcp))] s.heap.size = A at hD ⊢
  have hA : ∀ q : Nat, s.heap.size ≤ q → A q := fun q h => by rw [← hAe]; exact Or.inr h
  have hS : va_S A s.heap s.heap [] := va_S.rf
  rw [FX9_coupon] at hE
  have hl := lv_entry ([.ref w0, .int mc]) (n := 4) (Nat.le_of_ble_eq_true rfl)
  rw [lg_entry_eq]
  generalize (lg_sl ([.ref w0, .int mc]) ++ List.replicate (4 - (lg_sl ([.ref w0, .int mc])).length) Slot.unset).toArray = ls at hl ⊢
  have hl : lv_has ls 4 [(0, .ref w0), (1, .int mc)] := hl
  have loop_23 : ∀ (n : Nat) (k : Nat) (q : Nat) (prx : Nat → Int32), k ≤ rpn → k + n = rpn + 1 → q ≤ k → FX9_coupon_l23 rmn rpn rcn rpa rcp mc n k q prx = R0 → ∀ (H : Heap) (locs : List Loc), va_P D vwCl [(w0, .inr (9, [.ref a1, .ref a2, .int (nI rdn), .int ((FX9_isMachine rmn mc).2), .int (nI rmn), .ref a3, .ref a4, .ref a5, .ref a6, .ref a7, .ref a8, .ref a9, .ref a10, .ref a11, .ref a12, .ref a13, .int (nI rpn), .int rre, .ref a14, .ref a15, .int (nI rrn), .ref a16, .int (nI rfn), .ref a17, .ref a18, .ref a19, .int (nI rkn), .ref a20, .ref a21, .int (nI rcn), .ref a22, .ref a23])), (a5, .inl (cZ, 6, .inl rda)), (a9, .inl (cI, 200, .inl rpa)), (a13, .inl (cZ, 200, .inl prx)), (a20, .inl (cI, 1100, .inl rcp))] H → va_D A [(w0, .inr (9, [.ref a1, .ref a2, .int (nI rdn), .int ((FX9_isMachine rmn mc).2), .int (nI rmn), .ref a3, .ref a4, .ref a5, .ref a6, .ref a7, .ref a8, .ref a9, .ref a10, .ref a11, .ref a12, .ref a13, .int (nI rpn), .int rre, .ref a14, .ref a15, .int (nI rrn), .ref a16, .int (nI rfn), .ref a17, .ref a18, .ref a19, .int (nI rkn), .ref a20, .ref a21, .int (nI rcn), .ref a22, .ref a23])), (a5, .inl (cZ, 6, .inl rda)), (a9, .inl (cI, 200, .inl rpa)), (a13, .inl (cZ, 200, .inl prx)), (a20, .inl (cI, 1100, .inl rcp))] → va_S A s.heap H locs → ∀ ls : Array Slot, lv_has ls 4 [(3, .int (nI k)), (2, .int (nI q)), (0, .ref w0), (1, .int mc)] → W p l e (headSpec wsX9_coupon ({ frames := 1, cells := 0, slots := 0, locals := 21 })).room s m ([.ref w0, .int mc] : List Value).toArray below meth c H locs 0 0 (MQ below (mQ D (some (.int R0.1)) [(w0, .inr (9, [.ref a1, .ref a2, .int (nI rdn), .int R0.2.1, .int (nI rmn), .ref a3, .ref a4, .ref a5, .ref a6, .ref a7, .ref a8, .ref a9, .ref a10, .ref a11, .ref a12, .ref a13, .int (nI rpn), .int rre, .ref a14, .ref a15, .int (nI rrn), .ref a16, .int (nI rfn), .ref a17, .ref a18, .ref a19, .int (nI rkn), .ref a20, .ref a21, .int (nI R0.2.2.2.2), .ref a22, .ref a23])), (a5, .inl (cZ, 6, .inl rda)), (a9, .inl (cI, 200, .inl rpa)), (a13, .inl (cZ, 200, .inl R0.2.2.1)), (a20, .inl (cI, 1100, .inl R0.2.2.2.1))] A) ([.ref w0, .int mc] : List Value).toArray s 0 0 A) (F0 m 23 ls []) := by
    intro n
    induction n with
    | zero =>
      intro k q prx i_1 i_2 i_3
      exact absurd i_1 (by omega)
    | succ n ih =>
      intro k q prx i_1 i_2 i_3 hE H locs hP hD hS ls hl
      rw [FX9_coupon_l23] at hE
      refine lv_iload_n hx hb dX9_coupon_23 rfl (lv_at hl 0 rfl) ?_
      refine lv_aload_n hx hb dX9_coupon_24 rfl (lv_at hl 2 rfl) ?_
      refine va_get (D := D) (ci := 9) (v := .int (nI rpn)) (C := RX9) (T := TX9) (N := 32) hx hb hts iw_9 hown hK hP 0 rfl rfl 16 (by decide) (hts (.fieldLink RX9 140 "DepositCodesModel" "paid" "I") (by decide +kernel)) (fun _ h9 => h9) rfl dX9_coupon_25 ?_
      refine lv_icmp_ge (tgt := 66) hx hb dX9_coupon_28 (by decide) (fun c_3 => ?_) (fun c_3 => ?_)
      · have c_3 : rpn ≤ k := (nI_leI (a := rpn) (b := k) (by omega) (by omega)).mp c_3
        rw [if_pos c_3] at hE
        refine lv_iload_n hx hb dX9_coupon_66 rfl (lv_at hl 1 rfl) ?_
        refine lv_if_ne (tgt := 72) hx hb dX9_coupon_67 (by decide) (fun c_4 => ?_) (fun c_4 => ?_)
        · have c_4 : ¬ q = 0 := fun h9 => c_4 ((nI_eq (a := q) (b := 0) (by omega) (by omega)).mpr h9)
          rw [if_neg c_4] at hE
          refine lv_aload_n hx hb dX9_coupon_72 rfl (lv_at hl 2 rfl) ?_
          refine va_get (D := D) (ci := 9) (v := .ref a20) (C := RX9) (T := TX9) (N := 32) hx hb hts iw_9 hown hK hP 0 rfl rfl 27 (by decide) (hts (.fieldLink RX9 69 "DepositCodesModel" "coupons" "[I") (by decide +kernel)) (fun _ h9 => h9) rfl dX9_coupon_73 ?_
          refine lv_aload_n hx hb dX9_coupon_76 rfl (lv_at hl 2 rfl) ?_
          refine va_get (D := D) (ci := 9) (v := .int (nI rcn)) (C := RX9) (T := TX9) (N := 32) hx hb hts iw_9 hown hK hP 0 rfl rfl 29 (by decide) (hts (.fieldLink RX9 183 "DepositCodesModel" "couponCount" "I") (by decide +kernel)) (fun _ h9 => h9) rfl dX9_coupon_77 ?_
          refine lv_bipush (v := 25) hx hb dX9_coupon_80 (by decide) ?_
          refine lv_iload_n hx hb dX9_coupon_82 rfl (lv_at hl 1 rfl) ?_
          refine lv_imul hx hb dX9_coupon_83 ?_
          refine na_top (show 25 * (nI q) = nI (25 * q) from pk_mul 25 q) ?_
          refine na_iast hx hb hK hP hD hS 4 0 rfl rfl (by omega) (by decide) dX9_coupon_84 (fun H locs hP hD hS => ?_)
          have hP : va_P D vwCl [(w0, .inr (9, [.ref a1, .ref a2, .int (nI rdn), .int ((FX9_isMachine rmn mc).2), .int (nI rmn), .ref a3, .ref a4, .ref a5, .ref a6, .ref a7, .ref a8, .ref a9, .ref a10, .ref a11, .ref a12, .ref a13, .int (nI rpn), .int rre, .ref a14, .ref a15, .int (nI rrn), .ref a16, .int (nI rfn), .ref a17, .ref a18, .ref a19, .int (nI rkn), .ref a20, .ref a21, .int (nI rcn), .ref a22, .ref a23])), (a5, .inl (cZ, 6, .inl rda)), (a9, .inl (cI, 200, .inl rpa)), (a13, .inl (cZ, 200, .inl prx)), (a20, .inl (cI, 1100, .inl (upd rcp rcn (nI (25 * q)))))] H := hP
          have hD : va_D A [(w0, .inr (9, [.ref a1, .ref a2, .int (nI rdn), .int ((FX9_isMachine rmn mc).2), .int (nI rmn), .ref a3, .ref a4, .ref a5, .ref a6, .ref a7, .ref a8, .ref a9, .ref a10, .ref a11, .ref a12, .ref a13, .int (nI rpn), .int rre, .ref a14, .ref a15, .int (nI rrn), .ref a16, .int (nI rfn), .ref a17, .ref a18, .ref a19, .int (nI rkn), .ref a20, .ref a21, .int (nI rcn), .ref a22, .ref a23])), (a5, .inl (cZ, 6, .inl rda)), (a9, .inl (cI, 200, .inl rpa)), (a13, .inl (cZ, 200, .inl prx)), (a20, .inl (cI, 1100, .inl (upd rcp rcn (nI (25 * q)))))] := hD
          refine lv_aload_n hx hb dX9_coupon_85 rfl (lv_at hl 2 rfl) ?_
          refine lv_dup hx hb dX9_coupon_86 rfl ?_
          refine va_get (D := D) (ci := 9) (v := .int (nI rcn)) (C := RX9) (T := TX9) (N := 32) hx hb hts iw_9 hown hK hP 0 rfl rfl 29 (by decide) (hts (.fieldLink RX9 183 "DepositCodesModel" "couponCount" "I") (by decide +kernel)) (fun _ h9 => h9) rfl dX9_coupon_87 ?_
          refine lv_iconst (v := 1) hx hb dX9_coupon_90 (by decide) ?_
          refine lv_iadd hx hb dX9_coupon_91 ?_
          refine na_top (show (nI rcn) + 1 = nI (rcn + 1) from nI_add rcn 1) ?_
          refine va_put (D := D) (ci := 9) (v := .int (nI (rcn + 1))) (ty := .int) (C := RX9) (T := TX9) (N := 32) hx hb hts iw_9 tyX9 tyX9_ok nmX9 hown hK hP hD hS 0 rfl rfl 29 (by decide) (hts (.fieldLink RX9 183 "DepositCodesModel" "couponCount" "I") (by decide +kernel)) (fun _ h9 => h9) rfl (by decide +kernel) rfl rfl (Nat.le_of_ble_eq_true rfl) dX9_coupon_92 (fun H locs hP hD hS => ?_)
          have hP : va_P D vwCl [(w0, .inr (9, [.ref a1, .ref a2, .int (nI rdn), .int ((FX9_isMachine rmn mc).2), .int (nI rmn), .ref a3, .ref a4, .ref a5, .ref a6, .ref a7, .ref a8, .ref a9, .ref a10, .ref a11, .ref a12, .ref a13, .int (nI rpn), .int rre, .ref a14, .ref a15, .int (nI rrn), .ref a16, .int (nI rfn), .ref a17, .ref a18, .ref a19, .int (nI rkn), .ref a20, .ref a21, .int (nI (rcn + 1)), .ref a22, .ref a23])), (a5, .inl (cZ, 6, .inl rda)), (a9, .inl (cI, 200, .inl rpa)), (a13, .inl (cZ, 200, .inl prx)), (a20, .inl (cI, 1100, .inl (upd rcp rcn (nI (25 * q)))))] H := hP
          have hD : va_D A [(w0, .inr (9, [.ref a1, .ref a2, .int (nI rdn), .int ((FX9_isMachine rmn mc).2), .int (nI rmn), .ref a3, .ref a4, .ref a5, .ref a6, .ref a7, .ref a8, .ref a9, .ref a10, .ref a11, .ref a12, .ref a13, .int (nI rpn), .int rre, .ref a14, .ref a15, .int (nI rrn), .ref a16, .int (nI rfn), .ref a17, .ref a18, .ref a19, .int (nI rkn), .ref a20, .ref a21, .int (nI (rcn + 1)), .ref a22, .ref a23])), (a5, .inl (cZ, 6, .inl rda)), (a9, .inl (cI, 200, .inl rpa)), (a13, .inl (cZ, 200, .inl prx)), (a20, .inl (cI, 1100, .inl (upd rcp rcn (nI (25 * q)))))] := hD
          refine lv_aload_n hx hb dX9_coupon_95 rfl (lv_at hl 2 rfl) ?_
          refine va_get (D := D) (ci := 9) (v := .int (nI (rcn + 1))) (C := RX9) (T := TX9) (N := 32) hx hb hts iw_9 hown hK hP 0 rfl rfl 29 (by decide) (hts (.fieldLink RX9 183 "DepositCodesModel" "couponCount" "I") (by decide +kernel)) (fun _ h9 => h9) rfl dX9_coupon_96 ?_
          refine lv_iconst (v := 1) hx hb dX9_coupon_99 (by decide) ?_
          refine lv_isub hx hb dX9_coupon_100 ?_
          refine na_top (show (nI (rcn + 1)) - 1 = nI ((rcn + 1) - 1) from pk_sub (a := (rcn + 1)) (b := 1) (by omega)) ?_
          subst hE
          exact W.iret hx hb hr (fun t ht hW => ⟨rfl, by rw [ht]; exact hP, hD, hS.F ht⟩) hS.2.2 dX9_coupon_101
        · have c_4 : q = 0 := (nI_eq (a := q) (b := 0) (by omega) (by omega)).mp c_4
          rw [if_pos c_4] at hE
          refine lv_iconst (v := (-1)) hx hb dX9_coupon_70 (by decide) ?_
          subst hE
          exact W.iret hx hb hr (fun t ht hW => ⟨rfl, by rw [ht]; exact hP, hD, hS.F ht⟩) hS.2.2 dX9_coupon_71
      · have c_3 : ¬ rpn ≤ k := fun h9 => c_3 ((nI_leI (a := rpn) (b := k) (by omega) (by omega)).mpr h9)
        rw [if_neg c_3] at hE
        refine lv_aload_n hx hb dX9_coupon_31 rfl (lv_at hl 2 rfl) ?_
        refine va_get (D := D) (ci := 9) (v := .ref a9) (C := RX9) (T := TX9) (N := 32) hx hb hts iw_9 hown hK hP 0 rfl rfl 11 (by decide) (hts (.fieldLink RX9 36 "DepositCodesModel" "payers" "[I") (by decide +kernel)) (fun _ h9 => h9) rfl dX9_coupon_32 ?_
        refine lv_iload_n hx hb dX9_coupon_35 rfl (lv_at hl 0 rfl) ?_
        refine na_iald hx hb hK hP 2 0 rfl rfl (by omega) (by decide) dX9_coupon_36 ?_
        refine lv_iload_n hx hb dX9_coupon_37 rfl (lv_at hl 3 rfl) ?_
        refine lv_icmp_ne (tgt := 60) hx hb dX9_coupon_38 (by decide) (fun c_5 => ?_) (fun c_5 => ?_)
        · rw [if_neg c_5] at hE
          refine lv_iinc (v := nI (k + 1)) (lv' := [(3, .int (nI (k + 1))), (2, .int (nI q)), (0, .ref w0), (1, .int mc)]) hx hb dX9_coupon_60 hl (k := 0) rfl (nI_1 k) (by decide) rfl (fun ls hl => ?_)
          refine lv_goto (tgt := 23) hx hb dX9_coupon_63 (by decide) ?_
          exact ih (k + 1) q prx (by omega) (by omega) (by omega) hE _ _ hP hD hS ls (lv_sub hl [0, 1, 2, 3] rfl)
        · rw [if_pos c_5] at hE
          refine lv_aload_n hx hb dX9_coupon_41 rfl (lv_at hl 2 rfl) ?_
          refine va_get (D := D) (ci := 9) (v := .ref a13) (C := RX9) (T := TX9) (N := 32) hx hb hts iw_9 hown hK hP 0 rfl rfl 15 (by decide) (hts (.fieldLink RX9 48 "DepositCodesModel" "printed" "[Z") (by decide +kernel)) (fun _ h9 => h9) rfl dX9_coupon_42 ?_
          refine lv_iload_n hx hb dX9_coupon_45 rfl (lv_at hl 0 rfl) ?_
          refine na_zald hx hb hK hP 3 2 rfl rfl (by omega) (by decide) dX9_coupon_46 ?_
          refine lv_if_ne (tgt := 60) hx hb dX9_coupon_47 (by decide) (fun c_6 => ?_) (fun c_6 => ?_)
          · rw [if_neg c_6] at hE
            refine lv_iinc (v := nI (k + 1)) (lv' := [(3, .int (nI (k + 1))), (2, .int (nI q)), (0, .ref w0), (1, .int mc)]) hx hb dX9_coupon_60 hl (k := 0) rfl (nI_1 k) (by decide) rfl (fun ls hl => ?_)
            refine lv_goto (tgt := 23) hx hb dX9_coupon_63 (by decide) ?_
            exact ih (k + 1) q prx (by omega) (by omega) (by omega) hE _ _ hP hD hS ls (lv_sub hl [0, 1, 2, 3] rfl)
          · rw [if_pos c_6] at hE
            refine lv_aload_n hx hb dX9_coupon_50 rfl (lv_at hl 2 rfl) ?_
            refine va_get (D := D) (ci := 9) (v := .ref a13) (C := RX9) (T := TX9) (N := 32) hx hb hts iw_9 hown hK hP 0 rfl rfl 15 (by decide) (hts (.fieldLink RX9 48 "DepositCodesModel" "printed" "[Z") (by decide +kernel)) (fun _ h9 => h9) rfl dX9_coupon_51 ?_
            refine lv_iload_n hx hb dX9_coupon_54 rfl (lv_at hl 0 rfl) ?_
            refine lv_iconst (v := 1) hx hb dX9_coupon_55 (by decide) ?_
            refine na_zast hx hb hK hP hD hS 3 2 rfl rfl (by omega) (by decide) dX9_coupon_56 (fun H locs hP hD hS => ?_)
            have hP : va_P D vwCl [(w0, .inr (9, [.ref a1, .ref a2, .int (nI rdn), .int ((FX9_isMachine rmn mc).2), .int (nI rmn), .ref a3, .ref a4, .ref a5, .ref a6, .ref a7, .ref a8, .ref a9, .ref a10, .ref a11, .ref a12, .ref a13, .int (nI rpn), .int rre, .ref a14, .ref a15, .int (nI rrn), .ref a16, .int (nI rfn), .ref a17, .ref a18, .ref a19, .int (nI rkn), .ref a20, .ref a21, .int (nI rcn), .ref a22, .ref a23])), (a5, .inl (cZ, 6, .inl rda)), (a9, .inl (cI, 200, .inl rpa)), (a13, .inl (cZ, 200, .inl (upd prx k (vp_nar .boolean 1)))), (a20, .inl (cI, 1100, .inl rcp))] H := hP
            have hD : va_D A [(w0, .inr (9, [.ref a1, .ref a2, .int (nI rdn), .int ((FX9_isMachine rmn mc).2), .int (nI rmn), .ref a3, .ref a4, .ref a5, .ref a6, .ref a7, .ref a8, .ref a9, .ref a10, .ref a11, .ref a12, .ref a13, .int (nI rpn), .int rre, .ref a14, .ref a15, .int (nI rrn), .ref a16, .int (nI rfn), .ref a17, .ref a18, .ref a19, .int (nI rkn), .ref a20, .ref a21, .int (nI rcn), .ref a22, .ref a23])), (a5, .inl (cZ, 6, .inl rda)), (a9, .inl (cI, 200, .inl rpa)), (a13, .inl (cZ, 200, .inl (upd prx k (vp_nar .boolean 1)))), (a20, .inl (cI, 1100, .inl rcp))] := hD
            refine lv_iinc (v := nI (q + 1)) (lv' := [(2, .int (nI (q + 1))), (3, .int (nI k)), (0, .ref w0), (1, .int mc)]) hx hb dX9_coupon_57 hl (k := 1) rfl (nI_1 q) (by decide) rfl (fun ls hl => ?_)
            refine lv_iinc (v := nI (k + 1)) (lv' := [(3, .int (nI (k + 1))), (2, .int (nI (q + 1))), (0, .ref w0), (1, .int mc)]) hx hb dX9_coupon_60 hl (k := 1) rfl (nI_1 k) (by decide) rfl (fun ls hl => ?_)
            refine lv_goto (tgt := 23) hx hb dX9_coupon_63 (by decide) ?_
            exact ih (k + 1) (q + 1) (upd prx k (vp_nar .boolean 1)) (by omega) (by omega) (by omega) hE _ _ hP hD hS ls (lv_sub hl [0, 1, 2, 3] rfl)
  refine lv_aload_n hx hb dX9_coupon_0 rfl (lv_at hl 0 rfl) ?_
  refine lv_iload_n hx hb dX9_coupon_1 rfl (lv_at hl 1 rfl) ?_
  refine mt_call0 (wr := [(a5, .inl (cZ, 6, .inl rda)), (a9, .inl (cI, 200, .inl rpa)), (a13, .inl (cZ, 200, .inl rpr)), (a20, .inl (cI, 1100, .inl rcp))]) (ws' := [(w0, .inr (9, [.ref a1, .ref a2, .int (nI rdn), .int ((FX9_isMachine rmn mc).2), .int (nI rmn), .ref a3, .ref a4, .ref a5, .ref a6, .ref a7, .ref a8, .ref a9, .ref a10, .ref a11, .ref a12, .ref a13, .int (nI rpn), .int rre, .ref a14, .ref a15, .int (nI rrn), .ref a16, .int (nI rfn), .ref a17, .ref a18, .ref a19, .int (nI rkn), .ref a20, .ref a21, .int (nI rcn), .ref a22, .ref a23])), (a5, .inl (cZ, 6, .inl rda)), (a9, .inl (cI, 200, .inl rpa)), (a13, .inl (cZ, 200, .inl rpr)), (a20, .inl (cI, 1100, .inl rcp))]) (st1 := [.int ((FX9_isMachine rmn mc).1)]) (va_runV (As := [.int mc]) (rest := []) ⟨hx, hb, hml, hown, hts⟩ (kX9_isMachine l D cI cJ cZ w0 a1 a2 a3 a4 a5 a6 a7 a8 a9 a10 a11 a12 a13 a14 a15 a16 a17 a18 a19 a20 a21 a22 a23 rdn rfa rmn rpn rre rrn rfn rkn rcn mc _) (cwV 1 hts gX9_coupon_X9_isMachine rfl rfl rfl (by decide +kernel) ⟨Nat.le_of_ble_eq_true rfl, Nat.le_of_ble_eq_true rfl⟩) ⟨mP_blind, va_recv hK hP (ci := 9) (q0 := 0) rfl rfl, mP_pre (hP.sub [0] rfl) (hD.sub [0] (by decide) rfl) hK hN⟩ rfl rfl hl.1 rfl (lv_room (Nat.le_of_ble_eq_true rfl)) dX9_coupon_2 ⟨Nat.zero_le _, Nat.zero_le _⟩) hP hD hS hA [0] [1, 2, 3, 4] [4, 0, 1, 2, 3] rfl rfl (by decide) (by decide) (by decide) rfl rfl (fun H locs hP hD hS => ?_)
  refine lv_if_eq (tgt := 17) hx hb dX9_coupon_5 (by decide) (fun c_1 => ?_) (fun c_1 => ?_)
  · rw [if_pos c_1] at hE
    refine lv_iconst (v := (-1)) hx hb dX9_coupon_17 (by decide) ?_
    subst hE
    exact W.iret hx hb hr (fun t ht hW => ⟨rfl, by rw [ht]; exact hP, hD, hS.F ht⟩) hS.2.2 dX9_coupon_18
  · rw [if_neg c_1] at hE
    have hin : vp_in mc 6 := mach_in (by assumption) hmn
    refine lv_aload_n hx hb dX9_coupon_8 rfl (lv_at hl 0 rfl) ?_
    refine va_get (D := D) (ci := 9) (v := .ref a5) (C := RX9) (T := TX9) (N := 32) hx hb hts iw_9 hown hK hP 0 rfl rfl 7 (by decide) (hts (.fieldLink RX9 23 "DepositCodesModel" "isDark" "[Z") (by decide +kernel)) (fun _ h9 => h9) rfl dX9_coupon_9 ?_
    refine lv_iload_n hx hb dX9_coupon_12 rfl (lv_at hl 1 rfl) ?_
    refine va_zald hx hb hK hP 1 2 rfl rfl (by assumption) dX9_coupon_13 ?_
    refine lv_if_eq (tgt := 19) hx hb dX9_coupon_14 (by decide) (fun c_2 => ?_) (fun c_2 => ?_)
    · rw [if_pos c_2] at hE
      refine lv_iconst (v := 0) hx hb dX9_coupon_19 (by decide) ?_
      refine lv_istore_n (lv' := [(2, .int 0), (0, .ref w0), (1, .int mc)]) hx hb dX9_coupon_20 rfl hl (by decide) rfl (fun ls hl => ?_)
      refine lv_iconst (v := 0) hx hb dX9_coupon_21 (by decide) ?_
      refine lv_istore_n (lv' := [(3, .int 0), (2, .int 0), (0, .ref w0), (1, .int mc)]) hx hb dX9_coupon_22 rfl hl (by decide) rfl (fun ls hl => ?_)
      exact loop_23 (rpn + 1) 0 0 rpr (by omega) (by omega) (by omega) hE _ _ hP hD hS ls (lv_sub hl [0, 1, 2, 3] rfl)
    · rw [if_neg c_2] at hE
      refine lv_iconst (v := (-1)) hx hb dX9_coupon_17 (by decide) ?_
      subst hE
      exact W.iret hx hb hr (fun t ht hW => ⟨rfl, by rw [ht]; exact hP, hD, hS.F ht⟩) hS.2.2 dX9_coupon_18
