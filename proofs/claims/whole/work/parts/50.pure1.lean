/-! PURE ROWS: the class's and the reference's functions, side by side. Both start from rows of zeros and write the same places, so most rows are one and the same function. -/
theorem isIx0 {k n : Int32} : FX8_isIndex k n = 0 ↔ (k < 0 ∨ n ≤ k) := by
  unfold FX8_isIndex
  by_cases h1 : k < 0
  · rw [if_pos h1]; exact ⟨fun _ => Or.inl h1, fun _ => rfl⟩
  · rw [if_neg h1]
    by_cases h2 : n ≤ k
    · rw [if_pos h2]; exact ⟨fun _ => Or.inr h2, fun _ => rfl⟩
    · rw [if_neg h2]; exact ⟨fun h => absurd h (by decide), fun h => absurd h (fun h => h.elim h1 h2)⟩
theorem ix_eq {k n : Int32} {K : Int64} (h : n.toInt = K.toInt + 1) : FX9_isIn k.toInt64 K = FX8_isIndex k n := by
  unfold FX9_isIn FX8_isIndex
  have z4 : (0 : Int64).toInt = 0 := rfl
  have z3 : (0 : Int32).toInt = 0 := rfl
  have e1 : (lg_cmp k.toInt64 0 < 0) ↔ (k < 0) := by
    rw [lgc_lt, Int64.lt_iff_toInt_lt, Int32.lt_iff_toInt_lt, Int32.toInt_toInt64]; omega
  have e2 : (0 < lg_cmp k.toInt64 K) ↔ (n ≤ k) := by
    rw [lgc_gt, Int64.lt_iff_toInt_lt, Int32.le_iff_toInt_le, Int32.toInt_toInt64]; omega
  simp only [e1, e2]
theorem mach_eq (n : Nat) (k : Int32) : FX9_isMachine n k = (FX4_exists n k, 0) := by
  unfold FX9_isMachine FX4_exists FX8_isIndex
  by_cases h1 : k < 0
  · rw [if_pos h1, if_pos h1]
  · rw [if_neg h1, if_neg h1]
    by_cases h2 : nI n ≤ k
    · rw [if_pos h2, if_pos h2]
    · rw [if_neg h2, if_neg h2]
theorem rng {w a b : Int32} (h : b.toInt = a.toInt + 1) : FX8_isIndex w b = 0 ↔ (w < 0 ∨ ¬ w ≤ a) := by
  rw [isIx0, Int32.le_iff_toInt_le, Int32.le_iff_toInt_le]
  exact ⟨fun h1 => h1.elim Or.inl (fun h2 => Or.inr (by omega)), fun h1 => h1.elim Or.inl (fun h2 => Or.inr (by omega))⟩
theorem width_eq (bw : Nat → Int32) (k w : Int32) : FX9_width bw k w = ((FX8_width bw k w).1, 0, (FX8_width bw k w).2) := by
  unfold FX9_width FX8_width FX0_setWidth
  rw [ix_eq (k := k) (n := 64) (by decide), ix_eq (k := w) (n := 1001) (by decide)]
  by_cases h1 : FX8_isIndex k 64 = 0
  · simp only [if_pos h1]
  · simp only [if_neg h1]
    by_cases h2 : w < 0
    · rw [if_pos ((rng (a := 1000) (by decide)).mpr (Or.inl h2))]; simp only [if_pos h2]
    · by_cases h3 : w ≤ 1000
      · rw [if_neg (fun h => ((rng (a := 1000) (by decide)).mp h).elim h2 (fun h4 => h4 h3))]; simp only [if_neg h2, if_pos h3]
      · rw [if_pos ((rng (a := 1000) (by decide)).mpr (Or.inr h3))]; simp only [if_neg h2, if_neg h3]
theorem width_in {bw : Nat → Int32} {k w : Int32} (h : ∀ j, ∃ x : Nat, x ≤ 1000 ∧ bw j = nI x) : ∀ j, ∃ x : Nat, x ≤ 1000 ∧ (FX8_width bw k w).2 j = nI x := by
  unfold FX8_width FX0_setWidth
  by_cases h1 : FX8_isIndex k 64 = 0
  · simp only [if_pos h1]; exact h
  · simp only [if_neg h1]
    by_cases h2 : w < 0
    · simp only [if_pos h2]; exact h
    · by_cases h3 : w ≤ 1000
      · simp only [if_neg h2, if_pos h3]
        obtain ⟨x, hx, rfl⟩ := nI_of2 (n := 1000) (M := 1000) (by decide) h2 h3
        intro j
        by_cases hj : j = k.toNatClampNeg
        · exact ⟨x, hx, by rw [hj, pk_us]⟩
        · rw [pk_un hj]; exact h j
      · simp only [if_neg h2, if_neg h3]; exact h
theorem machine_eq {mp ms : Nat → Int32} {mn : Nat} (h : mn ≤ 6) : FX9_machine mn ms = ((FX8_machine mp ms mn).1, 0, (FX8_machine mp ms mn).2.2.1, (FX8_machine mp ms mn).2.2.2) := by
  unfold FX9_machine FX8_machine FX4_addMachine
  by_cases h1 : mn = 6
  · simp only [if_pos h1, if_neg (show ¬ mn < 6 by omega)]
  · simp only [if_neg h1, if_pos (show mn < 6 by omega)]; rfl
theorem full_eq (mf : Nat → Int32) (mn : Nat) (k on : Int32) : FX9_full mn mf k on = ((FX8_full mf mn k on).1, 0, (FX8_full mf mn k on).2) := by
  unfold FX9_full FX8_full FX4_setFull
  rw [mach_eq]
  by_cases h1 : FX4_exists mn k = 0
  · simp only [if_pos h1]
  · simp only [if_neg h1]
theorem fraud_eq (fp : Nat → Int32) (fn : Nat) (k : Int32) : FX9_fraud fn fp k = (FX8_fraud fp fn k, 0) := by
  unfold FX9_fraud FX8_fraud FX3_machineOf
  by_cases h1 : k < 0
  · rw [if_pos h1, if_pos (isIx0.mpr (Or.inl h1))]
  · by_cases h2 : nI fn ≤ k
    · rw [if_neg h1, if_pos h2, if_pos (isIx0.mpr (Or.inr h2))]
    · rw [if_neg h1, if_neg h2, if_neg (fun h => (isIx0.mp h).elim h1 h2)]
theorem shop_eq (cs : Nat → Int64) (k : Int32) : FX9_shop cs k = (FX8_shop cs k, 0) := by
  unfold FX9_shop FX8_shop FX1_redeemedBy
  rw [ix_eq (n := 100) (by decide)]
  by_cases h1 : FX8_isIndex k 100 = 0
  · simp only [if_pos h1]
  · simp only [if_neg h1]
theorem cleared_eq (vb : Nat → Int64) (k : Int32) : FX9_cleared vb k = (FX8_cleared vb k, 0) := by
  unfold FX9_cleared FX8_cleared
  rw [ix_eq (n := 3) (by decide)]
  by_cases h1 : FX8_isIndex k 3 = 0
  · simp only [if_pos h1]
  · simp only [if_neg h1]
theorem redeem_eq (ca cr : Nat → Int32) (cs : Nat → Int64) (cn : Nat) (k w : Int32) : FX9_redeem cn ca cr cs k w = ((FX8_redeem ca cr cs cn k w).1, 0, (FX8_redeem ca cr cs cn k w).2.1, (FX8_redeem ca cr cs cn k w).2.2) := by
  unfold FX9_redeem FX8_redeem FX1_redeemAt
  rw [ix_eq (n := 100) (by decide)]
  by_cases h1 : k < 0
  · simp only [if_pos h1, if_pos (isIx0.mpr (Or.inl h1) : FX8_isIndex k (nI cn) = 0)]
  · by_cases h2 : nI cn ≤ k
    · simp only [if_neg h1, if_pos h2, if_pos (isIx0.mpr (Or.inr h2) : FX8_isIndex k (nI cn) = 0)]
    · simp only [if_neg h1, if_neg h2, if_neg (fun h => (isIx0.mp h).elim h1 h2 : ¬ FX8_isIndex k (nI cn) = 0)]
      by_cases h3 : FX8_isIndex w 100 = 0
      · simp only [if_pos h3]
      · by_cases h4 : cr k.toNatClampNeg = 0
        · simp only [if_neg h3, if_pos h4]
        · simp only [if_neg h3, if_neg h4]
theorem count_l (mn yn : Nat) (yp yh : Nat → Int32) (k sh : Int32) (n : Nat) : ∀ (j q : Nat), FX9_count_l28 mn yn yp yh k sh n j q = ((FX6_paidBy_l5 yp yh yn k sh n j q).toInt64, 0) := by
  induction n with
  | zero => intro j q; rfl
  | succ n ih =>
    intro j q
    rw [FX9_count_l28, FX6_paidBy_l5, mach_eq]
    repeat' split
    all_goals first | rfl | exact ih _ _
theorem count_eq (mn yn : Nat) (yp yh : Nat → Int32) (k sh : Int32) : FX9_count mn yn yp yh k sh = (FX8_count mn yp yh yn k sh, 0) := by
  unfold FX9_count FX8_count FX7_exists FX6_paidBy
  rw [mach_eq, ix_eq (n := 8) (by decide)]
  by_cases h1 : FX4_exists mn k = 0
  · simp only [if_pos h1]
  · by_cases h2 : FX8_isIndex sh 8 = 0
    · simp only [if_neg h1, if_pos h2]
    · simp only [if_neg h1, if_neg h2]; exact count_l _ _ _ _ _ _ _ _ _
theorem num_eq (v : Int64) : FX9_isIn v 999999999999999999 = FX5_isNumber v := rfl
theorem lg0_sym {x y : Int64} : lg_cmp x y = 0 ↔ lg_cmp y x = 0 := by rw [lgc_eq, lgc_eq]; exact ⟨Eq.symm, Eq.symm⟩
theorem mark_eq (v ky sw : Int64) : FX9_mark v ky sw = (FX8_mark v ky sw, 0) := by
  unfold FX9_mark FX8_mark
  rw [num_eq v, num_eq ky, num_eq sw]
  by_cases h1 : FX5_isNumber v = 0
  · simp only [if_pos h1]
  · by_cases h2 : FX5_isNumber ky = 0
    · simp only [if_neg h1, if_pos h2]
    · by_cases h3 : FX5_isNumber sw = 0
      · simp only [if_neg h1, if_neg h2, if_pos h3]
      · simp only [if_neg h1, if_neg h2, if_neg h3]
        split
        · next h4 => rw [if_pos (lg0_sym.mp h4)]
        · next h4 => rw [if_neg (fun h => h4 (lg0_sym.mp h))]
/-- told spans, on both sides -/
def RS (pt pl rle : Nat → Int32) : Prop := ∀ j, (pt j = 0 ∧ rle j = -1) ∨ (pt j = 1 ∧ rle j = pl j ∧ ¬ pl j < 0)
theorem shape_eq (pt pl pm rle : Nat → Int32) (k le mo : Int32) : (FX9_shape rle pm k le mo).1 = (FX8_shape pt pl pm k le mo).1 ∧ (FX9_shape rle pm k le mo).2.1 = 0 ∧ (FX9_shape rle pm k le mo).2.2.2 = (FX8_shape pt pl pm k le mo).2.2.2 ∧
    (RS pt pl rle → RS (FX8_shape pt pl pm k le mo).2.1 (FX8_shape pt pl pm k le mo).2.2.1 (FX9_shape rle pm k le mo).2.2.1) := by
  unfold FX9_shape FX8_shape FX7_tell FX7_exists
  rw [ix_eq (k := k) (n := 8) (by decide), ix_eq (k := le) (n := 100001) (by decide), ix_eq (k := mo) (n := 100001) (by decide)]
  by_cases h1 : FX8_isIndex k 8 = 0
  · simp only [if_pos h1]; exact ⟨trivial, trivial, trivial, id⟩
  · simp only [if_neg h1]
    have r1 := @rng le 100000 100001 (by decide)
    have r2 := @rng mo 100000 100001 (by decide)
    by_cases h2 : le < 0
    · rw [if_pos (r1.mpr (Or.inl h2))]; simp only [if_pos h2]; exact ⟨trivial, trivial, trivial, id⟩
    · simp only [if_neg h2]
      by_cases h3 : 100000 < mo
      · simp only [if_pos h3]
        have : ¬ mo ≤ 100000 := by rw [Int32.lt_iff_toInt_lt] at h3; rw [Int32.le_iff_toInt_le]; omega
        rw [if_pos (r2.mpr (Or.inr this))]
        split <;> exact ⟨rfl, rfl, rfl, id⟩
      · simp only [if_neg h3]
        by_cases h4 : le ≤ mo
        · simp only [if_pos h4]
          rw [Int32.lt_iff_toInt_lt] at h2 h3
          rw [Int32.le_iff_toInt_le] at h4
          have z3 : (0 : Int32).toInt = 0 := rfl
          rw [if_neg (fun h => (r1.mp h).elim (by rw [Int32.lt_iff_toInt_lt]; omega) (by rw [Int32.le_iff_toInt_le]; omega)), if_neg (fun h => (r2.mp h).elim (by rw [Int32.lt_iff_toInt_lt]; omega) (by rw [Int32.le_iff_toInt_le]; omega))]
          refine ⟨rfl, rfl, rfl, fun hR j => ?_⟩
          by_cases hj : j = k.toNatClampNeg
          · rw [hj]; simp only [pk_us]; exact Or.inr ⟨by first | rfl | trivial, by first | rfl | trivial, by rw [Int32.lt_iff_toInt_lt]; omega⟩
          · simp only [pk_un hj]; exact hR j
        · simp only [if_neg h4]
          split
          · exact ⟨rfl, rfl, rfl, id⟩
          · split <;> exact ⟨rfl, rfl, rfl, id⟩
/-- power on the one side, dark on the other; a machine that is yet to come isn't dark -/
def RP (mp rda : Nat → Int32) (mn : Nat) : Prop := (∀ j, j < mn → isB (mp j) ∧ (rda j = 0 ↔ ¬ mp j = 0)) ∧ ∀ j, mn ≤ j → rda j = 0
theorem power_eq {mp rda : Nat → Int32} {mn : Nat} {k on : Int32} (hmn : mn ≤ 6) (hon : isB on) : (FX9_power mn rda k on).1 = (FX8_power mp mn k on).1 ∧ (FX9_power mn rda k on).2.1 = 0 ∧ (RP mp rda mn → RP (FX8_power mp mn k on).2 (FX9_power mn rda k on).2.2 mn) := by
  unfold FX9_power FX8_power FX4_setPower
  rw [mach_eq]
  by_cases h1 : FX4_exists mn k = 0
  · simp only [if_pos h1]; exact ⟨trivial, trivial, id⟩
  · simp only [if_neg h1]
    obtain ⟨i, hi, rfl⟩ := isIx_lt (n := mn) h1 (by omega)
    rw [nI_clamp (by omega)]
    rcases hon with rfl | rfl
    · simp only [if_true]
      refine ⟨trivial, trivial, fun hR => ⟨fun j hj => ?_, fun j hj => ?_⟩⟩
      · by_cases e : j = i
        · rw [e]; simp only [pk_us]; exact ⟨by first | exact Or.inl rfl | exact Or.inr rfl, by decide⟩
        · simp only [pk_un e]; exact hR.1 j hj
      · rw [pk_un (show j ≠ i by omega)]; exact hR.2 j hj
    · simp only [if_neg (show ¬ (1 : Int32) = 0 by decide)]
      refine ⟨trivial, trivial, fun hR => ⟨fun j hj => ?_, fun j hj => ?_⟩⟩
      · by_cases e : j = i
        · rw [e]; simp only [pk_us]; exact ⟨by first | exact Or.inl rfl | exact Or.inr rfl, by decide⟩
        · simp only [pk_un e]; exact hR.1 j hj
      · rw [pk_un (show j ≠ i by omega)]; exact hR.2 j hj
theorem machine_RP {mp ms rda : Nat → Int32} {mn : Nat} (h : RP mp rda mn) : RP (FX8_machine mp ms mn).2.1 rda (FX8_machine mp ms mn).2.2.2 := by
  unfold FX8_machine FX4_addMachine
  by_cases h1 : mn < 6
  · simp only [if_pos h1]
    refine ⟨fun j hj => ?_, fun j hj => h.2 j (by omega)⟩
    by_cases e : j = mn
    · rw [e, pk_us, h.2 mn (Nat.le_refl _)]; exact ⟨by first | exact Or.inl rfl | exact Or.inr rfl, by decide⟩
    · rw [pk_un e]; exact h.1 j (by omega)
  · simp only [if_neg h1]; exact h
