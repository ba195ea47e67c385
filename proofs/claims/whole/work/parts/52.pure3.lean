/-! PURE ROWS 3: check digits, decimals -/
theorem lrem10 {x : Nat} (h : x < 2 ^ 63) : (lN x - lN x / 10 * 10).toInt32 = nI (x % 10) := by
  rw [show (10 : Int64) = lN 10 from rfl, pk_lRem h (by decide) (by decide), lN_i]
theorem lremL {x : Nat} (h : x < 2 ^ 63) : lN x - lN x / 10 * 10 = lN (x % 10) := by
  rw [show (10 : Int64) = lN 10 from rfl, pk_lRem h (by decide) (by decide)]
theorem ldiv10 {x : Nat} (h : x < 2 ^ 63) : lN x / 10 = lN (x / 10) := by
  rw [show (10 : Int64) = lN 10 from rfl, pk_lDiv h (by decide) (by decide)]
theorem lN_le0 {x : Nat} (h : x < 2 ^ 63) : lg_cmp (lN x) 0 ≤ 0 ↔ x = 0 := by
  rw [lgc_le, show (0 : Int64) = lN 0 from rfl, pk_lLE h (by decide)]; omega
theorem lN_le9 {x : Nat} (h : x < 2 ^ 63) : lg_cmp (lN x) 9 ≤ 0 ↔ x ≤ 9 := by
  rw [lgc_le, show (9 : Int64) = lN 9 from rfl, pk_lLE h (by decide)]
/-- the sum that both take, digit by digit -/
def CS (kd : Int32) : Nat → Nat → Int32 → Nat → Int32
  | 0, _, sm, _ => sm
  | n + 1, k, sm, x => CS kd n (k + 1) (sm + (if k % 2 = 0 then FX5_weighed kd (nI (x % 10)) else nI (x % 10))) (x / 10)
def fin10 (sm : Int32) : Int32 := (10 - (sm - sm / 10 * 10)) - (10 - (sm - sm / 10 * 10)) / 10 * 10
theorem wei_0 (kd : Int32) : FX5_weighed kd (nI 0) = 0 := by
  unfold FX5_weighed
  split
  · rfl
  · rfl
theorem CS_0 (kd : Int32) (n : Nat) : ∀ (k : Nat) (sm : Int32), CS kd n k sm 0 = sm := by
  induction n with
  | zero => intro k sm; rfl
  | succ n ih =>
    intro k sm
    rw [CS, show (0 : Nat) % 10 = 0 from rfl, show (0 : Nat) / 10 = 0 from rfl, wei_0, show nI 0 = 0 from rfl, ih]
    split <;> exact Int32.add_zero sm
theorem CS_1 (kd : Int32) (n : Nat) : ∀ (k : Nat) (sm : Int32) (x : Nat), x < 10 ^ n → CS kd (n + 1) k sm x = CS kd n k sm x := by
  induction n with
  | zero =>
    intro k sm x h
    have : x = 0 := by simpa using h
    rw [this, CS_0, CS_0]
  | succ n ih =>
    intro k sm x h
    rw [CS, CS]
    exact ih _ _ _ (by rw [Nat.pow_succ] at h; omega)
theorem cd_l (kd : Int32) (n : Nat) : ∀ (k : Nat) (sm : Int32) (x : Nat), k + n = 18 → x < 2 ^ 63 → FX5_checkDigit_l8 kd (n + 1) k sm (lN x) = fin10 (CS kd n k sm x) := by
  induction n with
  | zero => intro k sm x h hx; rw [FX5_checkDigit_l8, if_pos (by omega)]; rfl
  | succ n ih =>
    intro k sm x h hx
    rw [FX5_checkDigit_l8, if_neg (by omega), CS, lrem10 hx, ldiv10 hx]
    by_cases h2 : k % 2 = 0
    · rw [if_pos h2, if_pos h2]; exact ih _ _ _ (by omega) (by omega)
    · rw [if_neg h2, if_neg h2]; exact ih _ _ _ (by omega) (by omega)
theorem co_l (kd : Int32) (n : Nat) : ∀ (k : Nat) (sm od : Int32) (x : Nat), x < 10 ^ n → x < 2 ^ 63 → (od = if k % 2 = 0 then 1 else 0) → FX9_checkOf_l8 kd (n + 1) sm od (lN x) = fin10 (CS kd n k sm x) := by
  induction n with
  | zero =>
    intro k sm od x h hx ho
    have : x = 0 := by simpa using h
    rw [FX9_checkOf_l8, if_pos ((lN_le0 hx).mpr this)]; rfl
  | succ n ih =>
    intro k sm od x h hx ho
    rw [FX9_checkOf_l8]
    by_cases h0 : x = 0
    · rw [if_pos ((lN_le0 hx).mpr h0), h0, CS_0]; rfl
    · rw [if_neg (fun q => h0 ((lN_le0 hx).mp q)), CS, lrem10 hx, ldiv10 hx]
      have hlt : x / 10 < 10 ^ n := by rw [Nat.pow_succ] at h; omega
      have hx2 : x / 10 < 2 ^ 63 := by omega
      by_cases h2 : k % 2 = 0
      · have hod : ¬ od = 0 := by rw [ho, if_pos h2]; decide
        have ho2 : (0 : Int32) = if (k + 1) % 2 = 0 then 1 else 0 := by rw [if_neg (by omega)]
        simp only [if_pos h2, if_neg hod]
        unfold FX5_weighed
        by_cases hk : kd = 0
        · simp only [if_pos hk]
          split <;> exact ih _ _ _ _ hlt hx2 ho2
        · simp only [if_neg hk]
          split
          · exact ih _ _ _ _ hlt hx2 ho2
          · exact ih _ _ _ _ hlt hx2 ho2
      · have hod : od = 0 := by rw [ho, if_neg h2]
        have ho2 : (1 : Int32) = if (k + 1) % 2 = 0 then 1 else 0 := by rw [if_pos (by omega)]
        simp only [if_neg h2, if_pos hod]
        split <;> exact ih _ _ _ _ hlt hx2 ho2
theorem check_nat (kd : Int32) {x : Nat} (h : x < 10 ^ 18) : FX9_checkOf kd (lN x) = FX5_checkDigit kd (lN x) := by
  unfold FX9_checkOf FX5_checkDigit
  rw [co_l kd 19 0 0 1 x (by omega) (by omega) rfl, cd_l kd 18 0 0 x (by omega) (by omega), CS_1 kd 18 0 0 x h]
theorem num_nat {v : Int64} (h : ¬ FX5_isNumber v = 0) : ∃ x : Nat, x < 10 ^ 18 ∧ v = lN x := by
  rw [← num_eq, isIn_iff] at h
  obtain ⟨x, hx, rfl⟩ := pk_lOf (x := v) (fun q => by rw [Int64.lt_iff_toInt_lt] at q; rw [Int64.le_iff_toInt_le, Int64.le_iff_toInt_le] at h; omega)
  have h2 := h.2
  rw [show (999999999999999999 : Int64) = lN 999999999999999999 from rfl, pk_lLE hx (by decide)] at h2
  exact ⟨x, by omega, rfl⟩
theorem kind_eq (kd : Int32) : FX9_isIn kd.toInt64 1 = FX5_isKind kd := ix_eq (by decide)
theorem check_eq (kd : Int32) (v : Int64) : FX9_check kd v = (FX8_check kd v, 0) := by
  unfold FX9_check FX8_check
  rw [kind_eq, num_eq]
  by_cases h1 : FX5_isKind kd = 0
  · rw [if_pos h1, if_pos h1]
  · rw [if_neg h1, if_neg h1]
    by_cases h2 : FX5_isNumber v = 0
    · rw [if_pos h2, if_pos h2]
    · rw [if_neg h2, if_neg h2]
      obtain ⟨x, hx, rfl⟩ := num_nat h2
      rw [check_nat kd hx]
theorem good_nat (kd : Int32) {x : Nat} (h : x < 10 ^ 18) : FX9_checkOf kd (lN x / 10) = FX5_checkDigit kd (lN x / 10) := by
  rw [ldiv10 (by omega)]; exact check_nat kd (by omega)
theorem good_eq (kd : Int32) (v : Int64) : FX9_good kd v = (FX8_good kd v, 0) := by
  unfold FX9_good FX8_good FX5_isGood
  rw [kind_eq, num_eq]
  by_cases h1 : FX5_isKind kd = 0
  · rw [if_pos h1, if_pos h1]
  · rw [if_neg h1, if_neg h1]
    by_cases h2 : FX5_isNumber v = 0
    · rw [if_pos h2, if_pos h2]
    · rw [if_neg h2, if_neg h2]
      obtain ⟨x, hx, rfl⟩ := num_nat h2
      rw [good_nat kd hx]
      split
      · rw [if_neg (by decide)]
      · rw [if_pos rfl]
theorem dec_l (n : Nat) : ∀ (k x : Nat), k + n = 19 → 1 ≤ k → k ≤ 18 → x < 10 ^ (19 - k) → FX5_decimals_l8 n k (lN (x / 10)) = nI (FX9_decimals_l4 (n + 1) k (lN x)) := by
  induction n with
  | zero => intro k x h1 h2 h3; omega
  | succ n ih =>
    intro k x h1 h2 h3 hx
    have hb : x < 2 ^ 63 := Nat.lt_of_lt_of_le hx (Nat.le_trans (Nat.pow_le_pow_right (by decide) (show 19 - k ≤ 18 by omega)) (by decide))
    rw [FX5_decimals_l8, FX9_decimals_l4]
    by_cases h9 : x ≤ 9
    · rw [if_pos ((lN_le0 (by omega)).mpr (by omega)), if_pos ((lN_le9 hb).mpr h9)]
    · rw [if_neg (fun q => by have := (lN_le0 (by omega)).mp q; omega), if_neg (fun q => h9 ((lN_le9 hb).mp q))]
      have hk : ¬ 18 ≤ k := fun q => by
        have : k = 18 := by omega
        subst this
        simp at hx
        omega
      rw [if_neg hk, ldiv10 (x := x / 10) (by omega), ldiv10 hb]
      exact ih (k + 1) (x / 10) (by omega) (by omega) (by omega) (by
        rw [show 19 - k = (19 - (k + 1)) + 1 by omega, Nat.pow_succ] at hx; omega)
theorem dec_eq {x : Nat} (h : x < 10 ^ 18) : FX5_decimals (lN x) = nI (FX9_decimals (lN x)) := by
  unfold FX5_decimals FX9_decimals
  rw [ldiv10 (by omega)]
  exact dec_l 18 1 x (by omega) (by omega) (by omega) h
theorem dec_le18 {x : Nat} (h : x < 10 ^ 18) : FX9_decimals (lN x) ≤ 18 := by
  obtain ⟨j, h1, h2, h3⟩ := FX5_decimals_le (lN x)
  rw [dec_eq h, nI_eq (by have := FX9_decimals_in (lN x); omega) (by omega)] at h3
  omega
theorem l25_eq {v : Int64} {w : Int32} {b : Nat} (hb : FX5_decimals v - 1 - w = nI b) (hb2 : b ≤ 17) (n : Nat) : ∀ (k x : Nat), k + n = 18 → k ≤ b → x < 2 ^ 63 → FX5_decimalAt_l25 v w n k (lN x) = nI (x / 10 ^ (b - k) % 10) := by
  induction n with
  | zero => intro k x h1 h2; omega
  | succ n ih =>
    intro k x h1 h2 hx
    rw [FX5_decimalAt_l25, hb]
    by_cases h3 : b ≤ k
    · rw [if_pos (nI_le h3 (by omega)), lrem10 hx, show b - k = 0 by omega, Nat.pow_zero, Nat.div_one]
    · rw [if_neg (fun q => h3 ((nI_leI (by omega) (by omega)).mp q)), ldiv10 hx, ih (k + 1) (x / 10) (by omega) (by omega) (by omega)]
      rw [show b - k = (b - (k + 1)) + 1 by omega, Nat.pow_succ, Nat.mul_comm, Nat.div_div_eq_div_mul]
theorem l95_eq {w : Int32} {p : Nat} (hp : w - 3 = nI p) (hp2 : p < 100) (n : Nat) : ∀ (i x : Nat), i < n → i < 100 → x < 2 ^ 63 → p ≤ i → FX9_double2_l95 w n i (lN x) = (nI (x / 10 ^ (i - p) % 10), 0) := by
  induction n with
  | zero => intro i x h; omega
  | succ n ih =>
    intro i x h1 h2 hx h4
    rw [FX9_double2_l95, hp]
    by_cases h3 : i ≤ p
    · rw [if_pos (nI_le h3 (by omega)), lrem10 hx, show i - p = 0 by omega, Nat.pow_zero, Nat.div_one]
    · rw [if_neg (fun q => h3 ((nI_leI (by omega) (by omega)).mp q)), ldiv10 hx, ih (i - 1) (x / 10) (by omega) (by omega) (by omega) (by omega)]
      rw [show i - p = (i - 1 - p) + 1 by omega, Nat.pow_succ, Nat.mul_comm, Nat.div_div_eq_div_mul]
theorem double2_eq {dz : Nat → Int64} {da db : Nat → Int32} {dn : Nat} {k w : Int32} (hdn : dn ≤ 200) (hz : ∀ j, j < dn → ∃ x : Nat, x < 10 ^ 18 ∧ dz j = lN x) : FX9_double2 dn dz da db k w = (FX8_double2 dz da db dn k w, 0) := by
  unfold FX9_double2 FX8_double2 FX2_part
  by_cases h1 : k < 0
  · rw [if_pos h1, if_pos (isIx0.mpr (Or.inl h1))]
  · rw [if_neg h1]
    by_cases h2 : nI dn ≤ k
    · rw [if_pos h2, if_pos (isIx0.mpr (Or.inr h2))]
    · rw [if_neg h2, if_neg (fun h => (isIx0.mp h).elim h1 h2)]
      obtain ⟨j, hj, rfl⟩ := vp_in_of (nle_in h1 h2 (Nat.le_refl dn) (by omega)) (by omega)
      rw [nI_clamp (by omega)]
      obtain ⟨x, hx, ex⟩ := hz j hj
      rw [ex]
      by_cases h3 : w < 0
      · rw [if_pos h3, if_neg (fun q => by rw [Int32.lt_iff_toInt_lt] at h3; rw [Int32.le_iff_toInt_le] at q; omega)]
      · have h0w : 0 ≤ w := by rw [Int32.lt_iff_toInt_lt] at h3; rw [Int32.le_iff_toInt_le]; omega
        rw [if_neg h3, if_pos h0w]
        obtain ⟨y, hy, rfl⟩ := nI_of h3
        have hd1 := FX9_decimals_in (lN x)
        have hd2 := dec_le18 hx
        by_cases h4 : nI y ≤ 20
        · have hy2 : y ≤ 20 := (nI_leI (a := y) (b := 20) hy (by omega)).mp h4
          rw [if_pos h4]
          by_cases h5 : 3 ≤ nI y
          · have hy3 : 3 ≤ y := (nI_leI (a := 3) (b := y) (by omega) hy).mp h5
            have e3 : nI y - 3 = nI (y - 3) := pk_sub (a := y) (b := 3) hy3
            have n0 : ¬ nI y = 0 := fun q => by have := (nI_eq (a := y) (b := 0) hy (by omega)).mp q; omega
            have n1 : ¬ nI y = 1 := fun q => by have := (nI_eq (a := y) (b := 1) hy (by omega)).mp q; omega
            have n2 : ¬ nI y = 2 := fun q => by have := (nI_eq (a := y) (b := 2) hy (by omega)).mp q; omega
            rw [if_pos h5, if_neg n0, if_neg n1, if_neg n2, e3]
            unfold FX5_decimalAt
            rw [if_neg (nI_pos (by omega)), dec_eq hx]
            by_cases h6 : y - 3 < FX9_decimals (lN x)
            · have eb : nI (FX9_decimals (lN x)) - 1 - nI (y - 3) = nI (FX9_decimals (lN x) - 1 - (y - 3)) := by
                rw [show (1 : Int32) = nI 1 from rfl, pk_sub (a := FX9_decimals (lN x)) (b := 1) (by omega), pk_sub (a := FX9_decimals (lN x) - 1) (b := y - 3) (by omega)]
              rw [if_pos (nI_lt h6 (by omega)), eb, if_pos (nI_pos' (by omega)), l95_eq e3 (by omega) 20 _ x (by omega) (by omega) (by omega) (by omega),
                l25_eq (b := FX9_decimals (lN x) - 1 - (y - 3)) (by rw [dec_eq hx, eb]) (by omega) 18 0 x (by omega) (by omega) (by omega), Nat.sub_zero]
            · rw [if_neg (fun q => h6 ((nI_ltI (by omega) (by omega)).mp q)), if_neg (fun q => by
                have e9 : nI (FX9_decimals (lN x)) - 1 = nI (FX9_decimals (lN x) - 1) := pk_sub (a := FX9_decimals (lN x)) (b := 1) (by omega)
                rw [e9, Int32.le_iff_toInt_le, pk_sub_toInt (by omega) (by omega)] at q
                have : (0 : Int32).toInt = 0 := rfl
                omega)]
          · have hy3 : y < 3 := Nat.lt_of_not_le (fun q => h5 (nI_le (a := 3) q hy))
            rw [if_neg h5]
            rcases (show y = 0 ∨ y = 1 ∨ y = 2 by omega) with rfl | rfl | rfl
            · rw [if_pos (show nI 0 = 0 from rfl), if_pos (show nI 0 = 0 from rfl)]
            · rw [if_neg (show ¬ nI 1 = 0 by decide), if_pos (show nI 1 = 1 from rfl), if_neg (show ¬ nI 1 = 0 by decide), if_pos (show nI 1 = 1 from rfl)]
            · rw [if_neg (show ¬ nI 2 = 0 by decide), if_neg (show ¬ nI 2 = 1 by decide), if_neg (show ¬ nI 2 = 0 by decide), if_neg (show ¬ nI 2 = 1 by decide), if_pos (show nI 2 = 2 from rfl), dec_eq hx]
        · have hy2 : 20 < y := Nat.lt_of_not_le (fun q => h4 (nI_le (b := 20) q (by omega)))
          have e3 : nI y - 3 = nI (y - 3) := pk_sub (a := y) (b := 3) (by omega)
          have n0 : ¬ nI y = 0 := fun q => by have := (nI_eq (a := y) (b := 0) hy (by omega)).mp q; omega
          have n1 : ¬ nI y = 1 := fun q => by have := (nI_eq (a := y) (b := 1) hy (by omega)).mp q; omega
          have n2 : ¬ nI y = 2 := fun q => by have := (nI_eq (a := y) (b := 2) hy (by omega)).mp q; omega
          rw [if_neg h4, if_neg n0, if_neg n1, if_neg n2, e3]
          unfold FX5_decimalAt
          rw [if_neg (nI_pos (by omega)), dec_eq hx, if_neg (fun q => by
            have e9 : nI (FX9_decimals (lN x)) - 1 = nI (FX9_decimals (lN x) - 1) := pk_sub (a := FX9_decimals (lN x)) (b := 1) (by omega)
            rw [e9, Int32.le_iff_toInt_le] at q
            have z0 : (0 : Int32).toInt = 0 := rfl
            rw [Int32.toInt_sub, nI_toInt (by omega), nI_toInt (by omega), Int.bmod_def] at q
            omega)]
