/-! PURE ROWS 2: bars -/
def WOK (bw : Nat → Int32) : Prop := ∀ j, ∃ x : Nat, x ≤ 1000 ∧ bw j = nI x
theorem size_l (bw : Nat → Int32) (h : WOK bw) (n : Nat) : ∀ k : Nat, FX9_size_l2 bw n k = FX0_rowLength_l2 bw n k := by
  induction n with
  | zero => intro k; rfl
  | succ n ih =>
    intro k
    rw [FX9_size_l2, FX0_rowLength_l2]
    by_cases h1 : 64 ≤ k
    · rw [if_pos h1, if_pos h1]
    · rw [if_neg h1, if_neg h1]
      obtain ⟨x, hx, e⟩ := h k
      by_cases h2 : bw k = 0
      · rw [if_pos h2, if_pos (by rw [h2]; decide)]
      · rw [if_neg h2, if_neg (fun h3 => h2 (by
          rw [e] at h3 ⊢
          have h4 : nI x ≤ nI 0 := h3
          rw [nI_leI (by omega) (by omega)] at h4
          rw [Nat.le_zero.mp h4]; rfl))]
        exact ih _
theorem size_eq {bw : Nat → Int32} (h : WOK bw) : FX9_size bw = FX0_rowLength bw := size_l bw h 65 0
theorem row_pos (bw : Nat → Int32) (n : Nat) : ∀ k : Nat, ∀ j, k ≤ j → j < FX0_rowLength_l2 bw n k → ¬ bw j = 0 := by
  induction n with
  | zero => intro k j h1 h2; rw [FX0_rowLength_l2] at h2; omega
  | succ n ih =>
    intro k j h1 h2
    rw [FX0_rowLength_l2] at h2
    split at h2
    · omega
    · split at h2
      · omega
      · next h3 h4 =>
        rcases Nat.eq_or_lt_of_le h1 with rfl | h5
        · exact h4
        · exact ih (k + 1) j h5 h2
theorem wat {bw : Nat → Int32} {i : Nat} (h : i < 64) : FX0_widthAt bw (nI i) = bw i := by
  unfold FX0_widthAt
  rw [if_neg (fun h1 => (isIx0.mp h1).elim (nI_pos (by omega)) (fun h2 => by
    have h3 : nI 64 ≤ nI i := h2
    rw [nI_leI (by omega) (by omega)] at h3; omega)), nI_clamp (by omega)]
theorem wat_f {bw : Nat → Int32} {a k : Nat} (h : a + k < 64) : FX0_widthAt bw (nI a + nI k * 1) = bw (a + k) := by
  rw [show (1 : Int32) = nI 1 from rfl, pk_mul, nI_add, Nat.mul_one]; exact wat h
theorem wat_b {bw : Nat → Int32} {L a k : Nat} (h : a + k < L) (hL : L ≤ 64) : FX0_widthAt bw ((nI L - 1 - nI a) + nI k * (-1)) = bw (L - 1 - (a + k)) := by
  have e1 : nI L - 1 - nI a = nI (L - 1 - a) := by rw [show (1 : Int32) = nI 1 from rfl, pk_sub (a := L) (b := 1) (by omega), pk_sub (a := L - 1) (b := a) (by omega)]
  have e2 : nI k * (-1) = - nI k := by rw [Int32.mul_neg, Int32.mul_one]
  have e3 : nI (L - 1 - a) + - nI k = nI (L - 1 - (a + k)) := by
    rw [← Int32.sub_eq_add_neg, pk_sub (a := L - 1 - a) (b := k) (by omega)]
    congr 1; omega
  rw [e1, e2, e3]; exact wat (by omega)
theorem pat_eq : ∀ d, d < 10 → ∀ k, k < 4 → patF (d * 4 + k) = FX9_pattern d k := by decide +kernel
/-- the sum of four, as both loops take it -/
def sm4 (w : Nat → Int32) : Nat → Nat → Int32 → Int32
  | 0, _, s => s
  | n + 1, k, s => if 4 ≤ k then s else sm4 w n (k + 1) (s + w k)
theorem l34_eq {bw w : Nat → Int32} {d : Nat} {sp fr : Int32} (hw : ∀ k, k < 4 → FX0_widthAt bw (fr + nI k * sp) = w k) (n : Nat) : ∀ (k : Nat) (s : Int32), k + n = 5 → k ≤ 4 → FX0_matches_l34 bw d n k s sp fr = FX0_matches_l66 bw d 5 0 (sm4 w n k s) sp fr := by
  induction n with
  | zero => intro k s h1 h2; omega
  | succ n ih =>
    intro k s h1 h2
    rw [FX0_matches_l34, sm4]
    by_cases h3 : 4 ≤ k
    · rw [if_pos h3, if_pos h3]
    · rw [if_neg h3, if_neg h3, hw k (by omega)]
      exact ih _ _ (by omega) (by omega)
theorem l66_iff {bw w : Nat → Int32} {d : Nat} {sm sp fr : Int32} (hd : d < 10) (hw : ∀ k, k < 4 → FX0_widthAt bw (fr + nI k * sp) = w k) (n : Nat) : ∀ k : Nat, k + n = 5 → k ≤ 4 → (FX0_matches_l66 bw d n k sm sp fr = 0 ↔ ¬ ∀ j, k ≤ j → j < 4 → 7 * w j = sm * FX9_pattern d j) := by
  induction n with
  | zero => intro k h1 h2; omega
  | succ n ih =>
    intro k h1 h2
    rw [FX0_matches_l66]
    by_cases h3 : 4 ≤ k
    · rw [if_pos h3]; exact ⟨fun h => absurd h (by decide), fun h => absurd (fun j a b => by omega) h⟩
    · rw [if_neg h3, hw k (by omega), pat_eq d hd k (by omega)]
      by_cases h4 : 7 * w k = sm * FX9_pattern d k
      · rw [if_pos h4, ih (k + 1) (by omega) (by omega)]
        refine not_congr ⟨fun h j a b => ?_, fun h j a b => h j (by omega) b⟩
        rcases Nat.eq_or_lt_of_le a with rfl | a
        · exact h4
        · exact h j a b
      · rw [if_neg h4]; exact ⟨fun _ h => h4 (h k (Nat.le_refl k) (by omega)), fun _ => rfl⟩
/-- digit d's pattern is there -/
def Mt (w : Nat → Int32) (d : Nat) : Prop := ∀ j, j < 4 → 7 * w j = sm4 w 5 0 0 * FX9_pattern d j
theorem mat_iff {bw : Nat → Int32} {L a d : Nat} {rv : Int32} (hL : L = FX0_rowLength bw) (hok : WOK bw) (hd : d < 10) (ha : a + 4 ≤ L) : (FX0_matches bw d (nI a) (nI L) rv = 0 ↔ ¬ Mt (fun k => FX9_at bw (a + k) rv) d) := by
  have hl64 : L ≤ 64 := by rw [hL]; exact FX0_rowLength_le bw
  unfold FX0_matches
  by_cases h : rv = 0
  · simp only [if_pos h]
    have hw : ∀ k, k < 4 → FX0_widthAt bw (nI a + nI k * 1) = (fun k => FX9_at bw (a + k) rv) k := fun k hk => by
      rw [wat_f (by omega)]; show _ = FX9_at bw (a + k) rv; unfold FX9_at; rw [if_pos h]
    rw [l34_eq hw 5 0 0 (by omega) (by omega), l66_iff hd hw 5 0 (by omega) (by omega)]
    exact not_congr ⟨fun h j b => h j (Nat.zero_le j) b, fun h j _ b => h j b⟩
  · simp only [if_neg h]
    have hw : ∀ k, k < 4 → FX0_widthAt bw ((nI L - 1 - nI a) + nI k * (-1)) = (fun k => FX9_at bw (a + k) rv) k := fun k hk => by
      rw [wat_b (by omega) hl64]; show _ = FX9_at bw (a + k) rv; unfold FX9_at; rw [if_neg h, size_eq hok, ← hL]
    rw [l34_eq hw 5 0 0 (by omega) (by omega), l66_iff hd hw 5 0 (by omega) (by omega)]
    exact not_congr ⟨fun h j b => h j (Nat.zero_le j) b, fun h j _ b => h j b⟩
theorem l5_eq {bw : Nat → Int32} {a : Nat} {tu : Int32} (n : Nat) : ∀ (k : Nat) (s : Int32), k + n = 5 → k ≤ 4 → FX9_digitAt_l5 bw a tu n k s = FX9_digitAt_l35 bw a tu 11 0 (-1) (sm4 (fun k => FX9_at bw (a + k) tu) n k s) := by
  induction n with
  | zero => intro k s h1 h2; omega
  | succ n ih =>
    intro k s h1 h2
    rw [FX9_digitAt_l5, sm4]
    by_cases h3 : 4 ≤ k
    · rw [if_pos h3, if_pos h3]
    · rw [if_neg h3, if_neg h3]
      exact ih _ _ (by omega) (by omega)
theorem l48_iff {bw : Nat → Int32} {a d : Nat} {tu sm : Int32} (n : Nat) : ∀ (k : Nat) (ib : Int32), k + n = 5 → k ≤ 4 → ((FX9_digitAt_l48 bw a tu d sm n k ib).2 = 0 ↔ ¬ (¬ ib = 0 ∧ ∀ j, k ≤ j → j < 4 → 7 * FX9_at bw (a + j) tu = sm * FX9_pattern d j)) := by
  induction n with
  | zero => intro k ib h1 h2; omega
  | succ n ih =>
    intro k ib h1 h2
    rw [FX9_digitAt_l48]
    by_cases h3 : 4 ≤ k
    · rw [if_pos h3]; exact ⟨fun h q => q.1 h, fun h => Classical.byContradiction fun q => h ⟨q, fun j x y => by omega⟩⟩
    · rw [if_neg h3]
      by_cases h5 : ib = 0
      · rw [if_pos h5, ih (k + 1) 0 (by omega) (by omega)]
        exact ⟨fun _ q => q.1 h5, fun _ q => q.1 rfl⟩
      · rw [if_neg h5]
        by_cases h4 : 7 * FX9_at bw (a + k) tu = sm * FX9_pattern d k
        · rw [if_pos h4, ih (k + 1) 1 (by omega) (by omega)]
          refine not_congr ⟨fun h => ⟨h5, fun j x y => ?_⟩, fun h => ⟨by decide, fun j x y => h.2 j (by omega) y⟩⟩
          rcases Nat.eq_or_lt_of_le x with rfl | x
          · exact h4
          · exact h.2 j x y
        · rw [if_neg h4, ih (k + 1) 0 (by omega) (by omega)]
          exact ⟨fun _ q => h4 (q.2 k (Nat.le_refl k) (by omega)), fun _ q => q.1 rfl⟩
theorem is_iff {bw : Nat → Int32} {a d : Nat} {tu : Int32} : (FX9_digitAt_l48 bw a tu d (sm4 (fun k => FX9_at bw (a + k) tu) 5 0 0) 5 0 1).2 = 0 ↔ ¬ Mt (fun k => FX9_at bw (a + k) tu) d := by
  rw [l48_iff 5 0 1 (by omega) (by omega)]
  exact not_congr ⟨fun h j b => h.2 j (Nat.zero_le j) b, fun h => ⟨by decide, fun j _ b => h j b⟩⟩
theorem l3_no {bw : Nat → Int32} {L a : Nat} {rv : Int32} (hL : L = FX0_rowLength bw) (hok : WOK bw) (ha : a + 4 ≤ L) (n : Nat) : ∀ d : Nat, d + n = 11 → d ≤ 10 → (∀ x, d ≤ x → x < 10 → ¬ Mt (fun k => FX9_at bw (a + k) rv) x) → FX0_digitOfGroup_l3 bw (nI a) (nI L) rv n d = -1 := by
  induction n with
  | zero => intro d h1 h2; omega
  | succ n ih =>
    intro d h1 h2 h
    rw [FX0_digitOfGroup_l3]
    by_cases h3 : 10 ≤ d
    · rw [if_pos h3]
    · rw [if_neg h3, if_pos ((mat_iff hL hok (by omega) ha).mpr (h d (Nat.le_refl d) (by omega)))]
      exact ih (d + 1) (by omega) (by omega) (fun x a b => h x (by omega) b)
theorem l3_yes {bw : Nat → Int32} {L a d0 : Nat} {rv : Int32} (hL : L = FX0_rowLength bw) (hok : WOK bw) (ha : a + 4 ≤ L) (hd : d0 < 10) (hm : Mt (fun k => FX9_at bw (a + k) rv) d0) (hu : ∀ x, x < 10 → Mt (fun k => FX9_at bw (a + k) rv) x → x = d0) (n : Nat) : ∀ d : Nat, d + n = 11 → d ≤ d0 → FX0_digitOfGroup_l3 bw (nI a) (nI L) rv n d = nI d0 := by
  induction n with
  | zero => intro d h1 h2; omega
  | succ n ih =>
    intro d h1 h2
    rw [FX0_digitOfGroup_l3, if_neg (by omega)]
    by_cases h3 : d = d0
    · rw [h3, if_neg (fun h => ((mat_iff hL hok hd ha).mp h) hm)]
    · rw [if_pos ((mat_iff hL hok (by omega) ha).mpr (fun h => h3 (hu d (by omega) h)))]
      exact ih (d + 1) (by omega) (by omega)
theorem l35_no {bw : Nat → Int32} {a : Nat} {tu : Int32} (n : Nat) : ∀ (d : Nat) (fo : Int32), d + n = 11 → d ≤ 10 → (∀ x, d ≤ x → x < 10 → ¬ Mt (fun k => FX9_at bw (a + k) tu) x) → FX9_digitAt_l35 bw a tu n d fo (sm4 (fun k => FX9_at bw (a + k) tu) 5 0 0) = fo := by
  induction n with
  | zero => intro d fo h1 h2; omega
  | succ n ih =>
    intro d fo h1 h2 h
    rw [FX9_digitAt_l35]
    by_cases h3 : 10 ≤ d
    · rw [if_pos h3]
    · rw [if_neg h3, if_pos (is_iff.mpr (h d (Nat.le_refl d) (by omega)))]
      exact ih (d + 1) fo (by omega) (by omega) (fun x a b => h x (by omega) b)
theorem l35_yes {bw : Nat → Int32} {a d0 : Nat} {tu : Int32} (hd : d0 < 10) (hm : Mt (fun k => FX9_at bw (a + k) tu) d0) (hu : ∀ x, x < 10 → Mt (fun k => FX9_at bw (a + k) tu) x → x = d0) (n : Nat) : ∀ (d : Nat) (fo : Int32), d + n = 11 → d ≤ d0 → FX9_digitAt_l35 bw a tu n d fo (sm4 (fun k => FX9_at bw (a + k) tu) 5 0 0) = nI d0 := by
  induction n with
  | zero => intro d fo h1 h2; omega
  | succ n ih =>
    intro d fo h1 h2
    rw [FX9_digitAt_l35, if_neg (by omega)]
    by_cases h3 : d = d0
    · rw [h3, if_neg (fun h => (is_iff.mp h) hm)]
      exact l35_no n (d0 + 1) (nI d0) (by omega) (by omega) (fun x a b h => by have := hu x b h; omega)
    · rw [if_pos (is_iff.mpr (fun h => h3 (hu d (by omega) h)))]
      exact ih (d + 1) fo (by omega) (by omega)
theorem pat_in : ∀ d, d < 10 → ∀ k, k < 4 → ∃ p : Nat, p ≤ 4 ∧ FX9_pattern d k = nI p := by
  intro d hd k hk
  have h : ∀ d, d < 10 → ∀ k, k < 4 → (FX9_pattern d k).toInt ≤ 4 ∧ 0 ≤ (FX9_pattern d k).toInt := by decide +kernel
  obtain ⟨h1, h2⟩ := h d hd k hk
  obtain ⟨j, hj, e⟩ := nI_of (x := FX9_pattern d k) (by rw [Int32.lt_iff_toInt_lt]; have : (0 : Int32).toInt = 0 := rfl; omega)
  rw [e, nI_toInt hj] at h1
  exact ⟨j, by omega, e⟩
theorem pat_inj : ∀ d, d < 10 → ∀ x, x < 10 → (∀ k, k < 4 → FX9_pattern d k = FX9_pattern x k) → d = x := by
  have h : ∀ d, d < 10 → ∀ x, x < 10 → (FX9_pattern d 0 = FX9_pattern x 0 ∧ FX9_pattern d 1 = FX9_pattern x 1 ∧ FX9_pattern d 2 = FX9_pattern x 2 ∧ FX9_pattern d 3 = FX9_pattern x 3) → d = x := by decide +kernel
  intro d hd x hx hk
  exact h d hd x hx ⟨hk 0 (by decide), hk 1 (by decide), hk 2 (by decide), hk 3 (by decide)⟩
theorem Mt_uni {w : Nat → Int32} (hw : ∀ k, k < 4 → ∃ x : Nat, 1 ≤ x ∧ x ≤ 1000 ∧ w k = nI x) {d x : Nat} (hd : d < 10) (hx : x < 10) (h1 : Mt w d) (h2 : Mt w x) : d = x := by
  obtain ⟨x0, a0, b0, e0⟩ := hw 0 (by decide)
  obtain ⟨x1, a1, b1, e1⟩ := hw 1 (by decide)
  obtain ⟨x2, a2, b2, e2⟩ := hw 2 (by decide)
  obtain ⟨x3, a3, b3, e3⟩ := hw 3 (by decide)
  have es : sm4 w 5 0 0 = nI (x0 + x1 + x2 + x3) := by
    simp only [sm4]
    simp only [if_neg (show ¬ 4 ≤ 0 by decide), if_neg (show ¬ 4 ≤ 0 + 1 by decide), if_neg (show ¬ 4 ≤ 0 + 1 + 1 by decide), if_neg (show ¬ 4 ≤ 0 + 1 + 1 + 1 by decide), if_pos (show 4 ≤ 0 + 1 + 1 + 1 + 1 by decide)]
    rw [show w (0 + 1) = nI x1 from e1, show w (0 + 1 + 1) = nI x2 from e2, show w (0 + 1 + 1 + 1) = nI x3 from e3, e0, show (0 : Int32) = nI 0 from rfl, nI_add, nI_add, nI_add, nI_add, Nat.zero_add]
  refine pat_inj d hd x hx (fun k hk => ?_)
  have q1 := h1 k hk
  have q2 := h2 k hk
  rw [q1, es] at q2
  obtain ⟨p, hp, ep⟩ := pat_in d hd k hk
  obtain ⟨r, hr, er⟩ := pat_in x hx k hk
  rw [ep, er, pk_mul, pk_mul, nI_eq (Nat.lt_of_le_of_lt (Nat.mul_le_mul (show x0 + x1 + x2 + x3 ≤ 4000 by omega) hp) (by decide)) (Nat.lt_of_le_of_lt (Nat.mul_le_mul (show x0 + x1 + x2 + x3 ≤ 4000 by omega) hr) (by decide))] at q2
  rw [ep, er, Nat.eq_of_mul_eq_mul_left (by omega) q2]
theorem at_in {bw : Nat → Int32} (hok : WOK bw) {j : Nat} {tu : Int32} (hj : j < FX0_rowLength bw) : ∃ x : Nat, 1 ≤ x ∧ x ≤ 1000 ∧ FX9_at bw j tu = nI x := by
  have hp : ∀ i, i < FX0_rowLength bw → ∃ x : Nat, 1 ≤ x ∧ x ≤ 1000 ∧ bw i = nI x := fun i hi => by
    obtain ⟨x, hx, e⟩ := hok i
    refine ⟨x, ?_, hx, e⟩
    rcases Nat.eq_zero_or_pos x with rfl | h
    · exact absurd e (row_pos bw 65 0 i (Nat.zero_le i) hi)
    · exact h
  unfold FX9_at
  split
  · exact hp j hj
  · rw [size_eq hok]; exact hp _ (by omega)
/-- a group's digit, on both sides -/
theorem group_eq {bw : Nat → Int32} {L a : Nat} {rv : Int32} (hL : L = FX0_rowLength bw) (hok : WOK bw) (ha : a + 4 ≤ L) :
    (FX0_digitOfGroup bw (nI a) (nI L) rv = -1 ∧ FX9_digitAt bw a rv = -1) ∨ ∃ d, d ≤ 9 ∧ FX0_digitOfGroup bw (nI a) (nI L) rv = nI d ∧ FX9_digitAt bw a rv = nI d := by
  have hw : ∀ k, k < 4 → ∃ x : Nat, 1 ≤ x ∧ x ≤ 1000 ∧ (fun k => FX9_at bw (a + k) rv) k = nI x := fun k hk => at_in hok (by omega)
  unfold FX0_digitOfGroup FX9_digitAt
  rw [l5_eq 5 0 0 (by omega) (by omega)]
  by_cases h : ∃ d, d < 10 ∧ Mt (fun k => FX9_at bw (a + k) rv) d
  · obtain ⟨d, hd, hm⟩ := h
    have hu : ∀ x, x < 10 → Mt (fun k => FX9_at bw (a + k) rv) x → x = d := fun x hx hmx => Mt_uni hw hx hd hmx hm
    exact Or.inr ⟨d, by omega, l3_yes hL hok ha hd hm hu 11 0 (by omega) (by omega), l35_yes hd hm hu 11 0 (-1) (by omega) (by omega)⟩
  · have hn : ∀ x, 0 ≤ x → x < 10 → ¬ Mt (fun k => FX9_at bw (a + k) rv) x := fun x _ hx hm => h ⟨x, hx, hm⟩
    exact Or.inl ⟨l3_no hL hok ha 11 0 (by omega) (by omega) hn, l35_no 11 0 (-1) (by omega) (by omega) hn⟩

theorem l112_0 {bw rd : Nat → Int32} {rv : Int32} {n k : Nat} : (FX9_readSo_l112 bw rv (n + 1) k 0 rd).1 = 0 ∧ (FX9_readSo_l112 bw rv (n + 1) k 0 rd).2.2 = 0 := by
  rw [FX9_readSo_l112]
  by_cases h : (FX9_size bw - 6) / 4 ≤ k
  · simp [h]
  · simp [h]
theorem l44_112 {bw : Nat → Int32} {L bn : Nat} {rv : Int32} (hL : L = FX0_rowLength bw) (hok : WOK bw) (h10 : 10 ≤ L) (n : Nat) : ∀ (n2 g : Nat) (bd rd : Nat → Int32), g + n = 15 → g + n2 = 20 → g ≤ (L - 6) / 4 → (∀ j, j < g → bd j = rd j ∧ ∃ d, d ≤ 9 ∧ bd j = nI d) →
    ((FX0_decode_l44 bw bn L rv n g bd).1 = 0 ∧ (FX0_decode_l44 bw bn L rv n g bd).2.2 = bn ∧ (FX9_readSo_l112 bw rv n2 g 1 rd).1 = 0 ∧ (FX9_readSo_l112 bw rv n2 g 1 rd).2.2 = 0) ∨
    ((FX0_decode_l44 bw bn L rv n g bd).1 = 1 ∧ (FX0_decode_l44 bw bn L rv n g bd).2.2 = (L - 6) / 4 ∧ (FX9_readSo_l112 bw rv n2 g 1 rd).1 = 1 ∧ (FX9_readSo_l112 bw rv n2 g 1 rd).2.2 = (L - 6) / 4 ∧
      ∀ j, j < (L - 6) / 4 → (FX0_decode_l44 bw bn L rv n g bd).2.1 j = (FX9_readSo_l112 bw rv n2 g 1 rd).2.1 j ∧ ∃ d, d ≤ 9 ∧ (FX0_decode_l44 bw bn L rv n g bd).2.1 j = nI d) := by
  have hl64 : L ≤ 64 := by rw [hL]; exact FX0_rowLength_le bw
  have hsz : FX9_size bw = L := by rw [size_eq hok, hL]
  induction n with
  | zero => intro n2 g bd rd h1 h2 h3; omega
  | succ n ih =>
    intro n2 g bd rd h1 h2 h3 hj
    obtain ⟨n2, rfl⟩ : ∃ z, n2 = z + 1 := ⟨n2 - 1, by omega⟩
    rw [FX0_decode_l44, FX9_readSo_l112, hsz]
    by_cases h4 : (L - 6) / 4 ≤ g
    · rw [if_pos h4, if_pos h4, if_neg (by decide)]
      exact Or.inr ⟨rfl, rfl, rfl, rfl, fun j h => hj j (by omega)⟩
    · rw [if_neg h4, if_neg h4, if_neg (show ¬ 14 ≤ g by omega), if_neg (show ¬ (1 : Int32) = 0 by decide), pk_us, Nat.mul_comm g 4]
      rcases group_eq (rv := rv) (a := 3 + 4 * g) hL hok (by omega) with ⟨e1, e2⟩ | ⟨d, hd, e1, e2⟩
      · rw [e1, e2, if_pos rfl, if_pos (by decide)]
        obtain ⟨n3, rfl⟩ : ∃ z, n2 = z + 1 := ⟨n2 - 1, by omega⟩
        exact Or.inl ⟨rfl, rfl, l112_0⟩
      · rw [e1, e2, if_neg (by
          intro h
          have h2 : (nI d).toInt = (-1 : Int32).toInt := by rw [h]
          rw [nI_toInt (by omega)] at h2
          have : (-1 : Int32).toInt = -1 := rfl
          omega), if_neg (nI_pos (by omega))]
        refine ih n2 (g + 1) _ _ (by omega) (by omega) (by omega) (fun j hjj => ?_)
        by_cases e : j = g
        · rw [e, pk_us, pk_us]; exact ⟨rfl, d, hd, rfl⟩
        · rw [pk_un e, pk_un e]; exact hj j (by omega)
theorem so_fail {bw rd : Nat → Int32} {rv : Int32} : (FX9_readSo_l112 bw rv 20 0 0 rd).1 = 0 ∧ (FX9_readSo_l112 bw rv 20 0 0 rd).2.2 = 0 := l112_0
theorem edge_iff {bw : Nat → Int32} {a : Nat} (h : a + 2 < 64) : FX0_isEdge bw (nI a) = 0 ↔ ¬ (bw a = bw (a + 1) ∧ bw a = bw (a + 2)) := by
  unfold FX0_isEdge
  rw [show nI a + 1 = nI (a + 1) from nI_1 a, show nI a + 2 = nI (a + 2) from nI_add a 2, wat (by omega), wat (by omega), wat (by omega)]
  by_cases h1 : bw a = bw (a + 1)
  · rw [if_pos h1]
    by_cases h2 : bw a = bw (a + 2)
    · rw [if_pos h2]; exact ⟨fun h => absurd h (by decide), fun h => absurd ⟨h1, h2⟩ h⟩
    · rw [if_neg h2]; exact ⟨fun _ h => h2 h.2, fun _ => rfl⟩
  · rw [if_neg h1]; exact ⟨fun _ h => h1 h.1, fun _ => rfl⟩
theorem dec_so {bw bd rd : Nat → Int32} {bn : Nat} {rv : Int32} (hok : WOK bw) :
    ((FX0_decode bw bd bn (FX0_rowLength bw) rv).1 = 0 ∧ (FX0_decode bw bd bn (FX0_rowLength bw) rv).2.2 = bn ∧ (FX9_readSo bw rd rv).1 = 0 ∧ (FX9_readSo bw rd rv).2.2 = 0) ∨
    ((FX0_decode bw bd bn (FX0_rowLength bw) rv).1 = 1 ∧ (FX9_readSo bw rd rv).1 = 1 ∧ (FX9_readSo bw rd rv).2.2 = (FX0_decode bw bd bn (FX0_rowLength bw) rv).2.2 ∧ (FX0_decode bw bd bn (FX0_rowLength bw) rv).2.2 ≤ 14 ∧
      ∀ j, j < (FX0_decode bw bd bn (FX0_rowLength bw) rv).2.2 → (FX0_decode bw bd bn (FX0_rowLength bw) rv).2.1 j = (FX9_readSo bw rd rv).2.1 j ∧ ∃ d, d ≤ 9 ∧ (FX0_decode bw bd bn (FX0_rowLength bw) rv).2.1 j = nI d) := by
  obtain ⟨L, hL⟩ : ∃ L, L = FX0_rowLength bw := ⟨_, rfl⟩
  have hl64 : L ≤ 64 := by rw [hL]; exact FX0_rowLength_le bw
  have hsz : FX9_size bw = L := by rw [size_eq hok, hL]
  rw [← hL]
  unfold FX0_decode FX9_readSo
  rw [hsz]
  by_cases h1 : L < 10
  · rw [if_pos h1, if_pos (Classical.byContradiction fun h => by have := ln_10 hl64 h; omega)]
    exact Or.inl ⟨rfl, rfl, rfl, rfl⟩
  · rw [if_neg h1, if_neg (fun h => by
      rw [Int32.lt_iff_toInt_lt, show (6 : Int32) = nI 6 from rfl, pk_sub_toInt (by omega) (by omega)] at h
      have : (4 : Int32).toInt = 4 := rfl
      omega)]
    by_cases h2 : (L - 6) % 4 = 0
    · rw [if_pos h2, if_pos h2]
      have e0 : FX0_isEdge bw 0 = 0 ↔ ¬ (bw 0 = bw (0 + 1) ∧ bw 0 = bw (0 + 2)) := edge_iff (a := 0) (by omega)
      have e3 : FX0_isEdge bw (nI L - 3) = 0 ↔ ¬ (bw (L - 3) = bw (L - 3 + 1) ∧ bw (L - 3) = bw (L - 3 + 2)) := by
        rw [show nI L - 3 = nI (L - 3) from pk_sub (a := L) (b := 3) (by omega)]; exact edge_iff (by omega)
      rw [Nat.zero_add, Nat.zero_add] at e0
      rw [show L - 3 + 1 = L - 2 by omega, show L - 3 + 2 = L - 1 by omega] at e3
      by_cases he : (bw 0 = bw 1 ∧ bw 0 = bw 2) ∧ (bw (L - 3) = bw (L - 2) ∧ bw (L - 3) = bw (L - 1))
      · obtain ⟨⟨a1, a2⟩, a3, a4⟩ := he
        rw [if_neg (fun h => (e0.mp h) ⟨a1, a2⟩), if_neg (fun h => (e3.mp h) ⟨a3, a4⟩)]
        have q : (FX9_at bw 0 rv = FX9_at bw 1 rv) ∧ (FX9_at bw 1 rv = FX9_at bw 2 rv) ∧ (FX9_at bw (L - 1) rv = FX9_at bw (L - 2) rv) ∧ (FX9_at bw (L - 2) rv = FX9_at bw (L - 3) rv) := by
          unfold FX9_at
          rw [hsz]
          split
          · exact ⟨a1, by rw [← a1, a2], by rw [← a4, a3], a3.symm⟩
          · rw [show L - 1 - 0 = L - 1 by omega, show L - 1 - 1 = L - 2 by omega, show L - 1 - 2 = L - 3 by omega, show L - 1 - (L - 1) = 0 by omega, show L - 1 - (L - 2) = 1 by omega, show L - 1 - (L - 3) = 2 by omega]
            exact ⟨by rw [← a4, a3], a3.symm, a1, by rw [← a1, a2]⟩
        rw [if_pos q.1, if_pos q.2.1, if_pos q.2.2.1, if_pos q.2.2.2]
        rcases l44_112 (bn := bn) (rv := rv) hL hok (by omega) 15 20 0 bd rd (by omega) (by omega) (by omega) (fun j h => by omega) with h | ⟨b1, b2, b3, b4, b5⟩
        · exact Or.inl h
        · exact Or.inr ⟨b1, b3, by rw [b4, b2], by rw [b2]; omega, by rw [b2]; exact b5⟩
      · refine Or.inl ?_
        have hc : (if FX0_isEdge bw 0 = 0 then ((0 : Int32), bd, bn) else if FX0_isEdge bw (nI L - 3) = 0 then (0, bd, bn) else FX0_decode_l44 bw bn L rv 15 0 bd) = (0, bd, bn) := by
          by_cases h0 : FX0_isEdge bw 0 = 0
          · rw [if_pos h0]
          · rw [if_neg h0]
            by_cases h3 : FX0_isEdge bw (nI L - 3) = 0
            · rw [if_pos h3]
            · exact absurd ⟨Classical.byContradiction fun h => h0 (e0.mpr h), Classical.byContradiction fun h => h3 (e3.mpr h)⟩ he
        rw [hc]
        refine ⟨rfl, rfl, ?_⟩
        have hne : ¬ ((FX9_at bw 0 rv = FX9_at bw 1 rv) ∧ (FX9_at bw 1 rv = FX9_at bw 2 rv) ∧ (FX9_at bw (L - 1) rv = FX9_at bw (L - 2) rv) ∧ (FX9_at bw (L - 2) rv = FX9_at bw (L - 3) rv)) := by
          intro q
          apply he
          unfold FX9_at at q
          rw [hsz] at q
          by_cases hr : rv = 0
          · simp only [if_pos hr] at q
            exact ⟨⟨q.1, q.1.trans q.2.1⟩, q.2.2.2.symm, q.2.2.2.symm.trans q.2.2.1.symm⟩
          · simp only [if_neg hr] at q
            rw [show L - 1 - 0 = L - 1 by omega, show L - 1 - 1 = L - 2 by omega, show L - 1 - 2 = L - 3 by omega, show L - 1 - (L - 1) = 0 by omega, show L - 1 - (L - 2) = 1 by omega, show L - 1 - (L - 3) = 2 by omega] at q
            exact ⟨⟨q.2.2.1, q.2.2.1.trans q.2.2.2⟩, q.2.1.symm, q.2.1.symm.trans q.1.symm⟩
        by_cases q1 : FX9_at bw 0 rv = FX9_at bw 1 rv
        · rw [if_pos q1]
          by_cases q2 : FX9_at bw 1 rv = FX9_at bw 2 rv
          · rw [if_pos q2]
            by_cases q3 : FX9_at bw (L - 1) rv = FX9_at bw (L - 2) rv
            · rw [if_pos q3, if_neg (fun q4 => hne ⟨q1, q2, q3, q4⟩)]; exact so_fail
            · rw [if_neg q3]; exact so_fail
          · rw [if_neg q2]; exact so_fail
        · rw [if_neg q1]; exact so_fail
    · rw [if_neg h2, if_neg h2]
      exact Or.inl ⟨rfl, rfl, rfl, rfl⟩
/-- the digits that were read, on both sides -/
def RB (bd rd : Nat → Int32) (bn : Nat) : Prop := bn ≤ 14 ∧ ∀ j, j < bn → bd j = rd j ∧ ∃ d, d ≤ 9 ∧ bd j = nI d
theorem read_eq {bw bd rd : Nat → Int32} {bn : Nat} (hok : WOK bw) : (FX9_read bw rd).1 = (FX8_read bw bd bn).1 ∧ (FX9_read bw rd).2.1 = 0 ∧ (FX9_read bw rd).2.2.2 = (FX8_read bw bd bn).2.2 ∧ RB (FX8_read bw bd bn).2.1 (FX9_read bw rd).2.2.1 (FX8_read bw bd bn).2.2 := by
  unfold FX9_read FX8_read FX0_scan
  rcases dec_so (bd := bd) (rd := rd) (bn := bn) (rv := 0) hok with ⟨a1, a2, a3, a4⟩ | ⟨a1, a2, a3, a4, a5⟩
  · rw [if_pos a1, if_pos a3, if_pos rfl]
    rcases dec_so (bd := (FX0_decode bw bd bn (FX0_rowLength bw) 0).2.1) (rd := (FX9_readSo bw rd 0).2.1) (bn := (FX0_decode bw bd bn (FX0_rowLength bw) 0).2.2) (rv := 1) hok with ⟨b1, b2, b3, b4⟩ | ⟨b1, b2, b3, b4, b5⟩
    · rw [if_pos b1, if_pos b3]
      exact ⟨rfl, rfl, b4, Nat.zero_le _, fun j h => absurd h (Nat.not_lt_zero j)⟩
    · have n1 : ¬ _ = (0 : Int32) := fun h => absurd (b1.symm.trans h) (by decide)
      have n2 : ¬ _ = (0 : Int32) := fun h => absurd (b2.symm.trans h) (by decide)
      rw [if_neg n1, if_neg n2]
      exact ⟨by rw [b3], rfl, b3, b4, b5⟩
  · have n1 : ¬ _ = (0 : Int32) := fun h => absurd (a1.symm.trans h) (by decide)
    have n2 : ¬ _ = (0 : Int32) := fun h => absurd (a2.symm.trans h) (by decide)
    rw [if_neg n1, if_neg n2]
    exact ⟨by rw [a3], rfl, a3, a4, a5⟩
theorem back_eq {bw bd rd : Nat → Int32} {bn : Nat} (hok : WOK bw) : (FX9_back bw rd).1 = (FX8_back bw bd bn).1 ∧ (FX9_back bw rd).2.1 = 0 ∧ (FX9_back bw rd).2.2.2 = (FX8_back bw bd bn).2.2 ∧ RB (FX8_back bw bd bn).2.1 (FX9_back bw rd).2.2.1 (FX8_back bw bd bn).2.2 := by
  unfold FX9_back FX8_back FX0_scan
  rcases dec_so (bd := bd) (rd := rd) (bn := bn) (rv := 1) hok with ⟨a1, a2, a3, a4⟩ | ⟨a1, a2, a3, a4, a5⟩
  · rw [if_pos a1, if_pos a3, if_neg (show ¬ (1 : Int32) = 0 by decide)]
    rcases dec_so (bd := (FX0_decode bw bd bn (FX0_rowLength bw) 1).2.1) (rd := (FX9_readSo bw rd 1).2.1) (bn := (FX0_decode bw bd bn (FX0_rowLength bw) 1).2.2) (rv := 0) hok with ⟨b1, b2, b3, b4⟩ | ⟨b1, b2, b3, b4, b5⟩
    · rw [if_pos b1, if_pos b3]
      exact ⟨rfl, rfl, b4, Nat.zero_le _, fun j h => absurd h (Nat.not_lt_zero j)⟩
    · have n1 : ¬ _ = (0 : Int32) := fun h => absurd (b1.symm.trans h) (by decide)
      have n2 : ¬ _ = (0 : Int32) := fun h => absurd (b2.symm.trans h) (by decide)
      rw [if_neg n1, if_neg n2]
      exact ⟨by rw [b3], rfl, b3, b4, b5⟩
  · have n1 : ¬ _ = (0 : Int32) := fun h => absurd (a1.symm.trans h) (by decide)
    have n2 : ¬ _ = (0 : Int32) := fun h => absurd (a2.symm.trans h) (by decide)
    rw [if_neg n1, if_neg n2]
    exact ⟨by rw [a3], rfl, a3, a4, a5⟩
