/-! PURE ROWS 5: give -/
/-- a payment is one of its set's as long as it counts -/
def RT (yt rco ms yp : Nat → Int32) (yn : Nat) : Prop := ∀ k, k < yn → yt k = if rco k = 0 then -1 else ms (yp k).toNatClampNeg
/-- no two that count have one serial and one set -/
def RQ (ys : Nat → Int64) (rco ms yp : Nat → Int32) (yn : Nat) : Prop := ∀ j k, j < yn → k < yn → ¬ rco j = 0 → ¬ rco k = 0 → ys j = ys k → ms (yp j).toNatClampNeg = ms (yp k).toNatClampNeg → j = k
def RM (ms : Nat → Int32) (mn : Nat) : Prop := ∀ j, j < mn → ∃ i, i < mn ∧ ms j = nI i
def SM (rof : Nat → Int32) : Nat → Nat
  | 0 => 0
  | n + 1 => SM rof n + (rof n).toNatClampNeg % 3
/-- refusals of a serial: at its first payment on the one side, in a row of serials on the other -/
def RF (ys : Nat → Int64) (yr : Nat → Int32) (yn : Nat) (rrf : Nat → Int64) (rof : Nat → Int32) (rrn fn c : Nat) : Prop :=
  (∀ j, j < rrn → ∃ k, k < yn ∧ ys k = rrf j ∧ (∀ i, i < k → ¬ ys i = rrf j) ∧ yr k = rof j) ∧
  (∀ k, k < yn → (∀ i, i < k → ¬ ys i = ys k) → (∀ j, j < rrn → ¬ rrf j = ys k) → yr k = 0) ∧ (∀ k, yn ≤ k → yr k = 0) ∧
  (∀ j, j < rrn → ∃ o : Nat, o ≤ c ∧ rof j = nI o) ∧ (∀ i j, i < rrn → j < rrn → rrf i = rrf j → i = j) ∧ 3 * fn + SM rof rrn ≤ c ∧ rrn ≤ c
theorem nI_m1 {k : Nat} (h : k < 2 ^ 31) : ¬ nI k = -1 := fun e => by
  have h2 : (nI k).toInt = (-1 : Int32).toInt := by rw [e]
  rw [nI_toInt h] at h2
  have : (-1 : Int32).toInt = -1 := rfl
  omega
theorem find_l {ys : Nat → Int64} {yt : Nat → Int32} {yn : Nat} {v : Int64} {st : Int32} (n : Nat) : ∀ k, k + n = yn + 1 → k ≤ yn → (FX6_find_l3 ys yt yn v st n k = -1 ∧ ∀ j, k ≤ j → j < yn → ¬ (ys j = v ∧ yt j = st)) ∨ ∃ j, k ≤ j ∧ j < yn ∧ FX6_find_l3 ys yt yn v st n k = nI j ∧ ys j = v ∧ yt j = st := by
  induction n with
  | zero => intro k h1 h2; omega
  | succ n ih =>
    intro k h1 h2
    rw [FX6_find_l3]
    by_cases h3 : yn ≤ k
    · rw [if_pos h3]; exact Or.inl ⟨rfl, fun j a b => by omega⟩
    · rw [if_neg h3]
      have go : ¬ (ys k = v ∧ yt k = st) → (FX6_find_l3 ys yt yn v st n (k + 1) = -1 ∧ ∀ j, k ≤ j → j < yn → ¬ (ys j = v ∧ yt j = st)) ∨ ∃ j, k ≤ j ∧ j < yn ∧ FX6_find_l3 ys yt yn v st n (k + 1) = nI j ∧ ys j = v ∧ yt j = st := by
        intro hn
        rcases ih (k + 1) (by omega) (by omega) with ⟨a, b⟩ | ⟨j, a, b, d⟩
        · refine Or.inl ⟨a, fun j p q => ?_⟩
          rcases Nat.eq_or_lt_of_le p with rfl | p
          · exact hn
          · exact b j p q
        · exact Or.inr ⟨j, by omega, b, d⟩
      by_cases h4 : ys k = v
      · rw [if_pos (lgc_eq.mpr h4)]
        by_cases h5 : yt k = st
        · rw [if_pos h5]; exact Or.inr ⟨k, Nat.le_refl k, by omega, rfl, h4, h5⟩
        · rw [if_neg h5]; exact go (fun q => h5 q.2)
      · rw [if_neg (fun q => h4 (lgc_eq.mp q))]; exact go (fun q => h4 q.1)
theorem find_or (ys : Nat → Int64) (yt : Nat → Int32) (yn : Nat) (v : Int64) (st : Int32) : (FX6_find ys yt yn v st = -1 ∧ ∀ j, j < yn → ¬ (ys j = v ∧ yt j = st)) ∨ ∃ j, j < yn ∧ FX6_find ys yt yn v st = nI j ∧ ys j = v ∧ yt j = st := by
  rcases find_l (ys := ys) (yt := yt) (yn := yn) (v := v) (st := st) (yn + 1) 0 (by omega) (by omega) with ⟨a, b⟩ | ⟨j, _, b, d⟩
  · exact Or.inl ⟨a, fun j q => b j (Nat.zero_le j) q⟩
  · exact Or.inr ⟨j, b, d⟩
def QP (ys : Nat → Int64) (rco ms yp : Nat → Int32) (v : Int64) (st : Int32) (k : Nat) : Prop := ¬ rco k = 0 ∧ ys k = v ∧ ms (yp k).toNatClampNeg = st
theorem pay_l {yn : Nat} {ms : Nat → Int32} {ys : Nat → Int64} {yp rco : Nat → Int32} {v : Int64} {st : Int32} (n : Nat) : ∀ (k : Nat) (fo : Int32), k + n = yn + 1 → k ≤ yn → (FX9_payingOf_l6 yn ms ys yp rco v st n k fo = fo ∧ ∀ j, k ≤ j → j < yn → ¬ QP ys rco ms yp v st j) ∨ ∃ j, k ≤ j ∧ j < yn ∧ FX9_payingOf_l6 yn ms ys yp rco v st n k fo = nI j ∧ QP ys rco ms yp v st j := by
  induction n with
  | zero => intro k fo h1 h2; omega
  | succ n ih =>
    intro k fo h1 h2
    rw [FX9_payingOf_l6]
    by_cases h3 : yn ≤ k
    · rw [if_pos h3]; exact Or.inl ⟨rfl, fun j a b => by omega⟩
    · rw [if_neg h3]
      have go : ¬ QP ys rco ms yp v st k → (FX9_payingOf_l6 yn ms ys yp rco v st n (k + 1) fo = fo ∧ ∀ j, k ≤ j → j < yn → ¬ QP ys rco ms yp v st j) ∨ ∃ j, k ≤ j ∧ j < yn ∧ FX9_payingOf_l6 yn ms ys yp rco v st n (k + 1) fo = nI j ∧ QP ys rco ms yp v st j := by
        intro hn
        rcases ih (k + 1) fo (by omega) (by omega) with ⟨a, b⟩ | ⟨j, a, b, d⟩
        · refine Or.inl ⟨a, fun j p q => ?_⟩
          rcases Nat.eq_or_lt_of_le p with rfl | p
          · exact hn
          · exact b j p q
        · exact Or.inr ⟨j, by omega, b, d⟩
      by_cases h4 : rco k = 0
      · rw [if_pos h4]; exact go (fun q => q.1 h4)
      · rw [if_neg h4]
        by_cases h5 : ys k = v
        · rw [if_pos (lgc_eq.mpr h5)]
          by_cases h6 : ms (yp k).toNatClampNeg = st
          · rw [if_pos h6]
            rcases ih (k + 1) (nI k) (by omega) (by omega) with ⟨a, b⟩ | ⟨j, a, b, d⟩
            · exact Or.inr ⟨k, Nat.le_refl k, by omega, a, h4, h5, h6⟩
            · exact Or.inr ⟨j, by omega, b, d⟩
          · rw [if_neg h6]; exact go (fun q => h6 q.2.2)
        · rw [if_neg (fun q => h5 (lgc_eq.mp q))]; exact go (fun q => h5 q.2.1)
theorem pay_or (yn : Nat) (ms : Nat → Int32) (ys : Nat → Int64) (yp rco : Nat → Int32) (v : Int64) (st : Int32) : (FX9_payingOf yn ms ys yp rco v st = -1 ∧ ∀ j, j < yn → ¬ QP ys rco ms yp v st j) ∨ ∃ j, j < yn ∧ FX9_payingOf yn ms ys yp rco v st = nI j ∧ QP ys rco ms yp v st j := by
  rcases pay_l (yn := yn) (ms := ms) (ys := ys) (yp := yp) (rco := rco) (v := v) (st := st) (yn + 1) 0 (-1) (by omega) (by omega) with ⟨a, b⟩ | ⟨j, _, b, d⟩
  · exact Or.inl ⟨a, fun j q => b j (Nat.zero_le j) q⟩
  · exact Or.inr ⟨j, b, d⟩
theorem yt_iff {yt rco ms yp : Nat → Int32} {yn : Nat} {st : Int32} (hT : RT yt rco ms yp yn) (hst : ¬ st = -1) {k : Nat} (hk : k < yn) : yt k = st ↔ (¬ rco k = 0 ∧ ms (yp k).toNatClampNeg = st) := by
  rw [hT k hk]
  by_cases h : rco k = 0
  · rw [if_pos h]; exact ⟨fun q => absurd q.symm hst, fun q => absurd h q.1⟩
  · rw [if_neg h]; exact ⟨fun q => ⟨h, q⟩, fun q => q.2⟩
/-- the two searches agree -/
theorem find_pay {ys : Nat → Int64} {yt rco ms yp : Nat → Int32} {yn : Nat} {v : Int64} {st : Int32} (hT : RT yt rco ms yp yn) (hQ : RQ ys rco ms yp yn) (hst : ¬ st = -1) : FX6_find ys yt yn v st = FX9_payingOf yn ms ys yp rco v st := by
  rcases find_or ys yt yn v st with ⟨a, b⟩ | ⟨j, hj, a, b, d⟩
  · rcases pay_or yn ms ys yp rco v st with ⟨a2, _⟩ | ⟨j, hj, a2, q⟩
    · rw [a, a2]
    · exact absurd ⟨q.2.1, (yt_iff hT hst hj).mpr ⟨q.1, q.2.2⟩⟩ (b j hj)
  · have hq := (yt_iff hT hst hj).mp d
    rcases pay_or yn ms ys yp rco v st with ⟨_, b2⟩ | ⟨i, hi, a2, q⟩
    · exact absurd ⟨hq.1, b, hq.2⟩ (b2 j hj)
    · rw [a, a2, hQ j i hj hi hq.1 q.1 (b.trans q.2.1.symm) (hq.2.trans q.2.2.symm)]
theorem reason_eq {mf mp ms pt pl pm rda rle yt yp rco : Nat → Int32} {ys : Nat → Int64} {mn yn : Nat} {k sh w : Int32} {v : Int64} (hmn : mn ≤ 6) (hyn : yn ≤ 200) (hP : RP mp rda mn) (hS : RS pt pl rle) (hT : RT yt rco ms yp yn) (hQ : RQ ys rco ms yp yn) (hM : RM ms mn) (hv : ¬ FX5_isNumber v = 0) :
    FX9_reasonFor mn yn ms mf rda rle pm ys yp rco k v sh w = (FX8_reasonToRefuse mf mp ms mn pt pl pm ys yt yn k v sh w, 0) := by
  unfold FX9_reasonFor FX8_reasonToRefuse FX4_isFull FX4_hasPower FX4_setOf
  rw [mach_eq]
  by_cases h1 : FX4_exists mn k = 0
  · simp only [if_pos h1]
  · simp only [if_neg h1]
    obtain ⟨i, hi, rfl⟩ := isIx_lt (n := mn) h1 (by omega)
    rw [nI_clamp (by omega)]
    by_cases h2 : mf i = 0
    · rw [if_pos h2, if_pos h2, if_pos rfl]
      by_cases h3 : mp i = 0
      · rw [if_neg (fun q => (hP.1 i hi).2.mp q h3), if_pos h3, if_pos rfl]
      · rw [if_pos ((hP.1 i hi).2.mpr h3), if_neg h3, if_neg (show ¬ (1 : Int32) = 0 by decide)]
        unfold FX7_isTold FX7_holds FX7_isTold FX7_exists
        rw [ix_eq (n := 8) (by decide)]
        by_cases h4 : FX8_isIndex sh 8 = 0
        · rw [if_pos h4, if_pos h4, if_pos rfl]
        · rw [if_neg h4, if_neg h4]
          rcases hS sh.toNatClampNeg with ⟨a, b⟩ | ⟨a, b, d⟩
          · rw [if_pos b, if_pos a, if_pos rfl]
          · have h5 : ¬ pt sh.toNatClampNeg = 0 := by rw [a]; decide
            have h6 : ¬ rle sh.toNatClampNeg = -1 := by
              rw [b]; intro q; rw [q] at d; exact d (by decide)
            rw [if_neg h6, if_neg h5, if_neg (show ¬ (1 : Int32) = 0 by decide), if_neg (show ¬ (1 : Int32) = 0 by decide), b]
            by_cases h7 : w < pl sh.toNatClampNeg
            · rw [if_pos h7, if_pos h7, if_pos rfl]
            · rw [if_neg h7, if_neg h7]
              by_cases h8 : pm sh.toNatClampNeg < w
              · rw [if_pos h8, if_pos rfl, if_neg (fun q => by rw [Int32.lt_iff_toInt_lt] at h8; rw [Int32.le_iff_toInt_le] at q; omega)]
              · rw [if_neg h8, if_neg (show ¬ (1 : Int32) = 0 by decide), if_pos (by rw [Int32.lt_iff_toInt_lt] at h8; rw [Int32.le_iff_toInt_le]; omega)]
                obtain ⟨x, hx, rfl⟩ := num_nat hv
                unfold FX5_isGood
                rw [good_nat 0 hx]
                by_cases h9 : lg_cmp (lN x - lN x / 10 * 10) (FX5_checkDigit 0 (lN x / 10)).toInt64 = 0
                · rw [if_pos h9, if_pos h9, if_neg (show ¬ (1 : Int32) = 0 by decide)]
                  obtain ⟨si, hsi, es⟩ := hM i hi
                  rw [find_pay hT hQ (by rw [es]; exact nI_m1 (by omega))]
                  rcases pay_or yn ms ys yp rco (lN x) (ms i) with ⟨a2, _⟩ | ⟨j, hj, a2, _⟩
                  · rw [a2, if_neg (by decide), if_pos rfl]
                  · rw [a2, if_pos (nI_pos' (by omega)), if_neg (nI_m1 (by omega))]
                · rw [if_neg h9, if_neg h9, if_pos rfl]
    · rw [if_neg h2, if_neg h2, if_neg (show ¬ (1 : Int32) = 0 by decide)]
theorem addR_l {ys : Nat → Int64} {yr : Nat → Int32} {yn : Nat} {v : Int64} {k0 : Nat} (h0 : k0 < yn) (e0 : ys k0 = v) (hf : ∀ i, i < k0 → ¬ ys i = v) (n : Nat) : ∀ k, k + n = yn + 1 → k ≤ k0 → FX6_addRefusal_l2 ys yr yn v n k = (yr k0 + 1, upd yr k0 (yr k0 + 1)) := by
  induction n with
  | zero => intro k h1 h2; omega
  | succ n ih =>
    intro k h1 h2
    rw [FX6_addRefusal_l2, if_neg (by omega)]
    by_cases h : k = k0
    · rw [h, if_pos (lgc_eq.mpr e0), pk_us]
    · rw [if_neg (fun q => hf k (by omega) (lgc_eq.mp q))]; exact ih (k + 1) (by omega) (by omega)
/-- what the reference's refuse does at its place j -/
def rfE (rrn rfn : Nat) (rrf : Nat → Int64) (rof rfr : Nat → Int32) (mc : Int32) (v : Int64) (j : Nat) (x : Int32) (rn2 : Nat) : (Nat → Int64) × (Nat → Int32) × Nat × (Nat → Int32) × Nat :=
  if x - x / 3 * 3 = 0 then (vp_updL rrf j v, upd rof j x, rn2, upd rfr rfn mc, rfn + 1) else (vp_updL rrf j v, upd rof j x, rn2, rfr, rfn)
theorem ref_new {rrn rfn : Nat} {rrf : Nat → Int64} {rof rfr : Nat → Int32} {mc : Int32} {v : Int64} (h : ∀ j, j < rrn → ¬ rrf j = v) (n : Nat) : ∀ k, k + n = rrn + 1 → k ≤ rrn → FX9_refuse_l3 rrn rfn rrf rof rfr mc v n k = rfE rrn rfn rrf rof rfr mc v rrn 1 (rrn + 1) := by
  induction n with
  | zero => intro k h1 h2; omega
  | succ n ih =>
    intro k h1 h2
    rw [FX9_refuse_l3]
    by_cases h3 : rrn ≤ k
    · have hk : k = rrn := by omega
      subst hk
      rw [if_pos h3, if_pos rfl, if_pos rfl, pk_us]; rfl
    · rw [if_neg h3, if_neg (fun q => h k (by omega) (lgc_eq.mp q))]; exact ih (k + 1) (by omega) (by omega)
theorem ref_old {rrn rfn : Nat} {rrf : Nat → Int64} {rof rfr : Nat → Int32} {mc : Int32} {v : Int64} {j : Nat} (hj : j < rrn) (ej : rrf j = v) (h : ∀ i, i < j → ¬ rrf i = v) (n : Nat) : ∀ k, k + n = rrn + 1 → k ≤ j → FX9_refuse_l3 rrn rfn rrf rof rfr mc v n k = rfE rrn rfn rrf rof rfr mc v j (rof j + 1) rrn := by
  induction n with
  | zero => intro k h1 h2; omega
  | succ n ih =>
    intro k h1 h2
    rw [FX9_refuse_l3, if_neg (by omega)]
    by_cases h3 : k = j
    · subst h3
      rw [if_pos (lgc_eq.mpr ej), if_neg (show ¬ k = rrn by omega), if_neg (show ¬ k = rrn by omega), pk_us]; rfl
    · rw [if_neg (fun q => h k (by omega) (lgc_eq.mp q))]; exact ih (k + 1) (by omega) (by omega)
theorem SM_congr {f g : Nat → Int32} {n : Nat} (h : ∀ j, j < n → f j = g j) : SM f n = SM g n := by
  induction n with
  | zero => rfl
  | succ n ih => rw [SM, SM, ih (fun j hj => h j (by omega)), h n (by omega)]
theorem SM_upd {rof : Nat → Int32} {j : Nat} {x : Int32} (n : Nat) (h : j < n) : SM (upd rof j x) n + (rof j).toNatClampNeg % 3 = SM rof n + x.toNatClampNeg % 3 := by
  induction n with
  | zero => omega
  | succ n ih =>
    rw [SM, SM]
    by_cases e : j = n
    · subst e
      rw [pk_us, SM_congr (g := rof) (fun i hi => pk_un (by omega))]; omega
    · rw [pk_un (fun q => e q.symm)]
      have := ih (by omega)
      omega
theorem rem3_0 {o : Nat} (h : o < 2 ^ 31) : nI o - nI o / 3 * 3 = 0 ↔ o % 3 = 0 := by
  rw [rem3 h, show (0 : Int32) = nI 0 from rfl, nI_eq (by omega) (by omega)]
/-- a refusal, on both sides -/
theorem refuse_eq {ys rrf : Nat → Int64} {yr rof fp : Nat → Int32} {yn rrn fn c : Nat} {k : Int32} {v : Int64} (hF : RF ys yr yn rrf rof rrn fn c) (hc : c < 512) (hex : ∃ i, i < yn ∧ ys i = v) :
    (FX9_refuse rrn fn rrf rof fp k v).2.2.2.1 = (FX8_noteRefusal ys yr yn fp fn k v).2.1 ∧ (FX9_refuse rrn fn rrf rof fp k v).2.2.2.2 = (FX8_noteRefusal ys yr yn fp fn k v).2.2 ∧
    RF ys (FX8_noteRefusal ys yr yn fp fn k v).1 yn (FX9_refuse rrn fn rrf rof fp k v).1 (FX9_refuse rrn fn rrf rof fp k v).2.1 (FX9_refuse rrn fn rrf rof fp k v).2.2.1 (FX8_noteRefusal ys yr yn fp fn k v).2.2 (c + 1) := by
  obtain ⟨f1, f2, f3, f4, f5, f6, f7⟩ := hF
  obtain ⟨k0, ⟨hk0, ek0⟩, hfirst⟩ := pk_least (fun i => i < yn ∧ ys i = v) hex
  have hfi : ∀ i, i < k0 → ¬ ys i = v := fun i hi q => hfirst i hi ⟨by omega, q⟩
  have eA : FX6_addRefusal ys yr yn v = (yr k0 + 1, upd yr k0 (yr k0 + 1)) := addR_l hk0 ek0 hfi (yn + 1) 0 (by omega) (by omega)
  unfold FX8_noteRefusal FX3_add
  rw [eA]
  by_cases hin : ∃ j, j < rrn ∧ rrf j = v
  · obtain ⟨j, ⟨hj, ej⟩, hfj⟩ := pk_least (fun j => j < rrn ∧ rrf j = v) hin
    have eB : FX9_refuse rrn fn rrf rof fp k v = rfE rrn fn rrf rof fp k v j (rof j + 1) rrn := ref_old hj ej (fun i hi q => hfj i hi ⟨by omega, q⟩) (rrn + 1) 0 (by omega) (by omega)
    obtain ⟨k1, hk1, e1, hf1, ey⟩ := f1 j hj
    have hkk : k1 = k0 := by
      rcases Nat.lt_trichotomy k1 k0 with h | h | h
      · exact absurd (e1.trans ej) (hfi k1 h)
      · exact h
      · exact absurd (ek0.trans ej.symm) (hf1 k0 h)
    subst hkk
    obtain ⟨o, ho, eo⟩ := f4 j hj
    have ex : yr k1 + 1 = nI (o + 1) := by rw [ey, eo, nI_1]
    have ex2 : rof j + 1 = nI (o + 1) := by rw [eo, nI_1]
    rw [eB, ex, ex2]
    have hsm := SM_upd (rof := rof) (j := j) (x := nI (o + 1)) rrn hj
    rw [eo, nI_clamp (by omega), nI_clamp (by omega)] at hsm
    have keep : RF ys (upd yr k1 (nI (o + 1))) yn (vp_updL rrf j v) (upd rof j (nI (o + 1))) rrn (if (o + 1) % 3 = 0 then fn + 1 else fn) (c + 1) := by
      have hrr : vp_updL rrf j v = rrf := by
        funext i
        by_cases e : i = j
        · rw [e, pk_uLs, ej]
        · rw [pk_uLn e]
      rw [hrr]
      refine ⟨fun i hi => ?_, fun i hi a b => ?_, fun i hi => ?_, fun i hi => ?_, f5, ?_, by omega⟩
      · obtain ⟨q, hq, eq, hfq, eyq⟩ := f1 i hi
        refine ⟨q, hq, eq, hfq, ?_⟩
        by_cases e : i = j
        · subst e
          have : q = k1 := by
            rcases Nat.lt_trichotomy q k1 with h | h | h
            · exact absurd eq (hf1 q h)
            · exact h
            · exact absurd e1 (hfq k1 h)
          rw [this, pk_us, pk_us]
        · have hne : q ≠ k1 := fun h => e (f5 i j hi hj (by rw [← eq, h, e1]))
          rw [pk_un hne, pk_un e, eyq]
      · have hne : i ≠ k1 := fun h => b j hj (by rw [h, e1])
        rw [pk_un hne]; exact f2 i hi a b
      · rw [pk_un (by omega)]; exact f3 i hi
      · by_cases e : i = j
        · rw [e, pk_us]; exact ⟨o + 1, by omega, rfl⟩
        · rw [pk_un e]; obtain ⟨o2, h2, e2⟩ := f4 i hi; exact ⟨o2, by omega, e2⟩
      · split <;> omega
    unfold rfE
    by_cases h3 : (o + 1) % 3 = 0
    · rw [if_pos ((rem3_0 (by omega)).mpr h3), if_pos ((rem3_0 (by omega)).mpr h3)]
      rw [if_pos h3] at keep
      rw [if_neg (show ¬ 170 ≤ fn by omega)]
      exact ⟨rfl, rfl, keep⟩
    · rw [if_neg (fun q => h3 ((rem3_0 (by omega)).mp q)), if_neg (fun q => h3 ((rem3_0 (by omega)).mp q))]
      rw [if_neg h3] at keep
      exact ⟨rfl, rfl, keep⟩
  · have hno : ∀ j, j < rrn → ¬ rrf j = v := fun j hj q => hin ⟨j, hj, q⟩
    have eB : FX9_refuse rrn fn rrf rof fp k v = rfE rrn fn rrf rof fp k v rrn 1 (rrn + 1) := ref_new hno (rrn + 1) 0 (by omega) (by omega)
    have ey : yr k0 = 0 := f2 k0 hk0 (fun i hi q => hfi i hi (q.trans ek0)) (fun j hj q => hno j hj (q.trans ek0))
    have e10 : (0 : Int32) + 1 = 1 := rfl
    rw [eB, ey, e10]
    unfold rfE
    have h1 : ¬ (1 : Int32) - 1 / 3 * 3 = 0 := by decide
    rw [if_neg h1, if_neg h1]
    refine ⟨rfl, rfl, fun i hi => ?_, fun i hi a b => ?_, fun i hi => ?_, fun i hi => ?_, fun i j hi hj q => ?_, ?_, Nat.succ_le_succ f7⟩
    · by_cases e : i = rrn
      · subst e
        simp only [pk_uLs, pk_us]
        exact ⟨k0, hk0, ek0, hfi, pk_us⟩
      · obtain ⟨q, hq, eq, hfq, eyq⟩ := f1 i (by have : i < rrn + 1 := hi; omega)
        simp only [pk_uLn e, pk_un e]
        have hne : q ≠ k0 := fun h => hno i (by have : i < rrn + 1 := hi; omega) (by rw [← eq, h, ek0])
        exact ⟨q, hq, eq, hfq, by rw [pk_un hne, eyq]⟩
    · have hne : i ≠ k0 := fun h => b rrn (Nat.lt_succ_self rrn) (by simp only [pk_uLs]; rw [h, ek0])
      simp only [pk_un hne]
      refine f2 i hi a (fun j hj q => b j (Nat.lt_succ_of_lt hj) ?_)
      simp only [pk_uLn (show j ≠ rrn by omega)]; exact q
    · simp only [pk_un (show i ≠ k0 by omega)]; exact f3 i hi
    · by_cases e : i = rrn
      · subst e; simp only [pk_us]; exact ⟨1, by omega, rfl⟩
      · simp only [pk_un e]
        obtain ⟨o2, h2, e2⟩ := f4 i (by have : i < rrn + 1 := hi; omega)
        exact ⟨o2, by omega, e2⟩
    · have hi2 : i < rrn + 1 := hi
      have hj2 : j < rrn + 1 := hj
      by_cases e : i = rrn
      · by_cases e2 : j = rrn
        · rw [e, e2]
        · simp only [e, pk_uLs, pk_uLn e2] at q; exact absurd q.symm (hno j (by omega))
      · by_cases e2 : j = rrn
        · simp only [e2, pk_uLs, pk_uLn e] at q; exact absurd q (hno i (by omega))
        · simp only [pk_uLn e, pk_uLn e2] at q; exact f5 i j (by omega) (by omega) q
    · show 3 * fn + SM (upd rof rrn 1) (rrn + 1) ≤ c + 1
      rw [SM, pk_us, SM_congr (g := rof) (fun i hi => pk_un (by omega))]
      have : (1 : Int32).toNatClampNeg % 3 = 1 := by decide
      omega
theorem RF.mono {ys : Nat → Int64} {yr : Nat → Int32} {yn : Nat} {rrf : Nat → Int64} {rof : Nat → Int32} {rrn fn c d : Nat} (h : RF ys yr yn rrf rof rrn fn c) (hd : c ≤ d) : RF ys yr yn rrf rof rrn fn d := by
  obtain ⟨f1, f2, f3, f4, f5, f6, f7⟩ := h
  exact ⟨f1, f2, f3, fun j hj => by obtain ⟨o, h1, h2⟩ := f4 j hj; exact ⟨o, by omega, h2⟩, f5, by omega, by omega⟩
theorem RF.add {ys : Nat → Int64} {yr : Nat → Int32} {yn : Nat} {rrf : Nat → Int64} {rof : Nat → Int32} {rrn fn c : Nat} {v : Int64} (h : RF ys yr yn rrf rof rrn fn c) : RF (vp_updL ys yn v) yr (yn + 1) rrf rof rrn fn c := by
  obtain ⟨f1, f2, f3, f4, f5, f6, f7⟩ := h
  refine ⟨fun j hj => ?_, fun k hk a b => ?_, fun k hk => f3 k (by omega), f4, f5, f6, f7⟩
  · obtain ⟨k, hk, e, hf, ey⟩ := f1 j hj
    exact ⟨k, by omega, by rw [pk_uLn (by omega), e], fun i hi => by rw [pk_uLn (by omega)]; exact hf i hi, ey⟩
  · by_cases e : k = yn
    · rw [e]; exact f3 yn (Nat.le_refl yn)
    · refine f2 k (by omega) (fun i hi q => a i hi ?_) (fun j hj q => b j hj ?_)
      · rw [pk_uLn (by omega), pk_uLn e]; exact q
      · rw [pk_uLn e]; exact q

def cN (rco : Nat → Int32) : Nat → Nat
  | 0 => 0
  | n + 1 => cN rco n + (if rco n = 0 then 1 else 0)
theorem cN_congr {f g : Nat → Int32} {n : Nat} (h : ∀ j, j < n → f j = g j) : cN f n = cN g n := by
  induction n with
  | zero => rfl
  | succ n ih => rw [cN, cN, ih (fun j hj => h j (by omega)), h n (by omega)]
theorem cN_le (f : Nat → Int32) (n : Nat) : cN f n ≤ n := by
  induction n with
  | zero => exact Nat.le_refl 0
  | succ n ih => rw [cN]; split <;> omega
/-- all that a giving keeps -/
def GI (ys rmt rrf : Nat → Int64) (yp yt ym yr ms mu rco rpr rof : Nat → Int32) (yn mn dn cn rrn fn c : Nat) : Prop :=
  yn ≤ 200 ∧ PY ys rmt yp ym yn mn ∧ RT yt rco ms yp yn ∧ RQ ys rco ms yp yn ∧ RU mu yp rpr yn mn ∧ RF ys yr yn rrf rof rrn fn c ∧ cn ≤ cP rpr yn ∧ dn = cN rco yn
theorem give_eq {lr : Int32} {mf mp ms mu pt pl pm rda rle : Nat → Int32} {mn : Nat} {ys rmt rrf : Nat → Int64} {yp yt yh ym yr fp rco rpr rof : Nat → Int32} {yn fn rrn dn cn c : Nat} {k sh w : Int32} {v sc : Int64}
    (hmn : mn ≤ 6) (hP : RP mp rda mn) (hS : RS pt pl rle) (hM : RM ms mn) (hG : GI ys rmt rrf yp yt ym yr ms mu rco rpr rof yn mn dn cn rrn fn c) (hc : c < 512) :
    ∃ (r lr2 : Int32) (ys2 : Nat → Int64) (yp2 yt2 yh2 ym2 yr2 : Nat → Int32) (yn2 : Nat) (mu2 fp2 : Nat → Int32) (fn2 : Nat) (rmt2 : Nat → Int64) (rco2 rpr2 : Nat → Int32) (rrf2 : Nat → Int64) (rof2 : Nat → Int32) (rrn2 : Nat),
      FX8_give lr mf mp ms mu mn pt pl pm ys yp yt yh ym yr yn fp fn k v sh w sc = (r, lr2, ys2, yp2, yt2, yh2, ym2, yr2, yn2, mu2, fp2, fn2) ∧
      FX9_give mn yn lr rrn fn ms mf rda rle pm ys yp yh rmt rco rpr rrf rof fp k v sh w sc = (r, 0, lr2, ys2, yp2, yh2, rmt2, rco2, rpr2, yn2, rrf2, rof2, rrn2, fp2, fn2) ∧
      GI ys2 rmt2 rrf2 yp2 yt2 ym2 yr2 ms mu2 rco2 rpr2 rof2 yn2 mn dn cn rrn2 fn2 (c + 1) := by
  obtain ⟨hyn, hY, hT, hQ, hU, hF, hC, hN⟩ := hG
  have same : GI ys rmt rrf yp yt ym yr ms mu rco rpr rof yn mn dn cn rrn fn (c + 1) := ⟨hyn, hY, hT, hQ, hU, hF.mono (by omega), hC, hN⟩
  have bad : FX8_give lr mf mp ms mu mn pt pl pm ys yp yt yh ym yr yn fp fn k v sh w sc = ((-1), lr, ys, yp, yt, yh, ym, yr, yn, mu, fp, fn) →
      FX9_give mn yn lr rrn fn ms mf rda rle pm ys yp yh rmt rco rpr rrf rof fp k v sh w sc = ((-1), 0, lr, ys, yp, yh, rmt, rco, rpr, yn, rrf, rof, rrn, fp, fn) → (∃ (r lr2 : Int32) (ys2 : Nat → Int64) (yp2 yt2 yh2 ym2 yr2 : Nat → Int32) (yn2 : Nat) (mu2 fp2 : Nat → Int32) (fn2 : Nat) (rmt2 : Nat → Int64) (rco2 rpr2 : Nat → Int32) (rrf2 : Nat → Int64) (rof2 : Nat → Int32) (rrn2 : Nat), FX8_give lr mf mp ms mu mn pt pl pm ys yp yt yh ym yr yn fp fn k v sh w sc = (r, lr2, ys2, yp2, yt2, yh2, ym2, yr2, yn2, mu2, fp2, fn2) ∧ FX9_give mn yn lr rrn fn ms mf rda rle pm ys yp yh rmt rco rpr rrf rof fp k v sh w sc = (r, 0, lr2, ys2, yp2, yh2, rmt2, rco2, rpr2, yn2, rrf2, rof2, rrn2, fp2, fn2) ∧ GI ys2 rmt2 rrf2 yp2 yt2 ym2 yr2 ms mu2 rco2 rpr2 rof2 yn2 mn dn cn rrn2 fn2 (c + 1)) := fun e1 e2 => ⟨_, _, _, _, _, _, _, _, _, _, _, _, _, _, _, _, _, _, e1, e2, same⟩
  by_cases h1 : FX5_isNumber v = 0
  · refine bad ?_ ?_
    · unfold FX8_give; rw [if_pos h1]
    · unfold FX9_give; rw [num_eq, if_pos h1]
  · by_cases h2 : lg_cmp sc 0 < 0
    · refine bad ?_ ?_
      · unfold FX8_give; rw [if_neg h1, if_pos h2]
      · unfold FX9_give; rw [num_eq, if_neg h1, if_pos (by unfold FX9_isIn; rw [if_pos h2])]
    · by_cases h3 : 0 < lg_cmp sc 100000000000
      · refine bad ?_ ?_
        · unfold FX8_give; rw [if_neg h1, if_neg h2, if_pos h3]
        · unfold FX9_give; rw [num_eq, if_neg h1, if_pos (by unfold FX9_isIn; rw [if_neg h2, if_pos h3])]
      · have hI : ¬ FX9_isIn sc 100000000000 = 0 := by unfold FX9_isIn; rw [if_neg h2, if_neg h3]; decide
        by_cases h4 : yn = 200
        · refine bad ?_ ?_
          · unfold FX8_give FX6_areAtLimit; rw [if_neg h1, if_neg h2, if_neg h3, if_neg (show ¬ yn < 200 by omega), if_neg (show ¬ (1 : Int32) = 0 by decide)]
          · unfold FX9_give; rw [num_eq, if_neg h1, if_neg hI, if_pos h4]
        · have hL : FX6_areAtLimit yn = 0 := by unfold FX6_areAtLimit; rw [if_pos (by omega)]
          have hR := reason_eq (mf := mf) (pm := pm) (k := k) (sh := sh) (w := w) hmn hyn hP hS hT hQ hM h1
          obtain ⟨R, hRe⟩ : ∃ R, R = FX8_reasonToRefuse mf mp ms mn pt pl pm ys yt yn k v sh w := ⟨_, rfl⟩
          rw [← hRe] at hR
          by_cases h7 : R = 7
          · -- already paid: a refusal
            have hex : ∃ i, i < yn ∧ ys i = v := by
              have h7' : FX8_reasonToRefuse mf mp ms mn pt pl pm ys yt yn k v sh w = 7 := by rw [← hRe, h7]
              unfold FX8_reasonToRefuse at h7'
              repeat' split at h7'
              all_goals first | exact absurd h7' (by decide) | skip
              next hf =>
                rcases find_or ys yt yn v (FX4_setOf ms mn k) with ⟨a, _⟩ | ⟨j, hj, _, b, _⟩
                · exact absurd a hf
                · exact ⟨j, hj, b⟩
            obtain ⟨q1, q2, q3⟩ := refuse_eq (fp := fp) (k := k) hF hc hex
            have e1 : FX8_give lr mf mp ms mu mn pt pl pm ys yp yt yh ym yr yn fp fn k v sh w sc = (0, 7, ys, yp, yt, yh, ym, (FX8_noteRefusal ys yr yn fp fn k v).1, yn, mu, (FX8_noteRefusal ys yr yn fp fn k v).2.1, (FX8_noteRefusal ys yr yn fp fn k v).2.2) := by
              unfold FX8_give; rw [if_neg h1, if_neg h2, if_neg h3, if_pos hL, ← hRe, h7, if_pos rfl, if_neg (show ¬ (7 : Int32) = 0 by decide)]
            have e2 : FX9_give mn yn lr rrn fn ms mf rda rle pm ys yp yh rmt rco rpr rrf rof fp k v sh w sc = (0, 0, 7, ys, yp, yh, rmt, rco, rpr, yn, (FX9_refuse rrn fn rrf rof fp k v).1, (FX9_refuse rrn fn rrf rof fp k v).2.1, (FX9_refuse rrn fn rrf rof fp k v).2.2.1, (FX8_noteRefusal ys yr yn fp fn k v).2.1, (FX8_noteRefusal ys yr yn fp fn k v).2.2) := by
              unfold FX9_give; rw [num_eq, if_neg h1, if_neg hI, if_neg h4, hR, h7, if_pos rfl, if_neg (show ¬ (7 : Int32) ≤ 0 by decide), q1, q2]
            exact ⟨_, _, _, _, _, _, _, _, _, _, _, _, _, _, _, _, _, _, e1, e2, hyn, hY, hT, hQ, hU, q3, hC, hN⟩
          · by_cases h0 : R = 0
            · -- paid
              have h0' : FX8_reasonToRefuse mf mp ms mn pt pl pm ys yt yn k v sh w = 0 := by rw [← hRe, h0]
              unfold FX8_reasonToRefuse at h0'
              by_cases hex : FX4_exists mn k = 0
              · rw [if_pos hex] at h0'; exact absurd h0' (by decide)
              · obtain ⟨i, hi, rfl⟩ := isIx_lt (n := mn) hex (by omega)
                have hset : FX4_setOf ms mn (nI i) = ms i := by unfold FX4_setOf; rw [if_neg hex, nI_clamp (by omega)]
                have hfd : FX6_find ys yt yn v (ms i) = -1 := by
                  rw [← hset]
                  repeat' split at h0'
                  all_goals first | exact absurd h0' (by decide) | assumption
                obtain ⟨si, hsi, esi⟩ := hM i hi
                have hm1 : ¬ ms i = -1 := by rw [esi]; exact nI_m1 (by omega)
                have hno : ∀ j, j < yn → ¬ QP ys rco ms yp v (ms i) j := by
                  intro j hj q
                  rcases find_or ys yt yn v (ms i) with ⟨_, b⟩ | ⟨j2, hj2, a, _⟩
                  · exact b j hj ⟨q.2.1, (yt_iff hT hm1 hj).mpr ⟨q.1, q.2.2⟩⟩
                  · rw [hfd] at a; exact nI_m1 (by omega) a.symm
                have hadd : FX6_add ys yp yt yh ym yn v (nI i) (FX4_setOf ms mn (nI i)) sh ((sc / 2592000).toInt32) = (vp_updL ys yn v, upd yp yn (nI i), upd yt yn (ms i), upd yh yn sh, upd ym yn ((sc / 2592000).toInt32), yn + 1) := by
                  unfold FX6_add; rw [if_pos (by omega), hset]
                have hun : FX4_addUnprinted mu mn (nI i) = upd mu i (mu i + 1) := by unfold FX4_addUnprinted; rw [if_neg hex, nI_clamp (by omega)]
                have e1 : FX8_give lr mf mp ms mu mn pt pl pm ys yp yt yh ym yr yn fp fn (nI i) v sh w sc = (1, 0, vp_updL ys yn v, upd yp yn (nI i), upd yt yn (ms i), upd yh yn sh, upd ym yn ((sc / 2592000).toInt32), yr, yn + 1, upd mu i (mu i + 1), fp, fn) := by
                  unfold FX8_give; rw [if_neg h1, if_neg h2, if_neg h3, if_pos hL, ← hRe, h0, if_neg (show ¬ (0 : Int32) = 7 by decide), if_pos rfl, hadd, hun]
                have e2 : FX9_give mn yn lr rrn fn ms mf rda rle pm ys yp yh rmt rco rpr rrf rof fp (nI i) v sh w sc = (1, 0, 0, vp_updL ys yn v, upd yp yn (nI i), upd yh yn sh, vp_updL rmt yn (sc / 2592000), upd rco yn 1, upd rpr yn 0, yn + 1, rrf, rof, rrn, fp, fn) := by
                  unfold FX9_give; rw [num_eq, if_neg h1, if_neg hI, if_neg h4, hR, h0, if_neg (show ¬ (0 : Int32) = 7 by decide), if_pos (show (0 : Int32) ≤ 0 by decide)]; rfl
                have hcl : (nI i).toNatClampNeg = i := nI_clamp (by omega)
                refine ⟨_, _, _, _, _, _, _, _, _, _, _, _, _, _, _, _, _, _, e1, e2, by omega, ⟨fun j hj => ?_, fun j => ?_⟩, fun j hj => ?_, fun j q hj hq a b d f => ?_, fun j hj => ?_, hF.add.mono (by omega), ?_, ?_⟩
                · by_cases e : j = yn
                  · rw [e, pk_us, pk_uLs]; exact ⟨⟨i, hi, rfl⟩, num_nat h1⟩
                  · rw [pk_un e, pk_uLn e]; exact hY.1 j (by omega)
                · by_cases e : j = yn
                  · rw [e, pk_us, pk_uLs]
                    rw [lgc_lt] at h2
                    rw [lgc_gt] at h3
                    obtain ⟨x, hx, rfl⟩ := pk_lOf h2
                    rw [show (100000000000 : Int64) = lN 100000000000 from rfl, pk_lLT (by decide) hx] at h3
                    rw [show (2592000 : Int64) = lN 2592000 from rfl, pk_lDiv hx (by decide) (by decide), lN_i, nI_l (by omega)]
                  · rw [pk_un e, pk_uLn e]; exact hY.2 j
                · by_cases e : j = yn
                  · rw [e, pk_us, pk_us, pk_us, if_neg (show ¬ (1 : Int32) = 0 by decide), hcl]
                  · rw [pk_un e, pk_un e, pk_un e]; exact hT j (by omega)
                · by_cases e : j = yn
                  · by_cases e2 : q = yn
                    · rw [e, e2]
                    · exfalso
                      rw [e] at d f
                      rw [pk_uLs, pk_uLn e2] at d
                      rw [pk_us, pk_un e2, hcl] at f
                      rw [pk_un e2] at b
                      exact hno q (by omega) ⟨b, d.symm, f.symm⟩
                  · by_cases e2 : q = yn
                    · exfalso
                      rw [e2] at d f
                      rw [pk_uLs, pk_uLn e] at d
                      rw [pk_us, pk_un e, hcl] at f
                      rw [pk_un e] at a
                      exact hno j (by omega) ⟨a, d, f⟩
                    · rw [pk_uLn e, pk_uLn e2] at d
                      rw [pk_un e, pk_un e2] at f
                      rw [pk_un e] at a
                      rw [pk_un e2] at b
                      exact hQ j q (by omega) (by omega) a b d f
                · rw [cU, pk_us, pk_us, cU_congr (yq := yp) (rqr := rpr) (fun z hz => ⟨pk_un (by omega), pk_un (by omega)⟩)]
                  by_cases e : j = i
                  · rw [e, pk_us, if_pos rfl, if_pos rfl, hU i hi, nI_1]
                  · rw [pk_un e, if_neg (fun q => e ((nI_eq (by omega) (by omega)).mp q).symm), Nat.add_zero, hU j hj]
                · rw [cP, pk_us, if_pos rfl, Nat.add_zero, cP_congr (rqr := rpr) (fun z hz => pk_un (by omega))]; exact hC
                · rw [cN, pk_us, if_neg (show ¬ (1 : Int32) = 0 by decide), Nat.add_zero, cN_congr (g := rco) (fun z hz => pk_un (by omega))]; exact hN
            · -- refused for another reason
              have hpos : ¬ R ≤ 0 := by
                have : R = 1 ∨ R = 2 ∨ R = 3 ∨ R = 4 ∨ R = 5 ∨ R = 6 := by
                  rw [hRe] at h0 h7 ⊢
                  unfold FX8_reasonToRefuse at h0 h7 ⊢
                  repeat' split
                  all_goals first | exact Or.inl rfl | exact Or.inr (Or.inl rfl) | exact Or.inr (Or.inr (Or.inl rfl)) | exact Or.inr (Or.inr (Or.inr (Or.inl rfl))) | exact Or.inr (Or.inr (Or.inr (Or.inr (Or.inl rfl)))) | exact Or.inr (Or.inr (Or.inr (Or.inr (Or.inr rfl)))) | skip
                  all_goals simp_all
                rcases this with rfl | rfl | rfl | rfl | rfl | rfl <;> decide
              have e1 : FX8_give lr mf mp ms mu mn pt pl pm ys yp yt yh ym yr yn fp fn k v sh w sc = (0, R, ys, yp, yt, yh, ym, yr, yn, mu, fp, fn) := by
                unfold FX8_give; rw [if_neg h1, if_neg h2, if_neg h3, if_pos hL, ← hRe, if_neg h7, if_neg h0]
              have e2 : FX9_give mn yn lr rrn fn ms mf rda rle pm ys yp yh rmt rco rpr rrf rof fp k v sh w sc = (0, 0, R, ys, yp, yh, rmt, rco, rpr, yn, rrf, rof, rrn, fp, fn) := by
                unfold FX9_give; rw [num_eq, if_neg h1, if_neg hI, if_neg h4, hR, if_neg h7, if_neg hpos]
              exact ⟨_, _, _, _, _, _, _, _, _, _, _, _, _, _, _, _, _, _, e1, e2, same⟩
