/-! PURE ROWS 4: clear, coupon -/
/-- what is known of each payment -/
def PY (ys rmt : Nat → Int64) (yp ym : Nat → Int32) (yn mn : Nat) : Prop := (∀ k, k < yn → (∃ i, i < mn ∧ yp k = nI i) ∧ (∃ x : Nat, x < 10 ^ 18 ∧ ys k = lN x)) ∧ ∀ k, rmt k = (ym k).toInt64
def AC (ys : Nat → Int64) (yp ym : Nat → Int32) (yn : Nat) (mo : Int32) (sy : Nat) : Nat → Nat → Int64 → Int64
  | 0, _, a => a
  | n + 1, k, a => if yn ≤ k then a else if ym k = mo then AC ys yp ym yn mo sy n (k + 1) ((a + (if yp k - yp k / 3 * 3 = nI sy then (-25) else 0)) + (if FX5_systemOfSerial (ys k) = nI sy then 25 else 0)) else AC ys yp ym yn mo sy n (k + 1) a
theorem rem3 {i : Nat} (h : i < 2 ^ 31) : nI i - nI i / 3 * 3 = nI (i % 3) := pk_rem (a := i) (d := 3) h (by decide) (by decide)
theorem sysL {x : Nat} (h : x < 10 ^ 18) : ((lN x / 10) - (lN x / 10) / 10 * 10) - ((lN x / 10) - (lN x / 10) / 10 * 10) / 3 * 3 = lN (x / 10 % 10 % 3) := by
  rw [ldiv10 (by omega), lremL (by omega), show (3 : Int64) = lN 3 from rfl, pk_lRem (by omega) (by decide) (by decide)]
theorem sys_nat {x : Nat} (h : x < 10 ^ 18) : FX5_systemOfSerial (lN x) = nI (x / 10 % 10 % 3) := by
  unfold FX5_systemOfSerial
  rw [sysL h, lN_i]
theorem addTo_at {vb : Nat → Int64} {j : Nat} {am : Int32} (hj : j < 3) (sy : Nat) (hs : sy < 2 ^ 31) : FX6_addTo vb (nI j) am sy = vb sy + (if nI j = nI sy then am.toInt64 else 0) := by
  unfold FX6_addTo
  rw [if_neg (fun h => (isIx0.mp h).elim (nI_pos (by omega)) (fun h2 => by have := (nI_leI (a := 3) (b := j) (by omega) (by omega)).mp h2; omega)), nI_clamp (by omega)]
  by_cases h : sy = j
  · subst h; rw [pk_uLs, if_pos rfl]
  · rw [pk_uLn h, if_neg (fun q => h ((nI_eq (by omega) (by omega)).mp q).symm), Int64.add_zero]
theorem addTo_hi {vb : Nat → Int64} {j : Nat} {am : Int32} (hj : j < 3) (t : Nat) (ht : 3 ≤ t) : FX6_addTo vb (nI j) am t = vb t := by
  unfold FX6_addTo
  rw [if_neg (fun h => (isIx0.mp h).elim (nI_pos (by omega)) (fun h2 => by have := (nI_leI (a := 3) (b := j) (by omega) (by omega)).mp h2; omega)), nI_clamp (by omega), pk_uLn (by omega)]
theorem l20_at {ys rmt : Nat → Int64} {yp ym : Nat → Int32} {yn mn : Nat} {mo : Int32} (hmn : mn ≤ 6) (hp : PY ys rmt yp ym yn mn) (n : Nat) : ∀ (k : Nat) (vbx : Nat → Int64), k + n = yn + 1 → k ≤ yn →
    (∀ sy, sy < 3 → FX6_balance_l20 ys yp ym yn mo n k vbx sy = AC ys yp ym yn mo sy n k (vbx sy)) ∧ ∀ t, 3 ≤ t → FX6_balance_l20 ys yp ym yn mo n k vbx t = vbx t := by
  induction n with
  | zero => intro k vbx h1 h2; omega
  | succ n ih =>
    intro k vbx h1 h2
    by_cases h3 : yn ≤ k
    · refine ⟨fun sy hs => ?_, fun t ht => ?_⟩
      · rw [FX6_balance_l20, AC, if_pos h3, if_pos h3]
      · rw [FX6_balance_l20, if_pos h3]
    · by_cases h4 : ym k = mo
      · obtain ⟨⟨i, hi, ei⟩, x, hx, ex⟩ := hp.1 k (by omega)
        have ep : yp k - yp k / 3 * 3 = nI (i % 3) := by rw [ei, rem3 (by omega)]
        have eq : FX5_systemOfSerial (ys k) = nI (x / 10 % 10 % 3) := by rw [ex, sys_nat hx]
        obtain ⟨q1, q2⟩ := ih (k + 1) (FX6_addTo (FX6_addTo vbx (nI (i % 3)) (-25)) (nI (x / 10 % 10 % 3)) 25) (by omega) (by omega)
        refine ⟨fun sy hs => ?_, fun t ht => ?_⟩
        · rw [FX6_balance_l20, AC, if_neg h3, if_neg h3, if_pos h4, if_pos h4, ep, eq, q1 sy hs, addTo_at (by omega) sy (by omega), addTo_at (by omega) sy (by omega)]
          rfl
        · rw [FX6_balance_l20, if_neg h3, if_pos h4, ep, eq, q2 t ht, addTo_hi (by omega) t ht, addTo_hi (by omega) t ht]
      · obtain ⟨q1, q2⟩ := ih (k + 1) vbx (by omega) (by omega)
        refine ⟨fun sy hs => ?_, fun t ht => ?_⟩
        · rw [FX6_balance_l20, AC, if_neg h3, if_neg h3, if_neg h4, if_neg h4]; exact q1 sy hs
        · rw [FX6_balance_l20, if_neg h3, if_neg h4]; exact q2 t ht
theorem bal_at {ys rmt : Nat → Int64} {yp ym : Nat → Int32} {yn mn : Nat} {mo : Int32} {vb : Nat → Int64} (hmn : mn ≤ 6) (hp : PY ys rmt yp ym yn mn) :
    (∀ sy, sy < 3 → FX6_balance ys yp ym yn vb mo sy = AC ys yp ym yn mo sy (yn + 1) 0 0) ∧ ∀ t, 3 ≤ t → FX6_balance ys yp ym yn vb mo t = vb t := by
  have e : FX6_balance ys yp ym yn vb mo = FX6_balance_l20 ys yp ym yn mo (yn + 1) 0 (vp_updL (vp_updL (vp_updL vb 0 0) 1 0) 2 0) := by
    unfold FX6_balance
    rw [FX6_balance_l2, if_neg (by decide), FX6_balance_l2, if_neg (by decide), FX6_balance_l2, if_neg (by decide), FX6_balance_l2, if_pos (by decide)]
  rw [e]
  obtain ⟨q1, q2⟩ := l20_at (mo := mo) hmn hp (yn + 1) 0 (vp_updL (vp_updL (vp_updL vb 0 0) 1 0) 2 0) (by omega) (by omega)
  refine ⟨fun sy hs => ?_, fun t ht => ?_⟩
  · rw [q1 sy hs]
    rcases (show sy = 0 ∨ sy = 1 ∨ sy = 2 by omega) with rfl | rfl | rfl
    · rw [pk_uLn (by decide), pk_uLn (by decide), pk_uLs]
    · rw [pk_uLn (by decide), pk_uLs]
    · rw [pk_uLs]
  · rw [q2 t ht, pk_uLn (by omega), pk_uLn (by omega), pk_uLn (by omega)]
theorem i64_sub25 (a : Int64) : a - 25 = a + (-25) := Int64.sub_eq_add_neg a 25
theorem i64_sub0 (a : Int64) : a - 0 = a + 0 := by rw [Int64.sub_zero, Int64.add_zero]
theorem upd2 {bx : Nat → Int64} {sy : Nat} {a b : Int64} : vp_updL (vp_updL bx sy a) sy ((vp_updL bx sy a) sy + b) sy = a + b := by rw [pk_uLs, pk_uLs]
theorem upd2n {bx : Nat → Int64} {sy t : Nat} {a b : Int64} (h : t ≠ sy) : vp_updL (vp_updL bx sy a) sy ((vp_updL bx sy a) sy + b) t = bx t := by rw [pk_uLn h, pk_uLn h]
theorem l37_at {ys rmt : Nat → Int64} {yp ym : Nat → Int32} {yn mn : Nat} {mo : Int32} {sy : Nat} (hs : sy < 3) (hp : PY ys rmt yp ym yn mn) (n : Nat) : ∀ (j : Nat) (bx : Nat → Int64), j + n = yn + 1 → j ≤ yn →
    (FX9_clear_l37 yn ys yp rmt mo sy n j bx).2 sy = AC ys yp ym yn mo sy n j (bx sy) ∧ ∀ t, t ≠ sy → (FX9_clear_l37 yn ys yp rmt mo sy n j bx).2 t = bx t := by
  induction n with
  | zero => intro j bx h1 h2; omega
  | succ n ih =>
    intro j bx h1 h2
    by_cases h3 : yn ≤ j
    · rw [FX9_clear_l37, AC, if_pos h3, if_pos h3]; exact ⟨rfl, fun t _ => rfl⟩
    · obtain ⟨⟨i, hi, ei⟩, x, hx, ex⟩ := hp.1 j (by omega)
      have em : lg_cmp (rmt j) mo.toInt64 = 0 ↔ ym j = mo := by
        rw [lgc_eq, hp.2 j]
        exact ⟨fun h => by have := congrArg Int64.toInt h; rw [Int32.toInt_toInt64, Int32.toInt_toInt64] at this; exact Int32.toInt_inj.mp this, fun h => by rw [h]⟩
      have es : lg_cmp ((((ys j) / 10) - ((ys j) / 10) / 10 * 10) - (((ys j) / 10) - ((ys j) / 10) / 10 * 10) / 3 * 3) ((nI sy).toInt64) = 0 ↔ FX5_systemOfSerial (ys j) = nI sy := by
        rw [lgc_eq, ex, sysL hx, sys_nat hx, nI_l (by omega), pk_lEQ (by omega) (by omega), nI_eq (by omega) (by omega)]
      by_cases h4 : ym j = mo
      · rw [FX9_clear_l37, AC, if_neg h3, if_neg h3, if_pos (em.mpr h4), if_pos h4]
        by_cases h5 : yp j - yp j / 3 * 3 = nI sy
        · rw [if_pos h5, if_pos h5]
          by_cases h6 : FX5_systemOfSerial (ys j) = nI sy
          · rw [if_pos (es.mpr h6), if_pos h6]
            obtain ⟨q1, q2⟩ := ih (j + 1) (vp_updL (vp_updL bx sy (bx sy - 25)) sy ((vp_updL bx sy (bx sy - 25)) sy + 25)) (by omega) (by omega)
            exact ⟨by rw [q1, upd2, i64_sub25], fun t ht => by rw [q2 t ht, upd2n ht]⟩
          · rw [if_neg (fun q => h6 (es.mp q)), if_neg h6]
            obtain ⟨q1, q2⟩ := ih (j + 1) (vp_updL (vp_updL bx sy (bx sy - 25)) sy ((vp_updL bx sy (bx sy - 25)) sy + 0)) (by omega) (by omega)
            exact ⟨by rw [q1, upd2, i64_sub25], fun t ht => by rw [q2 t ht, upd2n ht]⟩
        · rw [if_neg h5, if_neg h5]
          by_cases h6 : FX5_systemOfSerial (ys j) = nI sy
          · rw [if_pos (es.mpr h6), if_pos h6]
            obtain ⟨q1, q2⟩ := ih (j + 1) (vp_updL (vp_updL bx sy (bx sy - 0)) sy ((vp_updL bx sy (bx sy - 0)) sy + 25)) (by omega) (by omega)
            exact ⟨by rw [q1, upd2, i64_sub0], fun t ht => by rw [q2 t ht, upd2n ht]⟩
          · rw [if_neg (fun q => h6 (es.mp q)), if_neg h6]
            obtain ⟨q1, q2⟩ := ih (j + 1) (vp_updL (vp_updL bx sy (bx sy - 0)) sy ((vp_updL bx sy (bx sy - 0)) sy + 0)) (by omega) (by omega)
            exact ⟨by rw [q1, upd2, i64_sub0], fun t ht => by rw [q2 t ht, upd2n ht]⟩
      · rw [FX9_clear_l37, AC, if_neg h3, if_neg h3, if_neg (fun q => h4 (em.mp q)), if_neg h4]
        exact ih (j + 1) bx (by omega) (by omega)
theorem clear_eq {ys rmt : Nat → Int64} {yp ym : Nat → Int32} {yn mn : Nat} {mo : Int32} {vb : Nat → Int64} (hmn : mn ≤ 6) (hp : PY ys rmt yp ym yn mn) : FX9_clear yn ys yp rmt vb mo = ((FX8_clear ys yp ym yn vb mo).1, 0, (FX8_clear ys yp ym yn vb mo).2) := by
  unfold FX9_clear FX8_clear
  rw [ix_eq (n := 40001) (by decide)]
  have r1 := @rng mo 40000 40001 (by decide)
  by_cases h1 : mo < 0
  · rw [if_pos (r1.mpr (Or.inl h1)), if_pos h1]
  · rw [if_neg h1]
    by_cases h2 : mo ≤ 40000
    · rw [if_neg (fun h => (r1.mp h).elim h1 (fun q => q h2)), if_pos h2]
      obtain ⟨c1, c2⟩ := bal_at (mo := mo) (vb := vb) hmn hp
      obtain ⟨b0, hb0⟩ : ∃ b, b = (FX9_clear_l37 yn ys yp rmt mo 0 (yn + 1) 0 (vp_updL vb 0 0)).2 := ⟨_, rfl⟩
      obtain ⟨b1, hb1⟩ : ∃ b, b = (FX9_clear_l37 yn ys yp rmt mo (0 + 1) (yn + 1) 0 (vp_updL b0 (0 + 1) 0)).2 := ⟨_, rfl⟩
      obtain ⟨b2, hb2⟩ : ∃ b, b = (FX9_clear_l37 yn ys yp rmt mo (0 + 1 + 1) (yn + 1) 0 (vp_updL b1 (0 + 1 + 1) 0)).2 := ⟨_, rfl⟩
      obtain ⟨p0, p1⟩ := l37_at (mo := mo) (sy := 0) (by decide) hp (yn + 1) 0 (vp_updL vb 0 0) (by omega) (by omega)
      obtain ⟨p2, p3⟩ := l37_at (mo := mo) (sy := 0 + 1) (by decide) hp (yn + 1) 0 (vp_updL b0 (0 + 1) 0) (by omega) (by omega)
      obtain ⟨p4, p5⟩ := l37_at (mo := mo) (sy := 0 + 1 + 1) (by decide) hp (yn + 1) 0 (vp_updL b1 (0 + 1 + 1) 0) (by omega) (by omega)
      rw [← hb0, pk_uLs] at p0
      rw [← hb0] at p1
      rw [← hb1, pk_uLs] at p2
      rw [← hb1] at p3
      rw [← hb2, pk_uLs] at p4
      rw [← hb2] at p5
      have f0 : b0 0 = FX6_balance ys yp ym yn vb mo 0 := by rw [p0, c1 0 (by decide)]
      have f1 : b1 (0 + 1) = FX6_balance ys yp ym yn vb mo (0 + 1) := by rw [p2, c1 (0 + 1) (by decide)]
      have f2 : b2 (0 + 1 + 1) = FX6_balance ys yp ym yn vb mo (0 + 1 + 1) := by rw [p4, c1 (0 + 1 + 1) (by decide)]
      have fb : b2 = FX6_balance ys yp ym yn vb mo := by
        funext t
        rcases (show t = 0 ∨ t = 0 + 1 ∨ t = 0 + 1 + 1 ∨ 3 ≤ t by omega) with rfl | rfl | rfl | ht
        · rw [p5 0 (by decide), pk_uLn (by decide), p3 0 (by decide), pk_uLn (by decide), f0]
        · rw [p5 (0 + 1) (by decide), pk_uLn (by decide), f1]
        · exact f2
        · rw [p5 t (by omega), pk_uLn (by omega), p3 t (by omega), pk_uLn (by omega), p1 t (by omega), pk_uLn (by omega), c2 t ht]
      rw [FX9_clear_l22, if_neg (by decide), ← hb0, FX8_clear_l28, if_neg (show ¬ 3 ≤ 0 by decide), f0]
      by_cases g0 : lg_cmp (FX6_balance ys yp ym yn vb mo 0) 0 = 0
      all_goals
        first | rw [if_pos g0, if_pos g0] | rw [if_neg g0, if_neg g0]
        rw [FX9_clear_l22, if_neg (show ¬ 3 ≤ 0 + 1 by decide), ← hb1, FX8_clear_l28, if_neg (show ¬ 3 ≤ 0 + 1 by decide), f1]
        by_cases g1 : lg_cmp (FX6_balance ys yp ym yn vb mo (0 + 1)) 0 = 0
        all_goals
          first | rw [if_pos g1, if_pos g1] | rw [if_neg g1, if_neg g1]
          rw [FX9_clear_l22, if_neg (show ¬ 3 ≤ 0 + 1 + 1 by decide), ← hb2, FX8_clear_l28, if_neg (show ¬ 3 ≤ 0 + 1 + 1 by decide), f2]
          by_cases g2 : lg_cmp (FX6_balance ys yp ym yn vb mo (0 + 1 + 1)) 0 = 0
          all_goals
            first | rw [if_pos g2, if_pos g2] | rw [if_neg g2, if_neg g2]
            rw [FX9_clear_l22, if_pos (show 3 ≤ 0 + 1 + 1 + 1 by decide), FX8_clear_l28, if_pos (show 3 ≤ 0 + 1 + 1 + 1 by decide), fb]
    · rw [if_pos (r1.mpr (Or.inr h2)), if_neg h2]
/-- payments of a machine that no coupon tells; payments that one tells -/
def cU (yp rpr : Nat → Int32) (i : Int32) : Nat → Nat
  | 0 => 0
  | n + 1 => cU yp rpr i n + (if yp n = i then (if rpr n = 0 then 1 else 0) else 0)
def cP (rpr : Nat → Int32) : Nat → Nat
  | 0 => 0
  | n + 1 => cP rpr n + (if rpr n = 0 then 0 else 1)
theorem cU_cP (yp rpr : Nat → Int32) (i : Int32) (n : Nat) : cU yp rpr i n + cP rpr n ≤ n := by
  induction n with
  | zero => exact Nat.le_refl 0
  | succ n ih =>
    rw [cU, cP]
    by_cases h1 : yp n = i
    · by_cases h2 : rpr n = 0
      · rw [if_pos h1, if_pos h2, if_pos h2]; omega
      · rw [if_pos h1, if_neg h2, if_neg h2]; omega
    · rw [if_neg h1]; split <;> omega
theorem cU_congr {yp yq rpr rqr : Nat → Int32} {i : Int32} {n : Nat} (h : ∀ k, k < n → yp k = yq k ∧ rpr k = rqr k) : cU yp rpr i n = cU yq rqr i n := by
  induction n with
  | zero => rfl
  | succ n ih => rw [cU, cU, ih (fun k hk => h k (by omega)), (h n (by omega)).1, (h n (by omega)).2]
theorem cP_congr {rpr rqr : Nat → Int32} {n : Nat} (h : ∀ k, k < n → rpr k = rqr k) : cP rpr n = cP rqr n := by
  induction n with
  | zero => rfl
  | succ n ih => rw [cP, cP, ih (fun k hk => h k (by omega)), h n (by omega)]
/-- all of machine i's printed -/
def prF (yp rpr : Nat → Int32) (i : Int32) (yn : Nat) : Nat → Int32 := fun j => if j < yn then (if yp j = i then (if rpr j = 0 then 1 else rpr j) else rpr j) else rpr j
theorem prF_U (yp rpr : Nat → Int32) (i j : Int32) (yn n : Nat) (h : n ≤ yn) : cU yp (prF yp rpr i yn) j n = if j = i then 0 else cU yp rpr j n := by
  induction n with
  | zero => rw [cU, cU]; split <;> rfl
  | succ n ih =>
    rw [cU, ih (by omega), cU]
    unfold prF
    rw [if_pos (show n < yn by omega)]
    by_cases h1 : j = i
    · rw [if_pos h1, if_pos h1, h1]
      by_cases h2 : yp n = i
      · rw [if_pos h2, if_pos h2]
        by_cases h3 : rpr n = 0
        · rw [if_pos h3, if_neg (by decide)]
        · rw [if_neg h3, if_neg h3]
      · rw [if_neg h2]
    · rw [if_neg h1, if_neg h1]
      by_cases h2 : yp n = j
      · rw [if_pos h2, if_pos h2, if_neg (fun q => h1 (h2.symm.trans q))]
      · rw [if_neg h2, if_neg h2]
theorem prF_P (yp rpr : Nat → Int32) (i : Int32) (yn n : Nat) (h : n ≤ yn) : cP (prF yp rpr i yn) n = cP rpr n + cU yp rpr i n := by
  induction n with
  | zero => rfl
  | succ n ih =>
    rw [cP, ih (by omega), cP, cU]
    unfold prF
    rw [if_pos (show n < yn by omega)]
    by_cases h2 : yp n = i
    · rw [if_pos h2, if_pos h2]
      by_cases h3 : rpr n = 0
      · rw [if_pos h3, if_neg (by decide), if_pos h3, if_pos h3]; omega
      · rw [if_neg h3, if_neg h3, if_neg h3]; omega
    · rw [if_neg h2, if_neg h2]; split <;> omega
theorem l23_eq {mn yn cn : Nat} {yp rpr ca : Nat → Int32} {mc : Int32} (n : Nat) : ∀ (k : Nat) (prx : Nat → Int32), k + n = yn + 1 → k ≤ yn → (∀ j, prx j = if j < k then prF yp rpr mc yn j else rpr j) →
    FX9_coupon_l23 mn yn cn yp ca mc n k (cU yp rpr mc k) prx = if cU yp rpr mc yn = 0 then (-1, 0, prF yp rpr mc yn, ca, cn) else (nI cn, 0, prF yp rpr mc yn, upd ca cn (nI (25 * cU yp rpr mc yn)), cn + 1) := by
  induction n with
  | zero => intro k prx h1 h2; omega
  | succ n ih =>
    intro k prx h1 h2 hx
    rw [FX9_coupon_l23, mach_eq]
    by_cases h3 : yn ≤ k
    · have hk : k = yn := by omega
      subst hk
      have e : prx = prF yp rpr mc k := by
        funext j
        rw [hx j]
        by_cases hj : j < k
        · rw [if_pos hj]
        · rw [if_neg hj]; unfold prF; rw [if_neg hj]
      rw [if_pos h3, e, Nat.add_sub_cancel]
    · rw [if_neg h3]
      have hk : prx k = rpr k := by rw [hx k, if_neg (Nat.lt_irrefl k)]
      have step : ∀ prz : Nat → Int32, (∀ j, j ≠ k → prz j = prx j) → prz k = prF yp rpr mc yn k → ∀ j, prz j = if j < k + 1 then prF yp rpr mc yn j else rpr j := by
        intro prz a b j
        by_cases hj : j = k
        · rw [hj, b, if_pos (by omega)]
        · rw [a j hj, hx j]
          by_cases hj2 : j < k
          · rw [if_pos hj2, if_pos (by omega)]
          · rw [if_neg hj2, if_neg (by omega)]
      have hF : prF yp rpr mc yn k = if yp k = mc then (if rpr k = 0 then 1 else rpr k) else rpr k := by unfold prF; rw [if_pos (by omega)]
      by_cases h4 : yp k = mc
      · rw [if_pos h4, hk]
        by_cases h5 : rpr k = 0
        · rw [if_pos h5, show cU yp rpr mc k + 1 = cU yp rpr mc (k + 1) by rw [cU, if_pos h4, if_pos h5]]
          exact ih (k + 1) _ (by omega) (by omega) (step _ (fun j hj => pk_un hj) (by rw [pk_us, hF, if_pos h4, if_pos h5]; rfl))
        · rw [if_neg h5, show cU yp rpr mc k = cU yp rpr mc (k + 1) by rw [cU, if_pos h4, if_neg h5, Nat.add_zero]]
          exact ih (k + 1) _ (by omega) (by omega) (step _ (fun j hj => rfl) (by rw [hk, hF, if_pos h4, if_neg h5]))
      · rw [if_neg h4, show cU yp rpr mc k = cU yp rpr mc (k + 1) by rw [cU, if_neg h4, Nat.add_zero]]
        exact ih (k + 1) _ (by omega) (by omega) (step _ (fun j hj => rfl) (by rw [hk, hF, if_neg h4]))
def RU (mu yp rpr : Nat → Int32) (yn mn : Nat) : Prop := ∀ j, j < mn → mu j = nI (cU yp rpr (nI j) yn)
theorem coupon_eq {mp mu ca rda yp rpr : Nat → Int32} {mn yn cn : Nat} {k : Int32} (hmn : mn ≤ 6) (hyn : yn ≤ 200) (hP : RP mp rda mn) (hU : RU mu yp rpr yn mn) (hC : cn ≤ cP rpr yn) :
    (FX9_coupon mn yn cn rda yp rpr ca k).1 = (FX8_coupon mp mu mn ca cn k).1 ∧ (FX9_coupon mn yn cn rda yp rpr ca k).2.1 = 0 ∧ (FX9_coupon mn yn cn rda yp rpr ca k).2.2.2.1 = (FX8_coupon mp mu mn ca cn k).2.2.1 ∧ (FX9_coupon mn yn cn rda yp rpr ca k).2.2.2.2 = (FX8_coupon mp mu mn ca cn k).2.2.2 ∧
    RU (FX8_coupon mp mu mn ca cn k).2.1 yp (FX9_coupon mn yn cn rda yp rpr ca k).2.2.1 yn mn ∧ (FX8_coupon mp mu mn ca cn k).2.2.2 ≤ cP (FX9_coupon mn yn cn rda yp rpr ca k).2.2.1 yn := by
  unfold FX9_coupon FX8_coupon FX4_hasPower FX4_takeUnprinted
  rw [mach_eq]
  by_cases h1 : FX4_exists mn k = 0
  · simp only [if_pos h1]; exact ⟨by trivial, by trivial, by trivial, by trivial, hU, hC⟩
  · simp only [if_neg h1]
    obtain ⟨i, hi, rfl⟩ := isIx_lt (n := mn) h1 (by omega)
    rw [nI_clamp (by omega)]
    by_cases h2 : mp i = 0
    · rw [if_neg (fun q => (hP.1 i hi).2.mp q h2), if_pos h2, if_pos rfl]; exact ⟨rfl, rfl, rfl, rfl, hU, hC⟩
    · rw [if_pos ((hP.1 i hi).2.mpr h2), if_neg h2, if_neg (show ¬ (1 : Int32) = 0 by decide), show FX9_coupon_l23 mn yn cn yp ca (nI i) (yn + 1) 0 0 rpr = _ from l23_eq (rpr := rpr) (yn + 1) 0 rpr (by omega) (by omega) (fun j => by rw [if_neg (Nat.not_lt_zero j)])]
      have hle := cU_cP yp rpr (nI i) yn
      have hU2 : RU (upd mu i 0) yp (prF yp rpr (nI i) yn) yn mn := fun j hj => by
        rw [prF_U _ _ _ _ _ _ (Nat.le_refl yn)]
        by_cases e : j = i
        · rw [e, pk_us, if_pos rfl]; rfl
        · rw [pk_un e, if_neg (fun q => e ((nI_eq (by omega) (by omega)).mp q)), hU j hj]
      by_cases h3 : cU yp rpr (nI i) yn = 0
      · rw [if_pos h3, if_pos (show mu i = 0 by rw [hU i hi, h3]; rfl)]
        exact ⟨rfl, rfl, rfl, rfl, hU2, by rw [prF_P _ _ _ _ _ (Nat.le_refl yn)]; exact Nat.le_trans hC (Nat.le_add_right _ _)⟩
      · rw [if_neg h3, if_neg (show ¬ mu i = 0 from fun q => h3 ((nI_eq (b := 0) (by omega) (by omega)).mp ((hU i hi).symm.trans q)))]
        unfold FX1_print
        rw [if_pos (show cn < 200 by omega)]
        refine ⟨rfl, rfl, ?_, rfl, hU2, ?_⟩
        · show upd ca cn (nI (25 * cU yp rpr (nI i) yn)) = upd ca cn (mu i * 25)
          rw [hU i hi, show nI (cU yp rpr (nI i) yn) * 25 = nI (cU yp rpr (nI i) yn * 25) from pk_mul _ 25, Nat.mul_comm]
        · rw [prF_P _ _ _ _ _ (Nat.le_refl yn)]; show cn + 1 ≤ _; omega
