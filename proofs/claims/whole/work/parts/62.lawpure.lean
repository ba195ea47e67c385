/-! The loop's invariant, as far as it speaks of values alone. -/
theorem cP_le (f : Nat → Int32) (n : Nat) : cP f n ≤ n := by
  induction n with
  | zero => exact Nat.le_refl 0
  | succ n ih => rw [cP]; split <;> omega
theorem cU_zero {yp rpr : Nat → Int32} {i : Int32} : ∀ n : Nat, (∀ k, k < n → ¬ yp k = i) → cU yp rpr i n = 0 := by
  intro n
  induction n with
  | zero => intro _; rfl
  | succ n ih => intro h; rw [cU, ih (fun k hk => h k (by omega)), if_neg (h n (by omega))]
theorem nI_ne {a b : Nat} (ha : a < 2 ^ 31) (hb : b < 2 ^ 31) (h : ¬ a = b) : ¬ nI a = nI b := fun e => h (by
  have h2 := congrArg Int32.toNatClampNeg e
  rw [nI_clamp ha, nI_clamp hb] at h2
  exact h2)
def DZ (dz : Nat → Int64) (dn : Nat) : Prop := ∀ j, j < dn → ∃ x : Nat, x < 10 ^ 18 ∧ dz j = lN x
def MZ (mu : Nat → Int32) (mn : Nat) : Prop := ∀ j, mn ≤ j → mu j = 0
section lv
variable {bw bd rd : Nat → Int32} {bn : Nat} {mf mp ms mu rda : Nat → Int32} {mn : Nat} {pt pl pm rle : Nat → Int32} {ys rmt rrf : Nat → Int64} {yp yt yh ym yr rco rpr rof : Nat → Int32} {yn : Nat} {dz : Nat → Int64} {da db : Nat → Int32} {dn : Nat} {ca cr : Nat → Int32} {cs : Nat → Int64} {cn rrn : Nat} {fp : Nat → Int32} {fn c : Nat} {lr : Int32}
def LV (bw bd rd : Nat → Int32) (bn : Nat) (mp ms mu rda : Nat → Int32) (mn : Nat) (pt pl rle : Nat → Int32) (ys rmt rrf : Nat → Int64) (yp yt ym yr rco rpr rof : Nat → Int32) (yn : Nat) (dz : Nat → Int64) (dn cn rrn fn c : Nat) : Prop :=
  WOK bw ∧ RB bd rd bn ∧ mn ≤ 6 ∧ RP mp rda mn ∧ RM ms mn ∧ RS pt pl rle ∧ GI ys rmt rrf yp yt ym yr ms mu rco rpr rof yn mn dn cn rrn fn c ∧ DZ dz dn ∧ MZ mu mn
theorem LV.facts (h : LV bw bd rd bn mp ms mu rda mn pt pl rle ys rmt rrf yp yt ym yr rco rpr rof yn dz dn cn rrn fn c) (hc : c ≤ 512) : bn ≤ 14 ∧ mn ≤ 6 ∧ yn ≤ 200 ∧ dn ≤ 200 ∧ cn ≤ 200 ∧ fn ≤ 170 ∧ rrn < 1100 ∧ ∀ j, j < yn → vp_in (yp j) 6 := by
  obtain ⟨-, h2, h3, -, -, -, ⟨g1, g2, g3, g4, g5, g6, g7, g8⟩, -, -⟩ := h
  have a1 := cP_le rpr yn
  have a2 := cN_le rco yn
  have a3 := g6.2.2.2.2.2
  refine ⟨h2.1, h3, g1, by omega, by omega, by omega, by omega, fun j hj => ?_⟩
  obtain ⟨⟨i, hi, ei⟩, -⟩ := g2.1 j hj
  rw [ei]; exact vp_in_nI (by omega) (by decide)
theorem GI.mono (h : GI ys rmt rrf yp yt ym yr ms mu rco rpr rof yn mn dn cn rrn fn c) : GI ys rmt rrf yp yt ym yr ms mu rco rpr rof yn mn dn cn rrn fn (c + 1) := by
  obtain ⟨g1, g2, g3, g4, g5, g6, g7, g8⟩ := h
  exact ⟨g1, g2, g3, g4, g5, g6.mono (by omega), g7, g8⟩
theorem LV.mono (h : LV bw bd rd bn mp ms mu rda mn pt pl rle ys rmt rrf yp yt ym yr rco rpr rof yn dz dn cn rrn fn c) : LV bw bd rd bn mp ms mu rda mn pt pl rle ys rmt rrf yp yt ym yr rco rpr rof yn dz dn cn rrn fn (c + 1) := by
  obtain ⟨h1, h2, h3, h4, h5, h6, h7, h8⟩ := h
  exact ⟨h1, h2, h3, h4, h5, h6, h7.mono, h8⟩
theorem LV.width {k w : Int32} (h : LV bw bd rd bn mp ms mu rda mn pt pl rle ys rmt rrf yp yt ym yr rco rpr rof yn dz dn cn rrn fn c) : LV (FX8_width bw k w).2 bd rd bn mp ms mu rda mn pt pl rle ys rmt rrf yp yt ym yr rco rpr rof yn dz dn cn rrn fn (c + 1) := ⟨width_in h.1, h.mono.2⟩
theorem LV.bars {bd2 rd2 : Nat → Int32} {bn2 : Nat} (h : LV bw bd rd bn mp ms mu rda mn pt pl rle ys rmt rrf yp yt ym yr rco rpr rof yn dz dn cn rrn fn c) (h2 : RB bd2 rd2 bn2) : LV bw bd2 rd2 bn2 mp ms mu rda mn pt pl rle ys rmt rrf yp yt ym yr rco rpr rof yn dz dn cn rrn fn (c + 1) := ⟨h.1, h2, h.mono.2.2⟩
theorem LV.shape {pt2 pl2 rle2 : Nat → Int32} (h : LV bw bd rd bn mp ms mu rda mn pt pl rle ys rmt rrf yp yt ym yr rco rpr rof yn dz dn cn rrn fn c) (h2 : RS pt pl rle → RS pt2 pl2 rle2) : LV bw bd rd bn mp ms mu rda mn pt2 pl2 rle2 ys rmt rrf yp yt ym yr rco rpr rof yn dz dn cn rrn fn (c + 1) := by
  obtain ⟨h1, h2', h3, h4, h5, h6, h7⟩ := h.mono
  exact ⟨h1, h2', h3, h4, h5, h2 h6, h7⟩
theorem LV.power {mp2 rda2 : Nat → Int32} (h : LV bw bd rd bn mp ms mu rda mn pt pl rle ys rmt rrf yp yt ym yr rco rpr rof yn dz dn cn rrn fn c) (h2 : RP mp rda mn → RP mp2 rda2 mn) : LV bw bd rd bn mp2 ms mu rda2 mn pt pl rle ys rmt rrf yp yt ym yr rco rpr rof yn dz dn cn rrn fn (c + 1) := by
  obtain ⟨h1, h2', h3, h4, h7⟩ := h.mono
  exact ⟨h1, h2', h3, h2 h4, h7⟩
theorem LV.machine (h : LV bw bd rd bn mp ms mu rda mn pt pl rle ys rmt rrf yp yt ym yr rco rpr rof yn dz dn cn rrn fn c) : LV bw bd rd bn (FX8_machine mp ms mn).2.1 (FX8_machine mp ms mn).2.2.1 mu rda (FX8_machine mp ms mn).2.2.2 pt pl rle ys rmt rrf yp yt ym yr rco rpr rof yn dz dn cn rrn fn (c + 1) := by
  have hR := machine_RP (ms := ms) h.2.2.2.1
  obtain ⟨h1, h2, h3, h4, h5, h6, ⟨g1, g2, g3, g4, g5, g6, g7, g8⟩, h8, h9⟩ := h.mono
  unfold FX8_machine FX4_addMachine at hR ⊢
  by_cases hm : mn < 6
  · simp only [if_pos hm] at hR ⊢
    have hup : ∀ k, k < yn → upd ms mn (nI mn) (yp k).toNatClampNeg = ms (yp k).toNatClampNeg := fun k hk => by
      obtain ⟨⟨i, hi, ei⟩, -⟩ := g2.1 k hk
      rw [ei, nI_clamp (by omega)]; unfold upd; rw [if_neg (by omega)]
    refine ⟨h1, h2, by omega, hR, ?_, h6, ⟨g1, ⟨fun k hk => ?_, g2.2⟩, fun k hk => ?_, fun j k hj hk a b d f => ?_, ?_, g6, g7, g8⟩, h8, fun j hj => h9 j (by omega)⟩
    · intro j hj
      unfold upd
      by_cases e : j = mn
      · rw [if_pos e]; exact ⟨mn, by omega, rfl⟩
      · rw [if_neg e]
        obtain ⟨i, hi, ei⟩ := h5 j (by omega)
        exact ⟨i, by omega, ei⟩
    · obtain ⟨⟨i, hi, ei⟩, b⟩ := g2.1 k hk
      exact ⟨⟨i, by omega, ei⟩, b⟩
    · rw [hup k hk]; exact g3 k hk
    · rw [hup j hj, hup k hk] at f; exact g4 j k hj hk a b d f
    · intro j hj
      by_cases e : j = mn
      · subst e
        rw [h9 j (Nat.le_refl j), cU_zero yn (fun k hk => ?_)]; rfl
        obtain ⟨⟨i, hi, ei⟩, -⟩ := g2.1 k hk
        rw [ei]; exact nI_ne (by omega) (by omega) (by omega)
      · exact g5 j (by omega)
  · simp only [if_neg hm] at hR ⊢
    exact ⟨h1, h2, h3, hR, h5, h6, ⟨g1, g2, g3, g4, g5, g6, g7, g8⟩, h8, h9⟩
theorem MZ.add {k : Int32} (hmn : mn ≤ 6) (h : MZ mu mn) : MZ (FX4_addUnprinted mu mn k) mn := by
  unfold FX4_addUnprinted
  by_cases h1 : FX4_exists mn k = 0
  · rw [if_pos h1]; exact h
  · rw [if_neg h1]
    obtain ⟨j, hj, rfl⟩ := isIx_lt (n := mn) h1 (by omega)
    intro i hi
    rw [nI_clamp (by omega)]; unfold upd; rw [if_neg (by omega)]; exact h i hi
theorem MZ.take {k : Int32} (hmn : mn ≤ 6) (h : MZ mu mn) : MZ (FX4_takeUnprinted mu mn k).2 mn := by
  unfold FX4_takeUnprinted
  by_cases h1 : FX4_exists mn k = 0
  · rw [if_pos h1]; exact h
  · rw [if_neg h1]
    obtain ⟨j, hj, rfl⟩ := isIx_lt (n := mn) h1 (by omega)
    intro i hi
    show upd mu (nI j).toNatClampNeg 0 i = 0
    rw [nI_clamp (by omega)]; unfold upd; rw [if_neg (by omega)]; exact h i hi
theorem give_MZ {k sh w : Int32} {v sc : Int64} (hmn : mn ≤ 6) (h : MZ mu mn) : MZ (FX8_give lr mf mp ms mu mn pt pl pm ys yp yt yh ym yr yn fp fn k v sh w sc).2.2.2.2.2.2.2.2.2.1 mn := by
  unfold FX8_give
  repeat' split
  all_goals first | exact h | exact h.add hmn
theorem coupon_MZ {k : Int32} (hmn : mn ≤ 6) (h : MZ mu mn) : MZ (FX8_coupon mp mu mn ca cn k).2.1 mn := by
  unfold FX8_coupon
  repeat' split
  all_goals first | exact h | exact h.take hmn
theorem LV.give {k sh w : Int32} {v sc : Int64} (h : LV bw bd rd bn mp ms mu rda mn pt pl rle ys rmt rrf yp yt ym yr rco rpr rof yn dz dn cn rrn fn c) (hc : c < 512) :
    ∃ (r lr2 : Int32) (ys2 : Nat → Int64) (yp2 yt2 yh2 ym2 yr2 : Nat → Int32) (yn2 : Nat) (mu2 fp2 : Nat → Int32) (fn2 : Nat) (rmt2 : Nat → Int64) (rco2 rpr2 : Nat → Int32) (rrf2 : Nat → Int64) (rof2 : Nat → Int32) (rrn2 : Nat),
      FX8_give lr mf mp ms mu mn pt pl pm ys yp yt yh ym yr yn fp fn k v sh w sc = (r, lr2, ys2, yp2, yt2, yh2, ym2, yr2, yn2, mu2, fp2, fn2) ∧
      FX9_give mn yn lr rrn fn ms mf rda rle pm ys yp yh rmt rco rpr rrf rof fp k v sh w sc = (r, 0, lr2, ys2, yp2, yh2, rmt2, rco2, rpr2, yn2, rrf2, rof2, rrn2, fp2, fn2) ∧
      LV bw bd rd bn mp ms mu2 rda mn pt pl rle ys2 rmt2 rrf2 yp2 yt2 ym2 yr2 rco2 rpr2 rof2 yn2 dz dn cn rrn2 fn2 (c + 1) := by
  obtain ⟨h1, h2, h3, h4, h5, h6, h7, h8, h9⟩ := h
  obtain ⟨r, lr2, ys2, yp2, yt2, yh2, ym2, yr2, yn2, mu2, fp2, fn2, rmt2, rco2, rpr2, rrf2, rof2, rrn2, e8, e9, g⟩ := give_eq (lr := lr) (mf := mf) (pm := pm) (yh := yh) (fp := fp) (k := k) (sh := sh) (w := w) (v := v) (sc := sc) h3 h4 h6 h5 h7 hc
  have hz := give_MZ (lr := lr) (mf := mf) (mp := mp) (ms := ms) (pt := pt) (pl := pl) (pm := pm) (ys := ys) (yp := yp) (yt := yt) (yh := yh) (ym := ym) (yr := yr) (yn := yn) (fp := fp) (fn := fn) (k := k) (sh := sh) (w := w) (v := v) (sc := sc) h3 h9
  rw [e8] at hz
  exact ⟨r, lr2, ys2, yp2, yt2, yh2, ym2, yr2, yn2, mu2, fp2, fn2, rmt2, rco2, rpr2, rrf2, rof2, rrn2, e8, e9, h1, h2, h3, h4, h5, h6, g, h8, hz⟩
theorem LV.join {ka kb : Int32} (h : LV bw bd rd bn mp ms mu rda mn pt pl rle ys rmt rrf yp yt ym yr rco rpr rof yn dz dn cn rrn fn c) :
    ∃ (r : Int32) (ms2 yt2 : Nat → Int32) (dz2 : Nat → Int64) (da2 db2 : Nat → Int32) (dn2 : Nat) (rco2 : Nat → Int32), FX8_join ms mn ys yp yt yn dz da db dn ka kb = (r, ms2, yt2, dz2, da2, db2, dn2) ∧ FX9_join mn yn dn ms ys yp rco dz da db ka kb = (r, 0, ms2, rco2, dz2, da2, db2, dn2) ∧
      LV bw bd rd bn mp ms2 mu rda mn pt pl rle ys rmt rrf yp yt2 ym yr rco2 rpr rof yn dz2 dn2 cn rrn fn (c + 1) := by
  obtain ⟨h1, h2, h3, h4, h5, h6, ⟨g1, g2, g3, g4, g5, g6, g7, g8⟩, h8, h9⟩ := h.mono
  obtain ⟨r, ms2, yt2, dz2, da2, db2, dn2, rco2, e8, e9, j1, j2, j3, j4, j5⟩ := join_eq (da := da) (db := db) (ka := ka) (kb := kb) h3 g1 h5 g2 g3 g4 g8 h8
  exact ⟨r, ms2, yt2, dz2, da2, db2, dn2, rco2, e8, e9, h1, h2, h3, h4, j1, h6, ⟨g1, g2, j2, j3, g5, g6, g7, j4⟩, j5, h9⟩
theorem LV.sj {ka kb : Int32} (h : LV bw bd rd bn mp ms mu rda mn pt pl rle ys rmt rrf yp yt ym yr rco rpr rof yn dz dn cn rrn fn c) (hc : c ≤ 512) :
    SJ yn ms ys yp (ms kb.toNatClampNeg) 601 dn rco (FX9_join_l50 yn dn ms ys yp rco ka kb (yn + 1) 0 dz da db dn).2.1 (FX9_join_l50 yn dn ms ys yp rco ka kb (yn + 1) 0 dz da db dn).2.2.2.2 :=
  join_SJ (h.facts hc).2.2.1 (h.facts hc).2.2.2.1 h.2.2.2.2.2.2.1.2.2.2.1
theorem LV.coupon {k : Int32} (h : LV bw bd rd bn mp ms mu rda mn pt pl rle ys rmt rrf yp yt ym yr rco rpr rof yn dz dn cn rrn fn c) :
    (FX9_coupon mn yn cn rda yp rpr ca k).1 = (FX8_coupon mp mu mn ca cn k).1 ∧ (FX9_coupon mn yn cn rda yp rpr ca k).2.1 = 0 ∧ (FX9_coupon mn yn cn rda yp rpr ca k).2.2.2.1 = (FX8_coupon mp mu mn ca cn k).2.2.1 ∧ (FX9_coupon mn yn cn rda yp rpr ca k).2.2.2.2 = (FX8_coupon mp mu mn ca cn k).2.2.2 ∧
    LV bw bd rd bn mp ms (FX8_coupon mp mu mn ca cn k).2.1 rda mn pt pl rle ys rmt rrf yp yt ym yr rco (FX9_coupon mn yn cn rda yp rpr ca k).2.2.1 rof yn dz dn (FX8_coupon mp mu mn ca cn k).2.2.2 rrn fn (c + 1) := by
  obtain ⟨h1, h2, h3, h4, h5, h6, ⟨g1, g2, g3, g4, g5, g6, g7, g8⟩, h8, h9⟩ := h.mono
  obtain ⟨e1, e2, e3, e4, e5, e6⟩ := coupon_eq (ca := ca) (k := k) h3 g1 h4 g5 g7
  exact ⟨e1, e2, e3, e4, h1, h2, h3, h4, h5, h6, ⟨g1, g2, g3, g4, e5, g6, e6, g8⟩, h8, coupon_MZ h3 h9⟩
/-- digit: both throw, or both answer alike -/
theorem LV.digit {k : Int32} (h : RB bd rd bn) : (FX0_digitAt bd bn k = -1 ∧ FX9_digit bn rd k = (0, 1)) ∨ (¬ FX0_digitAt bd bn k = -1 ∧ FX9_digit bn rd k = (FX0_digitAt bd bn k, 0)) := by
  unfold FX0_digitAt FX9_digit
  by_cases hi : FX8_isIndex k (nI bn) = 0
  · rw [if_pos hi]
    refine Or.inl ⟨rfl, ?_⟩
    unfold FX8_isIndex at hi
    by_cases h1 : k < 0
    · rw [if_pos h1]
    · rw [if_neg h1] at hi ⊢
      by_cases h2 : nI bn ≤ k
      · rw [if_neg (fun h3 => Int32.not_lt.mpr h2 h3)]
      · rw [if_neg h2] at hi; exact absurd hi (by decide)
  · obtain ⟨j, hj, rfl⟩ := isIx_lt (n := bn) hi (by have := h.1; omega)
    have hb := h.1
    obtain ⟨e1, d, hd, e2⟩ := h.2 j hj
    rw [if_neg hi, nI_clamp (by omega)]
    refine Or.inr ⟨by rw [e2]; exact nI_m1 (by omega), ?_⟩
    have h1 : ¬ nI j < 0 := by
      rw [Int32.lt_iff_toInt_lt, nI_toInt (by omega)]
      have : (0 : Int32).toInt = 0 := rfl
      omega
    have h2 : nI j < nI bn := by rw [Int32.lt_iff_toInt_lt, nI_toInt (by omega), nI_toInt (by omega)]; omega
    rw [if_neg h1, if_pos h2, e1]
theorem cmp_self (x : Int64) : lg_cmp x x = 0 := by
  unfold lg_cmp
  simp
end lv
