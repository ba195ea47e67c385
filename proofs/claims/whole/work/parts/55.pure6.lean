/-! PURE ROWS 6: join -/
theorem ins_eq {dz : Nat → Int64} {da db : Nat → Int32} {dn fi : Nat} {v : Int64} {pa pb : Int32} (h : dn < 200) : FX2_insert dz da db dn fi v pa pb = FX9_insert dn dz da db fi v pa pb := by
  unfold FX2_insert FX9_insert
  rw [if_neg (by omega), if_pos (Nat.zero_le fi)]
  have : ∀ n pq (x : Nat → Int64) (y z : Nat → Int32), FX2_insert_l21 dn fi v pa pb n pq x y z = FX9_insert_l6 dn fi v pa pb n pq x y z := by
    intro n
    induction n with
    | zero => intro pq x y z; rfl
    | succ n ih =>
      intro pq x y z
      rw [FX2_insert_l21, FX9_insert_l6]
      repeat' split
      all_goals first | rfl | exact ih _ _ _ _
  exact this _ _ _ _ _
def hol {α : Type} (f : Nat → α) (p kn : Nat) : Nat → α := fun j => if j ≤ p then f j else if j ≤ kn then f (j - 1) else f j
def shf {α : Type} (f : Nat → α) (p kn : Nat) (x : α) : Nat → α := fun j => if j < p then f j else if j = p then x else if j ≤ kn then f (j - 1) else f j
theorem hol_0 {α : Type} (f : Nat → α) (kn : Nat) : hol f kn kn = f := by
  funext j
  unfold hol
  by_cases h : j ≤ kn
  · rw [if_pos h]
  · rw [if_neg h, if_neg h]
theorem hol_sL (f : Nat → Int64) {p kn : Nat} (h1 : 0 < p) (h2 : p ≤ kn) : vp_updL (hol f p kn) p (hol f p kn (p - 1)) = hol f (p - 1) kn := by
  funext j
  by_cases e : j = p
  · rw [e, pk_uLs]; unfold hol; rw [if_pos (by omega), if_neg (by omega), if_pos h2]
  · rw [pk_uLn e]; unfold hol
    by_cases h : j ≤ p - 1
    · rw [if_pos (by omega), if_pos h]
    · rw [if_neg (by omega), if_neg h]
theorem hol_s (f : Nat → Int32) {p kn : Nat} (h1 : 0 < p) (h2 : p ≤ kn) : upd (hol f p kn) p (hol f p kn (p - 1)) = hol f (p - 1) kn := by
  funext j
  by_cases e : j = p
  · rw [e, pk_us]; unfold hol; rw [if_pos (by omega), if_neg (by omega), if_pos h2]
  · rw [pk_un e]; unfold hol
    by_cases h : j ≤ p - 1
    · rw [if_pos (by omega), if_pos h]
    · rw [if_neg (by omega), if_neg h]
theorem hol_eL (f : Nat → Int64) (p kn : Nat) (x : Int64) : vp_updL (hol f p kn) p x = shf f p kn x := by
  funext j
  by_cases e : j = p
  · rw [e, pk_uLs]; unfold shf; rw [if_neg (Nat.lt_irrefl p), if_pos rfl]
  · rw [pk_uLn e]; unfold hol shf
    by_cases h : j < p
    · rw [if_pos (by omega), if_pos h]
    · rw [if_neg (by omega), if_neg h, if_neg e]
theorem hol_e (f : Nat → Int32) (p kn : Nat) (x : Int32) : upd (hol f p kn) p x = shf f p kn x := by
  funext j
  by_cases e : j = p
  · rw [e, pk_us]; unfold shf; rw [if_neg (Nat.lt_irrefl p), if_pos rfl]
  · rw [pk_un e]; unfold hol shf
    by_cases h : j < p
    · rw [if_pos (by omega), if_pos h]
    · rw [if_neg (by omega), if_neg h, if_neg e]
theorem i64_nlt {x y : Int64} : ¬ x ≤ y ↔ y < x := by rw [Int64.le_iff_toInt_le, Int64.lt_iff_toInt_lt]; omega
theorem ins_l {dz : Nat → Int64} {da db : Nat → Int32} {kn fi : Nat} {v : Int64} {pa pb : Int32} (n : Nat) : ∀ p, p < n → fi ≤ p → p ≤ kn → (∀ j, p ≤ j → j < kn → v < dz j) →
    ∃ q, fi ≤ q ∧ q ≤ kn ∧ (∀ j, q ≤ j → j < kn → v < dz j) ∧ (q ≤ fi ∨ dz (q - 1) ≤ v) ∧ FX9_insert_l6 kn fi v pa pb n p (hol dz p kn) (hol da p kn) (hol db p kn) = (shf dz q kn v, shf da q kn pa, shf db q kn pb, kn + 1) := by
  induction n with
  | zero => intro p h; omega
  | succ n ih =>
    intro p h1 h2 h3 h4
    rw [FX9_insert_l6]
    by_cases h5 : p ≤ fi
    · rw [if_pos h5, hol_eL, hol_e, hol_e]; exact ⟨p, h2, h3, h4, Or.inl h5, rfl⟩
    · rw [if_neg h5]
      have eh : hol dz p kn (p - 1) = dz (p - 1) := by unfold hol; rw [if_pos (by omega)]
      by_cases h6 : dz (p - 1) ≤ v
      · rw [if_pos (by rw [lgc_le, eh]; exact h6), hol_eL, hol_e, hol_e]; exact ⟨p, h2, h3, h4, Or.inr h6, rfl⟩
      · rw [if_neg (fun q => h6 (by rw [lgc_le, eh] at q; exact q)), hol_sL dz (by omega) h3, hol_s da (by omega) h3, hol_s db (by omega) h3]
        refine ih (p - 1) (by omega) (by omega) (by omega) (fun j a b => ?_)
        by_cases e : j = p - 1
        · rw [e]; exact i64_nlt.mp h6
        · exact h4 j (by omega) b
theorem ins_shape (dz : Nat → Int64) (da db : Nat → Int32) {kn fi : Nat} (v : Int64) (pa pb : Int32) (h : fi ≤ kn) : ∃ q, fi ≤ q ∧ q ≤ kn ∧ (∀ j, q ≤ j → j < kn → v < dz j) ∧ (q ≤ fi ∨ dz (q - 1) ≤ v) ∧ FX9_insert kn dz da db fi v pa pb = (shf dz q kn v, shf da q kn pa, shf db q kn pb, kn + 1) := by
  unfold FX9_insert
  have := ins_l (dz := dz) (da := da) (db := db) (kn := kn) (fi := fi) (v := v) (pa := pa) (pb := pb) (kn + 1) kn (by omega) h (Nat.le_refl kn) (fun j a b => by omega)
  rw [hol_0, hol_0, hol_0] at this
  exact this
/-- a stretch of doubles, in order, of these contents -/
def RG (dz : Nat → Int64) (da db : Nat → Int32) (fi kn : Nat) (S : Int64 → Int32 → Int32 → Prop) : Prop :=
  fi ≤ kn ∧ (∀ i j, fi ≤ i → i < j → j < kn → dz i < dz j) ∧ (∀ j, fi ≤ j → j < kn → S (dz j) (da j) (db j)) ∧ ∀ v pa pb, S v pa pb → ∃ j, fi ≤ j ∧ j < kn ∧ dz j = v ∧ da j = pa ∧ db j = pb
theorem i64_lt_of {a b c : Int64} (h1 : a ≤ b) (h2 : b < c) : a < c := by rw [Int64.lt_iff_toInt_lt] at *; rw [Int64.le_iff_toInt_le] at h1; omega
theorem i64_tr {a b c : Int64} (h1 : a < b) (h2 : b < c) : a < c := by rw [Int64.lt_iff_toInt_lt] at *; omega
theorem i64_ne {a b : Int64} (h : a < b) : ¬ a = b := fun e => by rw [e, Int64.lt_iff_toInt_lt] at h; omega
theorem RG.ins {dz : Nat → Int64} {da db : Nat → Int32} {fi kn : Nat} {S : Int64 → Int32 → Int32 → Prop} (h : RG dz da db fi kn S) {v : Int64} (pa pb : Int32) (hv : ∀ j, fi ≤ j → j < kn → ¬ dz j = v) :
    RG (FX9_insert kn dz da db fi v pa pb).1 (FX9_insert kn dz da db fi v pa pb).2.1 (FX9_insert kn dz da db fi v pa pb).2.2.1 fi (kn + 1) (fun x a b => S x a b ∨ (x = v ∧ a = pa ∧ b = pb)) ∧ (FX9_insert kn dz da db fi v pa pb).2.2.2 = kn + 1 ∧
    ∀ j, (j < fi ∨ kn < j) → (FX9_insert kn dz da db fi v pa pb).1 j = dz j ∧ (FX9_insert kn dz da db fi v pa pb).2.1 j = da j ∧ (FX9_insert kn dz da db fi v pa pb).2.2.1 j = db j := by
  obtain ⟨g1, g2, g3, g4⟩ := h
  obtain ⟨q, hq1, hq2, hq3, hq4, e⟩ := ins_shape dz da db v pa pb g1
  rw [e]
  have lo : ∀ j, fi ≤ j → j < q → dz j < v := by
    intro j a b
    rcases hq4 with h | h
    · omega
    · have h1 : dz j ≤ v := by
        by_cases e : j = q - 1
        · rw [e]; exact h
        · have := g2 j (q - 1) a (by omega) (by omega)
          rw [Int64.lt_iff_toInt_lt] at this; rw [Int64.le_iff_toInt_le] at h ⊢; omega
      have h2 := hv j a (by omega)
      rw [Int64.lt_iff_toInt_lt]; rw [Int64.le_iff_toInt_le] at h1
      have h3 : (dz j).toInt ≠ v.toInt := fun q => h2 (Int64.toInt_inj.mp q)
      omega
  have s1 : ∀ {α : Type} (f : Nat → α) (x : α) j, j < q → shf f q kn x j = f j := fun f x j h => by unfold shf; rw [if_pos h]
  have s2 : ∀ {α : Type} (f : Nat → α) (x : α), shf f q kn x q = x := fun f x => by unfold shf; rw [if_neg (Nat.lt_irrefl q), if_pos rfl]
  have s3 : ∀ {α : Type} (f : Nat → α) (x : α) j, q < j → j ≤ kn → shf f q kn x j = f (j - 1) := fun f x j h1 h2 => by unfold shf; rw [if_neg (by omega), if_neg (by omega), if_pos h2]
  have s4 : ∀ {α : Type} (f : Nat → α) (x : α) j, kn < j → shf f q kn x j = f j := fun f x j h1 => by unfold shf; rw [if_neg (by omega), if_neg (by omega), if_neg (by omega)]
  refine ⟨⟨by omega, fun i j a b d => ?_, fun j a b => ?_, fun x a b hx => ?_⟩, rfl, fun j hj => ?_⟩
  · show shf dz q kn v i < shf dz q kn v j
    rcases Nat.lt_trichotomy i q with hi | hi | hi
    · rw [s1 dz v i hi]
      rcases Nat.lt_trichotomy j q with hj | hj | hj
      · rw [s1 dz v j hj]; exact g2 i j a b (by omega)
      · rw [hj, s2]; exact lo i a hi
      · rw [s3 dz v j hj (by omega)]; exact i64_tr (lo i a hi) (hq3 (j - 1) (by omega) (by omega))
    · rw [hi, s2, s3 dz v j (by omega) (by omega)]; exact hq3 (j - 1) (by omega) (by omega)
    · rw [s3 dz v i hi (by omega), s3 dz v j (by omega) (by omega)]; exact g2 (i - 1) (j - 1) (by omega) (by omega) (by omega)
  · show S (shf dz q kn v j) (shf da q kn pa j) (shf db q kn pb j) ∨ _
    rcases Nat.lt_trichotomy j q with hj | hj | hj
    · rw [s1 dz v j hj, s1 da pa j hj, s1 db pb j hj]; exact Or.inl (g3 j a (by omega))
    · rw [hj]; exact Or.inr ⟨s2 dz v, s2 da pa, s2 db pb⟩
    · rw [s3 dz v j hj (by omega), s3 da pa j hj (by omega), s3 db pb j hj (by omega)]; exact Or.inl (g3 (j - 1) (by omega) (by omega))
  · rcases hx with hx | ⟨rfl, rfl, rfl⟩
    · obtain ⟨j, j1, j2, j3, j4, j5⟩ := g4 x a b hx
      by_cases hj : j < q
      · exact ⟨j, j1, by omega, (s1 dz v j hj).trans j3, (s1 da pa j hj).trans j4, (s1 db pb j hj).trans j5⟩
      · exact ⟨j + 1, by omega, by omega, (s3 dz v (j + 1) (by omega) (by omega)).trans j3, (s3 da pa (j + 1) (by omega) (by omega)).trans j4, (s3 db pb (j + 1) (by omega) (by omega)).trans j5⟩
    · exact ⟨q, hq1, by omega, s2 dz x, s2 da a, s2 db b⟩
  · show shf dz q kn v j = dz j ∧ shf da q kn pa j = da j ∧ shf db q kn pb j = db j
    rcases hj with hj | hj
    · exact ⟨s1 dz v j (by omega), s1 da pa j (by omega), s1 db pb j (by omega)⟩
    · exact ⟨s4 dz v j hj, s4 da pa j hj, s4 db pb j hj⟩
theorem RG.congr {dz : Nat → Int64} {da db : Nat → Int32} {fi kn : Nat} {S S2 : Int64 → Int32 → Int32 → Prop} (h : RG dz da db fi kn S) (e : ∀ v a b, S v a b ↔ S2 v a b) : RG dz da db fi kn S2 :=
  ⟨h.1, h.2.1, fun j a b => (e _ _ _).mp (h.2.2.1 j a b), fun v a b q => h.2.2.2 v a b ((e _ _ _).mpr q)⟩
theorem RG.le {dz ez : Nat → Int64} {da db ea eb : Nat → Int32} {fi n1 n2 : Nat} {S : Int64 → Int32 → Int32 → Prop} (h1 : RG dz da db fi n1 S) (h2 : RG ez ea eb fi n2 S) : ∀ j, fi ≤ j → j < n1 → j < n2 ∧ dz j = ez j := by
  obtain ⟨a1, a2, a3, a4⟩ := h1
  obtain ⟨b1, b2, b3, b4⟩ := h2
  intro j
  induction j using Nat.strongRecOn with
  | _ j ih =>
    intro hf hj
    obtain ⟨x, x1, x2, x3, -, -⟩ := b4 _ _ _ (a3 j hf hj)
    have hx : j ≤ x := by
      rcases Nat.lt_or_ge x j with h | h
      · have := ih x h x1 (by omega)
        exact absurd (this.2.trans x3) (i64_ne (a2 x j x1 h hj))
      · exact h
    have hj2 : j < n2 := by omega
    obtain ⟨y, y1, y2, y3, -, -⟩ := a4 _ _ _ (b3 j hf hj2)
    have hy : j ≤ y := by
      rcases Nat.lt_or_ge y j with h | h
      · have := ih y h y1 y2
        exact absurd (this.2.symm.trans y3) (i64_ne (b2 y j y1 h hj2))
      · exact h
    refine ⟨hj2, ?_⟩
    have l1 : (dz j).toInt ≤ (ez j).toInt := by
      rcases Nat.eq_or_lt_of_le hy with e | e
      · rw [← e] at y3; rw [y3]; exact Int.le_refl _
      · have := a2 j y hf e y2; rw [y3, Int64.lt_iff_toInt_lt] at this; omega
    have l2 : (ez j).toInt ≤ (dz j).toInt := by
      rcases Nat.eq_or_lt_of_le hx with e | e
      · rw [← e] at x3; rw [x3]; exact Int.le_refl _
      · have := b2 j x hf e x2; rw [x3, Int64.lt_iff_toInt_lt] at this; omega
    exact Int64.toInt_inj.mp (by omega)
theorem RG.uni {dz ez : Nat → Int64} {da db ea eb : Nat → Int32} {fi n1 n2 : Nat} {S : Int64 → Int32 → Int32 → Prop} (h1 : RG dz da db fi n1 S) (h2 : RG ez ea eb fi n2 S) (hf : ∀ v a b a2 b2, S v a b → S v a2 b2 → a = a2 ∧ b = b2) :
    n1 = n2 ∧ ∀ j, fi ≤ j → j < n1 → dz j = ez j ∧ da j = ea j ∧ db j = eb j := by
  have e1 := h1.le h2
  have e2 := h2.le h1
  have hn : n1 = n2 := by
    have a := h1.1
    have b := h2.1
    rcases Nat.lt_trichotomy n1 n2 with h | h | h
    · have := (e2 n1 a h).1; omega
    · exact h
    · have := (e1 n2 b h).1; omega
  refine ⟨hn, fun j a b => ?_⟩
  have e := (e1 j a b).2
  have q1 := h1.2.2.1 j a b
  have q2 := h2.2.2.1 j a (by omega)
  rw [e] at q1
  exact ⟨e, hf _ _ _ _ _ q1 q2⟩
/-- the pairs: a serial that counts in both sets -/
def SP (ys : Nat → Int64) (rco ms yp : Nat → Int32) (yn : Nat) (sa sb : Int32) (x y : Nat) (v : Int64) (pa pb : Int32) : Prop :=
  ∃ i j, i < x ∧ j < y ∧ i < yn ∧ j < yn ∧ QP ys rco ms yp v sa i ∧ QP ys rco ms yp v sb j ∧ pa = yp i ∧ pb = yp j
theorem SP_fun {ys : Nat → Int64} {rco ms yp : Nat → Int32} {yn : Nat} {sa sb : Int32} (hQ : RQ ys rco ms yp yn) {x y : Nat} : ∀ v a b a2 b2, SP ys rco ms yp yn sa sb x y v a b → SP ys rco ms yp yn sa sb x y v a2 b2 → a = a2 ∧ b = b2 := by
  rintro v a b a2 b2 ⟨i, j, -, -, hi, hj, q1, q2, rfl, rfl⟩ ⟨i2, j2, -, -, hi2, hj2, p1, p2, rfl, rfl⟩
  rw [hQ i i2 hi hi2 q1.1 p1.1 (q1.2.1.trans p1.2.1.symm) (q1.2.2.trans p1.2.2.symm), hQ j j2 hj hj2 q2.1 p2.1 (q2.2.1.trans p2.2.1.symm) (q2.2.2.trans p2.2.2.symm)]
  exact ⟨rfl, rfl⟩
/-- the reference's first loop -/
theorem l50_RG {ys : Nat → Int64} {rco ms yp : Nat → Int32} {yn rkn : Nat} {ka kb : Int32} {dz : Nat → Int64} {da db : Nat → Int32} (hyn : yn ≤ 200) (hQ : RQ ys rco ms yp yn) (n : Nat) : ∀ (k : Nat) (x : Nat → Int64) (y z : Nat → Int32) (kx : Nat), k + n = yn + 1 → k ≤ yn →
    RG x y z rkn kx (SP ys rco ms yp yn (ms ka.toNatClampNeg) (ms kb.toNatClampNeg) k yn) → (∀ j, (j < rkn ∨ kx ≤ j) → x j = dz j ∧ y j = da j ∧ z j = db j) →
    RG (FX9_join_l50 yn rkn ms ys yp rco ka kb n k x y z kx).2.1 (FX9_join_l50 yn rkn ms ys yp rco ka kb n k x y z kx).2.2.1 (FX9_join_l50 yn rkn ms ys yp rco ka kb n k x y z kx).2.2.2.1 rkn (FX9_join_l50 yn rkn ms ys yp rco ka kb n k x y z kx).2.2.2.2 (SP ys rco ms yp yn (ms ka.toNatClampNeg) (ms kb.toNatClampNeg) yn yn) ∧
    ∀ j, (j < rkn ∨ (FX9_join_l50 yn rkn ms ys yp rco ka kb n k x y z kx).2.2.2.2 ≤ j) → (FX9_join_l50 yn rkn ms ys yp rco ka kb n k x y z kx).2.1 j = dz j ∧ (FX9_join_l50 yn rkn ms ys yp rco ka kb n k x y z kx).2.2.1 j = da j ∧ (FX9_join_l50 yn rkn ms ys yp rco ka kb n k x y z kx).2.2.2.1 j = db j := by
  induction n with
  | zero => intro k x y z kx h1 h2; omega
  | succ n ih =>
    intro k x y z kx h1 h2 hR ho
    rw [FX9_join_l50]
    by_cases h3 : yn ≤ k
    · have : k = yn := by omega
      subst this
      rw [if_pos h3]; exact ⟨hR, ho⟩
    · rw [if_neg h3]
      have skip : (∀ v pb, ¬ (QP ys rco ms yp v (ms ka.toNatClampNeg) k ∧ ∃ j, j < yn ∧ QP ys rco ms yp v (ms kb.toNatClampNeg) j ∧ pb = yp j)) → RG x y z rkn kx (SP ys rco ms yp yn (ms ka.toNatClampNeg) (ms kb.toNatClampNeg) (k + 1) yn) := by
        intro hno
        refine hR.congr (fun v a b => ⟨fun ⟨i, j, i1, j1, r⟩ => ⟨i, j, by omega, j1, r⟩, fun ⟨i, j, i1, j1, i2, j2, q1, q2, e1, e2⟩ => ?_⟩)
        by_cases e : i = k
        · subst e; exact absurd ⟨q1, j, j2, q2, e2⟩ (hno v b)
        · exact ⟨i, j, by omega, j1, i2, j2, q1, q2, e1, e2⟩
      by_cases h4 : rco k = 0
      · rw [if_pos h4]; exact ih (k + 1) x y z kx (by omega) (by omega) (skip (fun v pb q => q.1.1 h4)) ho
      · rw [if_neg h4]
        by_cases h5 : ms (yp k).toNatClampNeg = ms ka.toNatClampNeg
        · rw [if_pos h5]
          rcases pay_or yn ms ys yp rco (ys k) (ms kb.toNatClampNeg) with ⟨e, hno⟩ | ⟨j, hj, e, hq⟩
          · rw [e, if_pos (by decide)]
            exact ih (k + 1) x y z kx (by omega) (by omega) (skip (fun v pb ⟨q1, j, j1, q2, _⟩ => hno j j1 ⟨q2.1, q2.2.1.trans q1.2.1.symm, q2.2.2⟩)) ho
          · rw [e, if_neg (nI_pos (by omega)), nI_clamp (by omega)]
            have hnew : ∀ i, rkn ≤ i → i < kx → ¬ x i = ys k := by
              intro i i1 i2 q
              obtain ⟨i3, j3, a1, a2, a3, a4, b1, b2, -, -⟩ := hR.2.2.1 i i1 i2
              rw [q] at b1
              have := hQ i3 k a3 (by omega) b1.1 h4 b1.2.1 (b1.2.2.trans h5.symm)
              omega
            obtain ⟨r1, r2, r3⟩ := hR.ins (yp k) (yp j) hnew
            rw [r2]
            refine ih (k + 1) _ _ _ _ (by omega) (by omega) (r1.congr (fun v a b => ⟨fun q => ?_, fun ⟨i3, j3, a1, a2, a3, a4, b1, b2, d1, d2⟩ => ?_⟩)) (fun i hi => ?_)
            · rcases q with ⟨i3, j3, a1, a2, r⟩ | ⟨rfl, rfl, rfl⟩
              · exact ⟨i3, j3, by omega, a2, r⟩
              · exact ⟨k, j, by omega, hj, by omega, hj, ⟨h4, rfl, h5⟩, hq, rfl, rfl⟩
            · by_cases e3 : i3 = k
              · subst e3
                refine Or.inr ⟨b1.2.1.symm, d1, ?_⟩
                rw [d2, hQ j3 j a4 hj b2.1 hq.1 (b2.2.1.trans (b1.2.1.symm.trans hq.2.1.symm)) (b2.2.2.trans hq.2.2.symm)]
              · exact Or.inl ⟨i3, j3, by omega, a2, a3, a4, b1, b2, d1, d2⟩
            · obtain ⟨o1, o2, o3⟩ := r3 i (by rcases hi with h | h; exact Or.inl h; exact Or.inr (by omega))
              obtain ⟨p1, p2, p3⟩ := ho i (by rcases hi with h | h; exact Or.inl h; exact Or.inr (by omega))
              exact ⟨o1.trans p1, o2.trans p2, o3.trans p3⟩
        · rw [if_neg h5]; exact ih (k + 1) x y z kx (by omega) (by omega) (skip (fun v pb q => h5 q.1.2.2)) ho

/-- how many left their set -/
def cM (yt : Nat → Int32) : Nat → Nat
  | 0 => 0
  | n + 1 => cM yt n + (if yt n = -1 then 1 else 0)
theorem cM_congr {f g : Nat → Int32} {n : Nat} (h : ∀ j, j < n → f j = g j) : cM f n = cM g n := by
  induction n with
  | zero => rfl
  | succ n ih => rw [cM, cM, ih (fun j hj => h j (by omega)), h n (by omega)]
theorem cM_le (f : Nat → Int32) (n : Nat) : cM f n ≤ n := by
  induction n with
  | zero => exact Nat.le_refl 0
  | succ n ih => rw [cM]; split <;> omega
theorem cM_upd {f : Nat → Int32} {j : Nat} (h : ¬ f j = -1) (n : Nat) (hj : j < n) : cM (upd f j (-1)) n = cM f n + 1 := by
  induction n with
  | zero => omega
  | succ n ih =>
    rw [cM, cM]
    by_cases e : j = n
    · subst e
      rw [pk_us, if_pos rfl, if_neg h, cM_congr (g := f) (fun i hi => pk_un (by omega))]
    · rw [pk_un (fun q => e q.symm), ih (by omega)]; omega
theorem cM_lt {f : Nat → Int32} {j : Nat} (h : ¬ f j = -1) (n : Nat) (hj : j < n) : cM f n < n := by
  have := cM_upd h n hj
  have := cM_le (upd f j (-1)) n
  omega
theorem cN_upd {f : Nat → Int32} {j : Nat} (h : ¬ f j = 0) (n : Nat) (hj : j < n) : cN (upd f j 0) n = cN f n + 1 := by
  induction n with
  | zero => omega
  | succ n ih =>
    rw [cN, cN]
    by_cases e : j = n
    · subst e
      rw [pk_us, if_pos rfl, if_neg h, cN_congr (g := f) (fun i hi => pk_un (by omega))]
    · rw [pk_un (fun q => e q.symm), ih (by omega)]; omega
theorem ixN {k n : Nat} (h : k < n) (hn : n < 2 ^ 31) : ¬ FX8_isIndex (nI k) (nI n) = 0 := fun q => (isIx0.mp q).elim (nI_pos (by omega)) (fun q => by have := (nI_leI (by omega) (by omega)).mp q; omega)
/-- the class's loop -/
theorem l11_RG {ys : Nat → Int64} {rco ms yp yt : Nat → Int32} {yn dn : Nat} {sa sb : Int32} {dz : Nat → Int64} {da db : Nat → Int32} (hyn : yn ≤ 200) (hT : RT yt rco ms yp yn) (hQ : RQ ys rco ms yp yn) (ha : ¬ sa = -1) (hb : ¬ sb = -1) (hab : ¬ sa = sb) (n : Nat) :
    ∀ (k : Nat) (tx : Nat → Int32) (x : Nat → Int64) (y z : Nat → Int32) (dx : Nat), k + n = yn + 1 → k ≤ yn → dx = cM tx yn →
    (∀ j, (yt j = tx j ∧ (j < k → yt j = sb → ∀ i, i < yn → ¬ QP ys rco ms yp (ys j) sa i)) ∨ (j < k ∧ yt j = sb ∧ tx j = -1 ∧ ∃ i, i < yn ∧ QP ys rco ms yp (ys j) sa i)) →
    RG x y z dn dx (SP ys rco ms yp yn sa sb yn k) → (∀ j, (j < dn ∨ dx ≤ j) → x j = dz j ∧ y j = da j ∧ z j = db j) →
    ∃ (tx2 : Nat → Int32) (x2 : Nat → Int64) (y2 z2 : Nat → Int32) (d2 : Nat), FX8_tellDoubles_l11 ys yp yn dn sa sb n k tx x y z dx = (nI d2 - nI dn, tx2, x2, y2, z2, d2) ∧ d2 = cM tx2 yn ∧
      (∀ j, (yt j = tx2 j ∧ (j < yn → yt j = sb → ∀ i, i < yn → ¬ QP ys rco ms yp (ys j) sa i)) ∨ (j < yn ∧ yt j = sb ∧ tx2 j = -1 ∧ ∃ i, i < yn ∧ QP ys rco ms yp (ys j) sa i)) ∧
      RG x2 y2 z2 dn d2 (SP ys rco ms yp yn sa sb yn yn) ∧ ∀ j, (j < dn ∨ d2 ≤ j) → x2 j = dz j ∧ y2 j = da j ∧ z2 j = db j := by
  induction n with
  | zero => intro k tx x y z dx h1 h2; omega
  | succ n ih =>
    intro k tx x y z dx h1 h2 hd htx hR ho
    rw [FX8_tellDoubles_l11]
    by_cases h3 : yn ≤ k
    · have : k = yn := by omega
      subst this
      rw [if_pos h3]; exact ⟨tx, x, y, z, dx, rfl, hd, htx, hR, ho⟩
    · rw [if_neg h3]
      have hix := ixN (k := k) (n := yn) (by omega) (by omega)
      have ek : (nI k).toNatClampNeg = k := nI_clamp (by omega)
      have htk : tx k = yt k := by
        rcases htx k with h | h
        · exact h.1.symm
        · omega
      have hser : FX6_serialOf ys yn (nI k) = ys k := by unfold FX6_serialOf; rw [if_neg hix, ek]
      have hpk : FX6_payerOf yp yn (nI k) = yp k := by unfold FX6_payerOf; rw [if_neg hix, ek]
      have hof : FX6_isOf tx yn (nI k) sb = if yt k = sb then 1 else 0 := by unfold FX6_isOf; rw [if_neg hix, ek, htk]
      rw [hof, hser, hpk]
      -- nothing at k
      have skip : (yt k = sb → ∀ i, i < yn → ¬ QP ys rco ms yp (ys k) sa i) → ∃ (tx2 : Nat → Int32) (x2 : Nat → Int64) (y2 z2 : Nat → Int32) (d2 : Nat), FX8_tellDoubles_l11 ys yp yn dn sa sb n (k + 1) tx x y z dx = (nI d2 - nI dn, tx2, x2, y2, z2, d2) ∧ d2 = cM tx2 yn ∧
          (∀ j, (yt j = tx2 j ∧ (j < yn → yt j = sb → ∀ i, i < yn → ¬ QP ys rco ms yp (ys j) sa i)) ∨ (j < yn ∧ yt j = sb ∧ tx2 j = -1 ∧ ∃ i, i < yn ∧ QP ys rco ms yp (ys j) sa i)) ∧
          RG x2 y2 z2 dn d2 (SP ys rco ms yp yn sa sb yn yn) ∧ ∀ j, (j < dn ∨ d2 ≤ j) → x2 j = dz j ∧ y2 j = da j ∧ z2 j = db j := by
        intro hno
        refine ih (k + 1) tx x y z dx (by omega) (by omega) hd (fun j => ?_) (hR.congr (fun v a b => ⟨fun ⟨i, j, i1, j1, r⟩ => ⟨i, j, i1, by omega, r⟩, fun ⟨i, j, i1, j1, i2, j2, q1, q2, e1, e2⟩ => ?_⟩)) ho
        · rcases htx j with h | h
          · refine Or.inl ⟨h.1, fun q => ?_⟩
            by_cases e : j = k
            · rw [e]; exact hno
            · exact h.2 (by omega)
          · exact Or.inr ⟨by omega, h.2⟩
        · by_cases e : j = k
          · subst e
            have := hno ((yt_iff hT hb j2).mpr ⟨q2.1, q2.2.2⟩) i i2 ⟨q1.1, q1.2.1.trans q2.2.1.symm, q1.2.2⟩
            exact absurd this id
          · exact ⟨i, j, i1, by omega, i2, j2, q1, q2, e1, e2⟩
      by_cases h4 : yt k = sb
      · rw [if_pos h4, if_neg (show ¬ (1 : Int32) = 0 by decide)]
        have hqk := (yt_iff hT hb (show k < yn by omega)).mp h4
        rcases find_or ys tx yn (ys k) sa with ⟨e, hno⟩ | ⟨i, hi, e, e1, e2⟩
        · rw [e, if_pos rfl]
          refine skip (fun _ i hi q => hno i hi ⟨q.2.1, ?_⟩)
          have hyt := (yt_iff hT ha hi).mpr ⟨q.1, q.2.2⟩
          rcases htx i with h | h
          · rw [← h.1]; exact hyt
          · exact absurd (hyt.symm.trans h.2.1) hab
        · rw [e, if_neg (nI_m1 (by omega))]
          have hyt : yt i = sa := by
            rcases htx i with h | h
            · rw [h.1]; exact e2
            · exact absurd (e2.symm.trans h.2.2.1) ha
          have hqi := (yt_iff hT ha hi).mp hyt
          have hpi : FX6_payerOf yp yn (nI i) = yp i := by unfold FX6_payerOf; rw [if_neg (ixN hi (by omega)), nI_clamp (by omega)]
          have hle : FX6_leaveSet tx yn (nI k) = upd tx k (-1) := by unfold FX6_leaveSet; rw [if_neg hix, ek]
          have hm1 : ¬ tx k = -1 := by rw [htk, h4]; exact hb
          have hdx : dx < 200 := by have := cM_lt hm1 yn (by omega); omega
          have hnew : ∀ q, dn ≤ q → q < dx → ¬ x q = ys k := by
            intro q q1 q2 q3
            obtain ⟨i3, j3, a1, a2, a3, a4, b1, b2, -, -⟩ := hR.2.2.1 q q1 q2
            rw [q3] at b2
            have := hQ j3 k a4 (by omega) b2.1 hqk.1 b2.2.1 (b2.2.2.trans hqk.2.symm)
            omega
          rw [hpi, hle, ins_eq hdx]
          obtain ⟨r1, r2, r3⟩ := hR.ins (yp i) (yp k) hnew
          rw [r2]
          refine ih (k + 1) _ _ _ _ _ (by omega) (by omega) (by rw [cM_upd hm1 yn (by omega), hd]) (fun j => ?_) (r1.congr (fun v a b => ⟨fun q => ?_, fun ⟨i3, j3, a1, a2, a3, a4, b1, b2, d1, d2⟩ => ?_⟩)) (fun j hj => ?_)
          · by_cases ej : j = k
            · rw [ej, pk_us]; exact Or.inr ⟨by omega, h4, rfl, i, hi, hqi.1, e1, hqi.2⟩
            · rw [pk_un ej]
              rcases htx j with h | h
              · exact Or.inl ⟨h.1, fun q => h.2 (by omega)⟩
              · exact Or.inr ⟨by omega, h.2⟩
          · rcases q with ⟨i3, j3, a1, a2, r⟩ | ⟨rfl, rfl, rfl⟩
            · exact ⟨i3, j3, a1, by omega, r⟩
            · exact ⟨i, k, hi, by omega, hi, by omega, ⟨hqi.1, e1, hqi.2⟩, ⟨hqk.1, rfl, hqk.2⟩, rfl, rfl⟩
          · by_cases e3 : j3 = k
            · subst e3
              refine Or.inr ⟨b2.2.1.symm, ?_, d2⟩
              rw [d1, hQ i3 i a3 hi b1.1 hqi.1 (b1.2.1.trans (b2.2.1.symm.trans e1.symm)) (b1.2.2.trans hqi.2.symm)]
            · exact Or.inl ⟨i3, j3, a1, by omega, a3, a4, b1, b2, d1, d2⟩
          · obtain ⟨o1, o2, o3⟩ := r3 j (by rcases hj with h | h; exact Or.inl h; exact Or.inr (by omega))
            obtain ⟨p1, p2, p3⟩ := ho j (by rcases hj with h | h; exact Or.inl h; exact Or.inr (by omega))
            exact ⟨o1.trans p1, o2.trans p2, o3.trans p3⟩
      · rw [if_neg h4, if_pos rfl]; exact skip (fun q => absurd q h4)
/-- the reference's second loop: safe, and what it leaves -/
theorem l146_co {ys : Nat → Int64} {rco ms yp : Nat → Int32} {yn mn rkn : Nat} {ka kb : Int32} {dz : Nat → Int64} {da db : Nat → Int32} {ky : Nat} (hyn : yn ≤ 200) (hky : ky ≤ 400) (hQ : RQ ys rco ms yp yn) (hR : RG dz da db rkn ky (SP ys rco ms yp yn (ms ka.toNatClampNeg) (ms kb.toNatClampNeg) yn yn)) (n : Nat) :
    ∀ (k : Nat) (co : Nat → Int32), ky < k + n → rkn ≤ k → k ≤ ky → cN co yn = cN rco yn + (k - rkn) → (∀ j, co j = 0 ↔ (rco j = 0 ∨ (j < yn ∧ ms (yp j).toNatClampNeg = ms kb.toNatClampNeg ∧ ∃ i, rkn ≤ i ∧ i < k ∧ dz i = ys j))) →
    SJ yn ms ys yp (ms kb.toNatClampNeg) n k co dz ky ∧ ∃ co2 : Nat → Int32, FX9_join_l146 mn yn rkn ms ys yp ka kb n k co dz da db ky = FX9_join_l183 mn rkn ms ka kb (mn + 1) 0 ms co2 dz da db ky ∧ cN co2 yn = cN rco yn + (ky - rkn) ∧
      ∀ j, co2 j = 0 ↔ (rco j = 0 ∨ (j < yn ∧ ms (yp j).toNatClampNeg = ms kb.toNatClampNeg ∧ ∃ i, rkn ≤ i ∧ i < ky ∧ dz i = ys j)) := by
  induction n with
  | zero => intro k co h1 h2 h3; omega
  | succ n ih =>
    intro k co h1 h2 h3 hc hco
    rw [FX9_join_l146, SJ]
    by_cases h4 : ky ≤ k
    · have : k = ky := by omega
      subst this
      rw [if_pos h4]; exact ⟨Or.inl h4, co, rfl, hc, hco⟩
    · rw [if_neg h4]
      obtain ⟨i, j, -, -, hi, hj, q1, q2, -, -⟩ := hR.2.2.1 k h2 (by omega)
      have hcoj : ¬ co j = 0 := by
        intro q
        rcases (hco j).mp q with h | ⟨-, -, z, z1, z2, z3⟩
        · exact q2.1 h
        · exact absurd (z3.trans q2.2.1) (i64_ne (hR.2.1 z k z1 z2 (by omega)))
      have hpay : FX9_payingOf yn ms ys yp co (dz k) (ms kb.toNatClampNeg) = nI j := by
        rcases pay_or yn ms ys yp co (dz k) (ms kb.toNatClampNeg) with ⟨-, hno⟩ | ⟨j2, hj2, e, q3⟩
        · exact absurd ⟨hcoj, q2.2⟩ (hno j hj)
        · have : ¬ rco j2 = 0 := fun q => q3.1 ((hco j2).mpr (Or.inl q))
          rw [e, hQ j2 j hj2 hj this q2.1 (q3.2.1.trans q2.2.1.symm) (q3.2.2.trans q2.2.2.symm)]
      rw [hpay, nI_clamp (by omega), show vp_nar .boolean 0 = 0 from rfl]
      have hnext : ∀ x, upd co j 0 x = 0 ↔ (rco x = 0 ∨ (x < yn ∧ ms (yp x).toNatClampNeg = ms kb.toNatClampNeg ∧ ∃ i, rkn ≤ i ∧ i < k + 1 ∧ dz i = ys x)) := by
        intro x
        by_cases e : x = j
        · rw [e, pk_us]; exact ⟨fun _ => Or.inr ⟨hj, q2.2.2, k, h2, by omega, q2.2.1.symm⟩, fun _ => rfl⟩
        · rw [pk_un e, hco x]
          refine ⟨fun h => h.imp id (fun ⟨z0, z, z1, z2, z3, z4⟩ => ⟨z0, z, z1, z2, by omega, z4⟩), fun h => ?_⟩
          rcases h with h | ⟨z0, z, z1, z2, z3, z4⟩
          · exact Or.inl h
          · by_cases e2 : z1 = k
            · by_cases e3 : rco x = 0
              · exact Or.inl e3
              · subst e2
                exact absurd (hQ x j z0 hj e3 q2.1 (z4.symm.trans q2.2.1.symm) (z.trans q2.2.2.symm)) e
            · exact Or.inr ⟨z0, z, z1, z2, by omega, z4⟩
      obtain ⟨s1, s2⟩ := ih (k + 1) (upd co j 0) (by omega) (by omega) (by omega) (by rw [cN_upd hcoj yn hj, hc]; omega) hnext
      exact ⟨Or.inr ⟨vp_in_nI (by omega) (by decide), s1⟩, s2⟩
theorem upd_id (f : Nat → Int32) (k : Nat) : upd f k (f k) = f := by
  funext j
  by_cases e : j = k
  · rw [e, pk_us]
  · rw [pk_un e]
theorem l183_eq {mn rkn : Nat} {ms : Nat → Int32} {ka kb : Int32} (n : Nat) : ∀ (k : Nat) (sx co : Nat → Int32) (dz : Nat → Int64) (da db : Nat → Int32) (kz : Nat), k + n = mn + 1 → FX9_join_l183 mn rkn ms ka kb n k sx co dz da db kz = (if n = 0 then FX9_join_l183 mn rkn ms ka kb n k sx co dz da db kz else (nI kz - nI rkn, 0, FX4_moveSet_l2 mn (ms kb.toNatClampNeg) (ms ka.toNatClampNeg) n k sx, co, dz, da, db, kz)) := by
  induction n with
  | zero => intro k sx co dz da db kz h; rw [if_pos rfl]
  | succ n ih =>
    intro k sx co dz da db kz h
    rw [if_neg (by omega), FX9_join_l183, FX4_moveSet_l2, mach_eq]
    by_cases h1 : mn ≤ k
    · rw [if_pos h1, if_pos h1]
    · rw [if_neg h1, if_neg h1, upd_id]
      split
      · rw [ih _ _ _ _ _ _ _ (by omega), if_neg (by omega)]
      · rw [ih _ _ _ _ _ _ _ (by omega), if_neg (by omega)]
theorem mv_at {mn : Nat} {fr to : Int32} (hne : ¬ to = fr) (n : Nat) : ∀ (k : Nat) (f : Nat → Int32), k + n = mn + 1 → k ≤ mn → ∀ j, FX4_moveSet_l2 mn fr to n k f j = if k ≤ j ∧ j < mn ∧ f j = fr then to else f j := by
  induction n with
  | zero => intro k f h1 h2; omega
  | succ n ih =>
    intro k f h1 h2 j
    rw [FX4_moveSet_l2]
    by_cases h3 : mn ≤ k
    · rw [if_pos h3, if_neg (by omega)]
    · rw [if_neg h3]
      by_cases h4 : f k = fr
      · rw [if_pos h4, ih (k + 1) _ (by omega) (by omega) j]
        by_cases e : j = k
        · subst e; rw [pk_us, if_neg (by omega), if_pos ⟨Nat.le_refl j, by omega, h4⟩]
        · rw [pk_un e]
          by_cases hc : k + 1 ≤ j ∧ j < mn ∧ f j = fr
          · rw [if_pos hc, if_pos ⟨by omega, hc.2⟩]
          · rw [if_neg hc, if_neg (fun q => hc ⟨by omega, q.2⟩)]
      · rw [if_neg h4, ih (k + 1) _ (by omega) (by omega) j]
        by_cases hc : k + 1 ≤ j ∧ j < mn ∧ f j = fr
        · rw [if_pos hc, if_pos ⟨by omega, hc.2⟩]
        · rw [if_neg hc, if_neg (fun q => hc ⟨by have : j ≠ k := fun e => h4 (by rw [← e]; exact q.2.2); omega, q.2⟩)]
theorem mvY_at {yn : Nat} {fr to : Int32} (n : Nat) : ∀ (k : Nat) (f : Nat → Int32), FX6_moveSet_l2 yn fr to n k f = FX4_moveSet_l2 yn fr to n k f := by
  induction n with
  | zero => intro k f; rfl
  | succ n ih =>
    intro k f
    rw [FX6_moveSet_l2, FX4_moveSet_l2]
    repeat' split
    all_goals first | rfl | exact ih _ _

theorem setOf_eq {ms : Nat → Int32} {mn : Nat} {k : Int32} (h : ¬ FX4_exists mn k = 0) : FX4_setOf ms mn k = ms k.toNatClampNeg := by unfold FX4_setOf; rw [if_neg h]
theorem RT_cM {yt rco ms yp : Nat → Int32} {ys : Nat → Int64} {rmt : Nat → Int64} {ym : Nat → Int32} {yn mn : Nat} (hT : RT yt rco ms yp yn) (hM : RM ms mn) (hmn : mn ≤ 6) (hY : PY ys rmt yp ym yn mn) : ∀ n, n ≤ yn → cM yt n = cN rco n := by
  intro n
  induction n with
  | zero => intro _; rfl
  | succ n ih =>
    intro h
    rw [cM, cN, ih (by omega), hT n (by omega)]
    by_cases h0 : rco n = 0
    · rw [if_pos h0, if_pos rfl, if_pos h0]
    · rw [if_neg h0]
      obtain ⟨⟨i, hi, ei⟩, -⟩ := hY.1 n (by omega)
      obtain ⟨si, hsi, es⟩ := hM i hi
      rw [ei, nI_clamp (by omega), es, if_neg (nI_m1 (by omega)), if_neg h0]
theorem l50_start {ys : Nat → Int64} {rco ms yp : Nat → Int32} {yn : Nat} {sa sb : Int32} {dz : Nat → Int64} {da db : Nat → Int32} {dn : Nat} : RG dz da db dn dn (SP ys rco ms yp yn sa sb 0 yn) := ⟨Nat.le_refl dn, fun i j a b d => by omega, fun j a b => by omega, fun v a b ⟨i, j, h, _⟩ => by omega⟩
theorem l11_start {ys : Nat → Int64} {rco ms yp : Nat → Int32} {yn : Nat} {sa sb : Int32} {dz : Nat → Int64} {da db : Nat → Int32} {dn : Nat} : RG dz da db dn dn (SP ys rco ms yp yn sa sb yn 0) := ⟨Nat.le_refl dn, fun i j a b d => by omega, fun j a b => by omega, fun v a b ⟨i, j, _, h, _⟩ => by omega⟩
theorem join_SJ {ys : Nat → Int64} {rco ms yp : Nat → Int32} {yn dn : Nat} {ka kb : Int32} {dz : Nat → Int64} {da db : Nat → Int32} (hyn : yn ≤ 200) (hdn : dn ≤ 200) (hQ : RQ ys rco ms yp yn) :
    SJ yn ms ys yp (ms kb.toNatClampNeg) 601 dn rco (FX9_join_l50 yn dn ms ys yp rco ka kb (yn + 1) 0 dz da db dn).2.1 (FX9_join_l50 yn dn ms ys yp rco ka kb (yn + 1) 0 dz da db dn).2.2.2.2 := by
  obtain ⟨r1, -⟩ := l50_RG (ka := ka) (kb := kb) (rkn := dn) (dz := dz) (da := da) (db := db) hyn hQ (yn + 1) 0 dz da db dn (by omega) (by omega) l50_start (fun j _ => ⟨rfl, rfl, rfl⟩)
  have hle := FX9_join_l50_le yn dn ms ys yp rco ka kb (yn + 1) 0 dz da db dn (by omega) (by omega) (by omega)
  exact (l146_co (mn := 0) hyn (by omega) hQ r1 601 dn rco (by omega) (Nat.le_refl dn) r1.1 (by omega) (fun j => ⟨Or.inl, fun h => h.elim id (fun ⟨_, _, i, h1, h2, _⟩ => by omega)⟩)).1
theorem join_eq {ms : Nat → Int32} {mn : Nat} {ys rmt : Nat → Int64} {yp yt ym rco : Nat → Int32} {yn : Nat} {dz : Nat → Int64} {da db : Nat → Int32} {dn : Nat} {ka kb : Int32} (hmn : mn ≤ 6) (hyn : yn ≤ 200) (hM : RM ms mn) (hY : PY ys rmt yp ym yn mn) (hT : RT yt rco ms yp yn) (hQ : RQ ys rco ms yp yn) (hN : dn = cN rco yn) (hz : ∀ j, j < dn → ∃ x : Nat, x < 10 ^ 18 ∧ dz j = lN x) :
    ∃ (r : Int32) (ms2 yt2 : Nat → Int32) (dz2 : Nat → Int64) (da2 db2 : Nat → Int32) (dn2 : Nat) (rco2 : Nat → Int32), FX8_join ms mn ys yp yt yn dz da db dn ka kb = (r, ms2, yt2, dz2, da2, db2, dn2) ∧ FX9_join mn yn dn ms ys yp rco dz da db ka kb = (r, 0, ms2, rco2, dz2, da2, db2, dn2) ∧
      RM ms2 mn ∧ RT yt2 rco2 ms2 yp yn ∧ RQ ys rco2 ms2 yp yn ∧ dn2 = cN rco2 yn ∧ ∀ j, j < dn2 → ∃ x : Nat, x < 10 ^ 18 ∧ dz2 j = lN x := by
  have hdn : dn ≤ 200 := by have := cN_le rco yn; omega
  unfold FX8_join FX9_join
  rw [mach_eq, mach_eq]
  by_cases h1 : FX4_exists mn ka = 0
  · rw [if_pos h1, if_pos h1]; exact ⟨_, _, _, _, _, _, _, _, rfl, rfl, hM, hT, hQ, hN, hz⟩
  · rw [if_neg h1, if_neg h1]
    by_cases h2 : FX4_exists mn kb = 0
    · rw [if_pos h2, if_pos h2]; exact ⟨_, _, _, _, _, _, _, _, rfl, rfl, hM, hT, hQ, hN, hz⟩
    · rw [if_neg h2, if_neg h2, setOf_eq h1, setOf_eq h2]
      by_cases h3 : ms ka.toNatClampNeg = ms kb.toNatClampNeg
      · rw [if_pos h3, if_pos h3]; exact ⟨_, _, _, _, _, _, _, _, rfl, rfl, hM, hT, hQ, hN, hz⟩
      · rw [if_neg h3, if_neg h3]
        obtain ⟨ia, hia, eka⟩ := isIx_lt (n := mn) h1 (by omega)
        obtain ⟨ib, hib, ekb⟩ := isIx_lt (n := mn) h2 (by omega)
        have eca : ka.toNatClampNeg = ia := by rw [eka, nI_clamp (by omega)]
        have ecb : kb.toNatClampNeg = ib := by rw [ekb, nI_clamp (by omega)]
        obtain ⟨sa, hsa, esa⟩ := hM ia hia
        obtain ⟨sb, hsb, esb⟩ := hM ib hib
        have ha1 : ¬ ms ka.toNatClampNeg = -1 := by rw [eca, esa]; exact nI_m1 (by omega)
        have hb1 : ¬ ms kb.toNatClampNeg = -1 := by rw [ecb, esb]; exact nI_m1 (by omega)
        obtain ⟨r1, r2⟩ := l50_RG (ka := ka) (kb := kb) (rkn := dn) (dz := dz) (da := da) (db := db) hyn hQ (yn + 1) 0 dz da db dn (by omega) (by omega) l50_start (fun j _ => ⟨rfl, rfl, rfl⟩)
        have hle := FX9_join_l50_le yn dn ms ys yp rco ka kb (yn + 1) 0 dz da db dn (by omega) (by omega) (by omega)
        obtain ⟨t2, x2, y2, z2, d2, e8, hd2, ht2, q1, q2⟩ := l11_RG (sa := ms ka.toNatClampNeg) (sb := ms kb.toNatClampNeg) (dn := dn) (dz := dz) (da := da) (db := db) hyn hT hQ ha1 hb1 h3 (yn + 1) 0 yt dz da db dn (by omega) (by omega) (by rw [hN, RT_cM hT hM hmn hY yn (Nat.le_refl yn)]) (fun j => Or.inl ⟨rfl, fun h => by omega⟩) l11_start (fun j _ => ⟨rfl, rfl, rfl⟩)
        generalize FX9_join_l50 yn dn ms ys yp rco ka kb (yn + 1) 0 dz da db dn = G at r1 r2 hle ⊢
        obtain ⟨u1, u2⟩ := q1.uni r1 (SP_fun hQ)
        have ez : x2 = G.2.1 := by
          funext j
          by_cases hj : j < dn ∨ d2 ≤ j
          · rw [(q2 j hj).1, (r2 j (by rw [← u1]; exact hj)).1]
          · exact (u2 j (by omega) (by omega)).1
        have ea : y2 = G.2.2.1 := by
          funext j
          by_cases hj : j < dn ∨ d2 ≤ j
          · rw [(q2 j hj).2.1, (r2 j (by rw [← u1]; exact hj)).2.1]
          · exact (u2 j (by omega) (by omega)).2.1
        have eb : z2 = G.2.2.2.1 := by
          funext j
          by_cases hj : j < dn ∨ d2 ≤ j
          · rw [(q2 j hj).2.2, (r2 j (by rw [← u1]; exact hj)).2.2]
          · exact (u2 j (by omega) (by omega)).2.2
        obtain ⟨-, co2, e9, hcn, hco2⟩ := l146_co (mn := mn) hyn (by omega) hQ r1 601 dn rco (by omega) (Nat.le_refl dn) r1.1 (by omega) (fun j => ⟨Or.inl, fun h => h.elim id (fun ⟨_, _, i, h1, h2, _⟩ => by omega)⟩)
        have e183 := l183_eq (mn := mn) (rkn := dn) (ms := ms) (ka := ka) (kb := kb) (mn + 1) 0 ms co2 G.2.1 G.2.2.1 G.2.2.2.1 G.2.2.2.2 (by omega)
        rw [if_neg (by omega)] at e183
        have e8' : FX8_tellDoubles ys yp yt yn dz da db dn (ms ka.toNatClampNeg) (ms kb.toNatClampNeg) = (nI d2 - nI dn, t2, x2, y2, z2, d2) := e8
        have hmv : ∀ j, FX4_moveSet ms mn (ms kb.toNatClampNeg) (ms ka.toNatClampNeg) j = if 0 ≤ j ∧ j < mn ∧ ms j = ms kb.toNatClampNeg then ms ka.toNatClampNeg else ms j := mv_at h3 (mn + 1) 0 ms (by omega) (by omega)
        have hmy : ∀ j, FX6_moveSet t2 yn (ms kb.toNatClampNeg) (ms ka.toNatClampNeg) j = if 0 ≤ j ∧ j < yn ∧ t2 j = ms kb.toNatClampNeg then ms ka.toNatClampNeg else t2 j := fun j => by
          unfold FX6_moveSet; rw [mvY_at]; exact mv_at h3 (yn + 1) 0 t2 (by omega) (by omega) j
        -- what is no longer counted
        have hout : ∀ j, j < yn → (co2 j = 0 ↔ (rco j = 0 ∨ (yt j = ms kb.toNatClampNeg ∧ ∃ i, i < yn ∧ QP ys rco ms yp (ys j) (ms ka.toNatClampNeg) i))) := by
          intro j hj
          rw [hco2 j]
          refine ⟨fun h => ?_, fun h => ?_⟩
          · by_cases h0 : rco j = 0
            · exact Or.inl h0
            · rcases h with h | ⟨-, a2, i, i1, i2, i3⟩
              · exact Or.inl h
              · obtain ⟨a, b, -, -, ha, hb, p1, p2, -, -⟩ := r1.2.2.1 i i1 i2
                rw [i3] at p1
                exact Or.inr ⟨(yt_iff hT hb1 hj).mpr ⟨h0, a2⟩, a, ha, p1⟩
          · rcases h with h | ⟨a1, i, hi, p⟩
            · exact Or.inl h
            · have hq := (yt_iff hT hb1 hj).mp a1
              obtain ⟨x, x1, x3, x4, -, -⟩ := r1.2.2.2 (ys j) (yp i) (yp j) ⟨i, j, hi, hj, hi, hj, p, ⟨hq.1, rfl, hq.2⟩, rfl, rfl⟩
              exact Or.inr ⟨hj, hq.2, x, x1, x3, x4⟩
        have hcl : ∀ j, j < yn → (yp j).toNatClampNeg < mn := fun j hj => by
          obtain ⟨⟨i, hi, ei⟩, -⟩ := hY.1 j hj
          rw [ei, nI_clamp (by omega)]; exact hi
        rw [e9, e183, e8']
        refine ⟨_, _, _, _, _, _, _, co2, rfl, ?_, fun j hj => ?_, fun j hj => ?_, fun j q hj hq a b d f => ?_, ?_, fun j hj => ?_⟩
        · show (nI G.2.2.2.2 - nI dn, (0 : Int32), FX4_moveSet_l2 mn (ms kb.toNatClampNeg) (ms ka.toNatClampNeg) (mn + 1) 0 ms, co2, G.2.1, G.2.2.1, G.2.2.2.1, G.2.2.2.2) = (nI d2 - nI dn, 0, FX4_moveSet ms mn (ms kb.toNatClampNeg) (ms ka.toNatClampNeg), co2, x2, y2, z2, d2)
          rw [ez, ea, eb, u1]; rfl
        · rw [hmv j]
          split
          · rw [eca]; exact hM ia hia
          · exact hM j hj
        · rw [hmy j, hmv]
          have hc := hout j hj
          have hTj := hT j hj
          by_cases h0 : co2 j = 0
          · rw [if_pos h0]
            have ht : t2 j = -1 := by
              rcases hc.mp h0 with h | ⟨a1, i, hi, p⟩
              · rw [if_pos h] at hTj
                rcases ht2 j with ⟨g, -⟩ | ⟨-, -, g, -⟩
                · rw [← g, hTj]
                · exact g
              · rcases ht2 j with ⟨-, g⟩ | ⟨-, -, g, -⟩
                · exact absurd p (g hj a1 i hi)
                · exact g
            rw [ht, if_neg (fun q => hb1 q.2.2.symm)]
          · rw [if_neg h0]
            have hr0 : ¬ rco j = 0 := fun q => h0 (hc.mpr (Or.inl q))
            rw [if_neg hr0] at hTj
            have ht : t2 j = yt j := by
              rcases ht2 j with ⟨g, -⟩ | ⟨-, g1, -, i, hi, p⟩
              · exact g.symm
              · exact absurd (hc.mpr (Or.inr ⟨g1, i, hi, p⟩)) h0
            rw [ht, hTj]
            by_cases hs : ms (yp j).toNatClampNeg = ms kb.toNatClampNeg
            · rw [if_pos ⟨Nat.zero_le _, hj, hs⟩, if_pos ⟨Nat.zero_le _, hcl j hj, hs⟩]
            · rw [if_neg (fun q => hs q.2.2), if_neg (fun q => hs q.2.2)]
        · have hra : ¬ rco j = 0 := fun z => a ((hout j hj).mpr (Or.inl z))
          have hrb : ¬ rco q = 0 := fun z => b ((hout q hq).mpr (Or.inl z))
          rw [hmv, hmv] at f
          have cj := hcl j hj
          have cq := hcl q hq
          by_cases s1 : ms (yp j).toNatClampNeg = ms kb.toNatClampNeg
          · rw [if_pos ⟨Nat.zero_le _, cj, s1⟩] at f
            by_cases s2 : ms (yp q).toNatClampNeg = ms kb.toNatClampNeg
            · exact hQ j q hj hq hra hrb d (s1.trans s2.symm)
            · rw [if_neg (fun z => s2 z.2.2)] at f
              exact absurd ((hout j hj).mpr (Or.inr ⟨(yt_iff hT hb1 hj).mpr ⟨hra, s1⟩, q, hq, hrb, d.symm, f.symm⟩)) a
          · rw [if_neg (fun z => s1 z.2.2)] at f
            by_cases s2 : ms (yp q).toNatClampNeg = ms kb.toNatClampNeg
            · rw [if_pos ⟨Nat.zero_le _, cq, s2⟩] at f
              exact absurd ((hout q hq).mpr (Or.inr ⟨(yt_iff hT hb1 hq).mpr ⟨hrb, s2⟩, j, hj, hra, d, f⟩)) b
            · rw [if_neg (fun z => s2 z.2.2)] at f
              exact hQ j q hj hq hra hrb d f
        · show d2 = cN co2 yn
          rw [hcn, u1, ← hN]; have := r1.1; omega
        · have hj2 : j < d2 := hj
          show ∃ x : Nat, x < 10 ^ 18 ∧ x2 j = lN x
          by_cases hd : j < dn
          · rw [(q2 j (Or.inl hd)).1]; exact hz j hd
          · obtain ⟨a, b, -, -, ha, hb, p1, p2, -, -⟩ := q1.2.2.1 j (by omega) hj2
            rw [← p1.2.1]; exact (hY.1 a ha).2
