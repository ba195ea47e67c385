theorem FX9_insert_l6_n (rkn fi : Nat) (v : Int64) (pa pb : Int32) (n : Nat) : ∀ (pq : Nat) (dz : Nat → Int64) (da db : Nat → Int32), pq < n → (FX9_insert_l6 rkn fi v pa pb n pq dz da db).2.2.2 = rkn + 1 := by
  induction n with
  | zero => intro pq dz da db h; omega
  | succ n ih =>
    intro pq dz da db h
    rw [FX9_insert_l6]
    split
    · rfl
    · split
      · rfl
      · exact ih _ _ _ _ (by omega)
theorem FX9_insert_n (rkn : Nat) (dz : Nat → Int64) (da db : Nat → Int32) (fi : Nat) (v : Int64) (pa pb : Int32) : (FX9_insert rkn dz da db fi v pa pb).2.2.2 = rkn + 1 := FX9_insert_l6_n _ _ _ _ _ _ _ _ _ _ (by omega)
theorem FX9_payingOf_l6_or (rpn : Nat) (rse : Nat → Int32) (rsn : Nat → Int64) (rpa rco : Nat → Int32) (v : Int64) (st : Int32) (n : Nat) : ∀ (k : Nat) (fo : Int32), k + n = rpn + 1 → k ≤ rpn → (fo = -1 ∨ ∃ j, j < rpn ∧ fo = nI j) →
    (FX9_payingOf_l6 rpn rse rsn rpa rco v st n k fo = -1 ∨ ∃ j, j < rpn ∧ FX9_payingOf_l6 rpn rse rsn rpa rco v st n k fo = nI j) := by
  induction n with
  | zero => intro k fo h1 h2; omega
  | succ n ih =>
    intro k fo h1 h2 h
    rw [FX9_payingOf_l6]
    repeat' split
    all_goals first | exact h | exact ih (k + 1) _ (by omega) (by omega) h | exact ih (k + 1) _ (by omega) (by omega) (Or.inr ⟨k, by omega, rfl⟩)
theorem FX9_payingOf_or (rpn : Nat) (rse : Nat → Int32) (rsn : Nat → Int64) (rpa rco : Nat → Int32) (v : Int64) (st : Int32) : FX9_payingOf rpn rse rsn rpa rco v st = -1 ∨ ∃ j, j < rpn ∧ FX9_payingOf rpn rse rsn rpa rco v st = nI j :=
  FX9_payingOf_l6_or rpn rse rsn rpa rco v st (rpn + 1) 0 (-1) (by omega) (by omega) (Or.inl rfl)
theorem FX9_payingOf_in {rpn : Nat} {rse : Nat → Int32} {rsn : Nat → Int64} {rpa rco : Nat → Int32} {v : Int64} {st : Int32} (hn : rpn ≤ 200) (h : ¬ FX9_payingOf rpn rse rsn rpa rco v st < 0) : vp_in (FX9_payingOf rpn rse rsn rpa rco v st) 200 := by
  rcases FX9_payingOf_or rpn rse rsn rpa rco v st with h1 | ⟨j, hj, h1⟩
  · rw [h1] at h; exact absurd (by decide) h
  · rw [h1]; exact vp_in_nI (by omega) (by decide)
/-- from place k on: each double of this joining is one of the set b's payings, one after the other -/
def SJ (rpn : Nat) (rse : Nat → Int32) (rsn : Nat → Int64) (rpa : Nat → Int32) (st : Int32) : Nat → Nat → (Nat → Int32) → (Nat → Int64) → Nat → Prop
  | 0, _, _, _, _ => True
  | n + 1, k, co, dz, kn => kn ≤ k ∨ (vp_in (FX9_payingOf rpn rse rsn rpa co (dz k) st) 200 ∧ SJ rpn rse rsn rpa st n (k + 1) (upd co (FX9_payingOf rpn rse rsn rpa co (dz k) st).toNatClampNeg (vp_nar .boolean 0)) dz kn)
theorem SJ.next {rpn : Nat} {rse : Nat → Int32} {rsn : Nat → Int64} {rpa : Nat → Int32} {st : Int32} {n k : Nat} {co : Nat → Int32} {dz : Nat → Int64} {kn : Nat} (h : SJ rpn rse rsn rpa st (n + 1) k co dz kn) (hk : ¬ kn ≤ k) : vp_in (FX9_payingOf rpn rse rsn rpa co (dz k) st) 200 ∧ SJ rpn rse rsn rpa st n (k + 1) (upd co (FX9_payingOf rpn rse rsn rpa co (dz k) st).toNatClampNeg (vp_nar .boolean 0)) dz kn := h.resolve_left hk
def FX9_join_l50 (rpn : Nat) (rkn : Nat) (rse : Nat → Int32) (rsn : Nat → Int64) (rpa : Nat → Int32) (rco : Nat → Int32) (ka : Int32) (kb : Int32) : Nat → Nat → (Nat → Int64) → (Nat → Int32) → (Nat → Int32) → Nat → (Nat × (Nat → Int64) × (Nat → Int32) × (Nat → Int32) × Nat)
  | 0, k, dzx, dax, dbx, kx => (k, dzx, dax, dbx, kx)
  | n + 1, k, dzx, dax, dbx, kx => if rpn ≤ k then (k, dzx, dax, dbx, kx) else (if (rco k) = 0 then FX9_join_l50 rpn rkn rse rsn rpa rco ka kb n (k + 1) dzx dax dbx kx else (if (rse ((rpa k).toNatClampNeg)) = (rse ka.toNatClampNeg) then (if (FX9_payingOf rpn rse rsn rpa rco (rsn k) (rse kb.toNatClampNeg)) < 0 then FX9_join_l50 rpn rkn rse rsn rpa rco ka kb n (k + 1) dzx dax dbx kx else FX9_join_l50 rpn rkn rse rsn rpa rco ka kb n (k + 1) ((FX9_insert kx dzx dax dbx rkn (rsn k) (rpa k) (rpa ((FX9_payingOf rpn rse rsn rpa rco (rsn k) (rse kb.toNatClampNeg)).toNatClampNeg))).1) ((FX9_insert kx dzx dax dbx rkn (rsn k) (rpa k) (rpa ((FX9_payingOf rpn rse rsn rpa rco (rsn k) (rse kb.toNatClampNeg)).toNatClampNeg))).2.1) ((FX9_insert kx dzx dax dbx rkn (rsn k) (rpa k) (rpa ((FX9_payingOf rpn rse rsn rpa rco (rsn k) (rse kb.toNatClampNeg)).toNatClampNeg))).2.2.1) ((FX9_insert kx dzx dax dbx rkn (rsn k) (rpa k) (rpa ((FX9_payingOf rpn rse rsn rpa rco (rsn k) (rse kb.toNatClampNeg)).toNatClampNeg))).2.2.2)) else FX9_join_l50 rpn rkn rse rsn rpa rco ka kb n (k + 1) dzx dax dbx kx))
def FX9_join_l183 (rmn : Nat) (rkn : Nat) (rse : Nat → Int32) (ka : Int32) (kb : Int32) : Nat → Nat → (Nat → Int32) → (Nat → Int32) → (Nat → Int64) → (Nat → Int32) → (Nat → Int32) → Nat → Int32 × Int32 × (Nat → Int32) × (Nat → Int32) × (Nat → Int64) × (Nat → Int32) × (Nat → Int32) × Nat
  | 0, _, _, _, _, _, _, _ => (0, 0, fun _ => 0, fun _ => 0, fun _ => 0, fun _ => 0, fun _ => 0, 0)
  | n + 1, k, sex, coz, dzz, daz, dbz, kz => if rmn ≤ k then ((nI kz) - (nI rkn), (FX9_isMachine rmn kb).2, sex, coz, dzz, daz, dbz, kz) else (if (sex k) = (rse kb.toNatClampNeg) then FX9_join_l183 rmn rkn rse ka kb n (k + 1) (upd sex k (rse ka.toNatClampNeg)) coz dzz daz dbz kz else FX9_join_l183 rmn rkn rse ka kb n (k + 1) (upd sex k (sex k)) coz dzz daz dbz kz)
def FX9_join_l146 (rmn : Nat) (rpn : Nat) (rkn : Nat) (rse : Nat → Int32) (rsn : Nat → Int64) (rpa : Nat → Int32) (ka : Int32) (kb : Int32) : Nat → Nat → (Nat → Int32) → (Nat → Int64) → (Nat → Int32) → (Nat → Int32) → Nat → Int32 × Int32 × (Nat → Int32) × (Nat → Int32) × (Nat → Int64) × (Nat → Int32) × (Nat → Int32) × Nat
  | 0, _, _, _, _, _, _ => (0, 0, fun _ => 0, fun _ => 0, fun _ => 0, fun _ => 0, fun _ => 0, 0)
  | n + 1, k, cox, dzy, day, dby, ky => if ky ≤ k then FX9_join_l183 rmn rkn rse ka kb (rmn + 1) 0 rse cox dzy day dby ky else FX9_join_l146 rmn rpn rkn rse rsn rpa ka kb n (k + 1) (upd cox ((FX9_payingOf rpn rse rsn rpa cox (dzy k) (rse kb.toNatClampNeg)).toNatClampNeg) (vp_nar .boolean 0)) dzy day dby ky
def FX9_join (rmn : Nat) (rpn : Nat) (rkn : Nat) (rse : Nat → Int32) (rsn : Nat → Int64) (rpa : Nat → Int32) (rco : Nat → Int32) (rdz : Nat → Int64) (rdA : Nat → Int32) (rdB : Nat → Int32) (ka : Int32) (kb : Int32) : Int32 × Int32 × (Nat → Int32) × (Nat → Int32) × (Nat → Int64) × (Nat → Int32) × (Nat → Int32) × Nat := if ((FX9_isMachine rmn ka).1) = 0 then ((-1), (FX9_isMachine rmn ka).2, rse, rco, rdz, rdA, rdB, rkn) else (if ((FX9_isMachine rmn kb).1) = 0 then ((-1), (FX9_isMachine rmn kb).2, rse, rco, rdz, rdA, rdB, rkn) else (if (rse ka.toNatClampNeg) = (rse kb.toNatClampNeg) then (0, (FX9_isMachine rmn kb).2, rse, rco, rdz, rdA, rdB, rkn) else FX9_join_l146 rmn rpn rkn rse rsn rpa ka kb 601 rkn rco ((FX9_join_l50 rpn rkn rse rsn rpa rco ka kb (rpn + 1) 0 rdz rdA rdB rkn).2.1) ((FX9_join_l50 rpn rkn rse rsn rpa rco ka kb (rpn + 1) 0 rdz rdA rdB rkn).2.2.1) ((FX9_join_l50 rpn rkn rse rsn rpa rco ka kb (rpn + 1) 0 rdz rdA rdB rkn).2.2.2.1) ((FX9_join_l50 rpn rkn rse rsn rpa rco ka kb (rpn + 1) 0 rdz rdA rdB rkn).2.2.2.2)))
theorem FX9_join_l50_le (rpn rkn : Nat) (rse : Nat → Int32) (rsn : Nat → Int64) (rpa rco : Nat → Int32) (ka kb : Int32) (n : Nat) : ∀ (k : Nat) (dz : Nat → Int64) (da db : Nat → Int32) (kx : Nat), k + n = rpn + 1 → k ≤ rpn → kx ≤ rkn + k → (FX9_join_l50 rpn rkn rse rsn rpa rco ka kb n k dz da db kx).2.2.2.2 ≤ rkn + rpn := by
  induction n with
  | zero => intro k dz da db kx h1 h2 h3; omega
  | succ n ih =>
    intro k dz da db kx h1 h2 h3
    rw [FX9_join_l50]
    repeat' split
    all_goals first | (show kx ≤ rkn + rpn; omega) | exact ih (k + 1) _ _ _ _ (by omega) (by omega) (by omega) | exact ih (k + 1) _ _ _ _ (by omega) (by omega) (by rw [FX9_insert_n]; omega)
set_option maxHeartbeats 4000000 in
set_option maxRecDepth 100000 in
theorem kX9_join (l : Launch) (D : va_G) (cI cJ cZ : ClassId) (w0 : Nat) (a1 : Nat) (a2 : Nat) (a3 : Nat) (a4 : Nat) (a5 : Nat) (a6 : Nat) (a7 : Nat) (a8 : Nat) (a9 : Nat) (a10 : Nat) (a11 : Nat) (a12 : Nat) (a13 : Nat) (a14 : Nat) (a15 : Nat) (a16 : Nat) (a17 : Nat) (a18 : Nat) (a19 : Nat) (a20 : Nat) (a21 : Nat) (a22 : Nat) (a23 : Nat) (rdn : Nat) (rfa : Int32) (rmn : Nat) (rpn : Nat) (rre : Int32) (rrn : Nat) (rfn : Nat) (rkn : Nat) (rcn : Nat) (rse : Nat → Int32) (rsn : Nat → Int64) (rpa : Nat → Int32) (rco : Nat → Int32) (rdz : Nat → Int64) (rdA : Nat → Int32) (rdB : Nat → Int32) (ka : Int32) (kb : Int32) (sz : Nat) (hmn : rmn ≤ 6) (hpn : rpn ≤ 200) (hpy : ∀ j, j < rpn → vp_in (rpa j) 6) (hkn : rkn ≤ 200) (hsj : SJ rpn rse rsn rpa (rse kb.toNatClampNeg) 601 rkn rco (FX9_join_l50 rpn rkn rse rsn rpa rco ka kb (rpn + 1) 0 rdz rdA rdB rkn).2.1 (FX9_join_l50 rpn rkn rse rsn rpa rco ka kb (rpn + 1) 0 rdz rdA rdB rkn).2.2.2.2) : Met l yX9_join wsX9_join ({ frames := 1, cells := 0, slots := 0, locals := 26 }) (mP D (tz cI cJ cZ) [.ref w0, .int ka, .int kb] sz [(w0, .inr (9, [.ref a1, .ref a2, .int (nI rdn), .int rfa, .int (nI rmn), .ref a3, .ref a4, .ref a5, .ref a6, .ref a7, .ref a8, .ref a9, .ref a10, .ref a11, .ref a12, .ref a13, .int (nI rpn), .int rre, .ref a14, .ref a15, .int (nI rrn), .ref a16, .int (nI rfn), .ref a17, .ref a18, .ref a19, .int (nI rkn), .ref a20, .ref a21, .int (nI rcn), .ref a22, .ref a23])), (a3, .inl (cI, 6, .inl rse)), (a8, .inl (cJ, 200, .inr (.inl rsn))), (a9, .inl (cI, 200, .inl rpa)), (a12, .inl (cZ, 200, .inl rco)), (a17, .inl (cJ, 1100, .inr (.inl rdz))), (a18, .inl (cI, 1100, .inl rdA)), (a19, .inl (cI, 1100, .inl rdB))]) (mQ D (some (.int ((FX9_join rmn rpn rkn rse rsn rpa rco rdz rdA rdB ka kb).1))) [(w0, .inr (9, [.ref a1, .ref a2, .int (nI rdn), .int ((FX9_join rmn rpn rkn rse rsn rpa rco rdz rdA rdB ka kb).2.1), .int (nI rmn), .ref a3, .ref a4, .ref a5, .ref a6, .ref a7, .ref a8, .ref a9, .ref a10, .ref a11, .ref a12, .ref a13, .int (nI rpn), .int rre, .ref a14, .ref a15, .int (nI rrn), .ref a16, .int (nI rfn), .ref a17, .ref a18, .ref a19, .int (nI ((FX9_join rmn rpn rkn rse rsn rpa rco rdz rdA rdB ka kb).2.2.2.2.2.2.2)), .ref a20, .ref a21, .int (nI rcn), .ref a22, .ref a23])), (a3, .inl (cI, 6, .inl ((FX9_join rmn rpn rkn rse rsn rpa rco rdz rdA rdB ka kb).2.2.1))), (a8, .inl (cJ, 200, .inr (.inl rsn))), (a9, .inl (cI, 200, .inl rpa)), (a12, .inl (cZ, 200, .inl ((FX9_join rmn rpn rkn rse rsn rpa rco rdz rdA rdB ka kb).2.2.2.1))), (a17, .inl (cJ, 1100, .inr (.inl ((FX9_join rmn rpn rkn rse rsn rpa rco rdz rdA rdB ka kb).2.2.2.2.1)))), (a18, .inl (cI, 1100, .inl ((FX9_join rmn rpn rkn rse rsn rpa rco rdz rdA rdB ka kb).2.2.2.2.2.1))), (a19, .inl (cI, 1100, .inl ((FX9_join rmn rpn rkn rse rsn rpa rco rdz rdA rdB ka kb).2.2.2.2.2.2.1)))] (va_A [(w0, .inr (9, [.ref a1, .ref a2, .int (nI rdn), .int rfa, .int (nI rmn), .ref a3, .ref a4, .ref a5, .ref a6, .ref a7, .ref a8, .ref a9, .ref a10, .ref a11, .ref a12, .ref a13, .int (nI rpn), .int rre, .ref a14, .ref a15, .int (nI rrn), .ref a16, .int (nI rfn), .ref a17, .ref a18, .ref a19, .int (nI rkn), .ref a20, .ref a21, .int (nI rcn), .ref a22, .ref a23])), (a3, .inl (cI, 6, .inl rse)), (a8, .inl (cJ, 200, .inr (.inl rsn))), (a9, .inl (cI, 200, .inl rpa)), (a12, .inl (cZ, 200, .inl rco)), (a17, .inl (cJ, 1100, .inr (.inl rdz))), (a18, .inl (cI, 1100, .inl rdA)), (a19, .inl (cI, 1100, .inl rdB))] sz)) 0 0 (va_A [(w0, .inr (9, [.ref a1, .ref a2, .int (nI rdn), .int rfa, .int (nI rmn), .ref a3, .ref a4, .ref a5, .ref a6, .ref a7, .ref a8, .ref a9, .ref a10, .ref a11, .ref a12, .ref a13, .int (nI rpn), .int rre, .ref a14, .ref a15, .int (nI rrn), .ref a16, .int (nI rfn), .ref a17, .ref a18, .ref a19, .int (nI rkn), .ref a20, .ref a21, .int (nI rcn), .ref a22, .ref a23])), (a3, .inl (cI, 6, .inl rse)), (a8, .inl (cJ, 200, .inr (.inl rsn))), (a9, .inl (cI, 200, .inl rpa)), (a12, .inl (cZ, 200, .inl rco)), (a17, .inl (cJ, 1100, .inr (.inl rdz))), (a18, .inl (cI, 1100, .inl rdA)), (a19, .inl (cI, 1100, .inl rdB))] sz) := by
  refine Met.ofW (cc := cX9_join) (maxL := 8) (ret := (some .int)) (by decide) rfl ?_
  intro p e s m args below meth c s₁ B hml hv
  obtain ⟨rfl, hsz, hP, hK, hD0, hN⟩ := hv
  have hx := B.exec
  have hb := B.bytes
  have hr := B.returns
  have hts := atoms_spec (ws := wsX9_join) B.pre
  have hown : s.vm.findClass RX9 = some m.cls := findClass_of_methodNamed B.named
  have hlocks := B.notSynchronized
  have iw_9 : ∀ w ∈ u_ws RX9 TX9 32, w ∈ wsX9_join := by decide +kernel
  subst hsz
  have hD := hD0.self (sz := s.heap.size)
  generalize hE : FX9_join rmn rpn rkn rse rsn rpa rco rdz rdA rdB ka kb = R0
  generalize hAe : va_A [(w0, .inr (9, [.ref a1, .ref a2, .int (nI rdn), .int rfa, .int (nI rmn), .ref a3, .ref a4, .ref a5, .ref a6, .ref a7, .ref a8, .ref a9, .ref a10, .ref a11, .ref a12, .ref a13, .int (nI rpn), .int rre, .ref a14, .ref a15, .int (nI rrn), .ref a16, .int (nI rfn), .ref a17, .ref a18, .ref a19, .int (nI rkn), .ref a20, .ref a21, .int (nI rcn), .ref a22, .ref a23])), (a3, .inl (cI, 6, .inl rse)), (a8, .inl (cJ, 200, .inr (.inl rsn))), (a9, .inl (cI, 200, .inl rpa)), (a12, .inl (cZ, 200, .inl rco)), (a17, .inl (cJ, 1100, .inr (.inl rdz))), (a18, .inl (cI, 1100, .inl rdA)), (a19, .inl (cI, 1100, .inl rdB))] s.heap.size = A at hD ⊢
  have hA : ∀ q : Nat, s.heap.size ≤ q → A q := fun q h => by rw [← hAe]; exact Or.inr h
  have hS : va_S A s.heap s.heap [] := va_S.rf
  rw [FX9_join] at hE
  have hl := lv_entry ([.ref w0, .int ka, .int kb]) (n := 8) (Nat.le_of_ble_eq_true rfl)
  rw [lg_entry_eq]
  generalize (lg_sl ([.ref w0, .int ka, .int kb]) ++ List.replicate (8 - (lg_sl ([.ref w0, .int ka, .int kb])).length) Slot.unset).toArray = ls at hl ⊢
  have hl : lv_has ls 8 [(0, .ref w0), (1, .int ka), (2, .int kb)] := hl
  have loop_183 : ∀ (n : Nat) (k : Nat) (sex : Nat → Int32) (coz : Nat → Int32) (dzz : Nat → Int64) (daz : Nat → Int32) (dbz : Nat → Int32) (kz : Nat), k ≤ rmn → k + n = rmn + 1 → FX9_join_l183 rmn rkn rse ka kb n k sex coz dzz daz dbz kz = R0 → ∀ (H : Heap) (locs : List Loc), va_P D vwCl [(w0, .inr (9, [.ref a1, .ref a2, .int (nI rdn), .int ((FX9_isMachine rmn kb).2), .int (nI rmn), .ref a3, .ref a4, .ref a5, .ref a6, .ref a7, .ref a8, .ref a9, .ref a10, .ref a11, .ref a12, .ref a13, .int (nI rpn), .int rre, .ref a14, .ref a15, .int (nI rrn), .ref a16, .int (nI rfn), .ref a17, .ref a18, .ref a19, .int (nI kz), .ref a20, .ref a21, .int (nI rcn), .ref a22, .ref a23])), (a3, .inl (cI, 6, .inl sex)), (a8, .inl (cJ, 200, .inr (.inl rsn))), (a9, .inl (cI, 200, .inl rpa)), (a12, .inl (cZ, 200, .inl coz)), (a17, .inl (cJ, 1100, .inr (.inl dzz))), (a18, .inl (cI, 1100, .inl daz)), (a19, .inl (cI, 1100, .inl dbz))] H → va_D A [(w0, .inr (9, [.ref a1, .ref a2, .int (nI rdn), .int ((FX9_isMachine rmn kb).2), .int (nI rmn), .ref a3, .ref a4, .ref a5, .ref a6, .ref a7, .ref a8, .ref a9, .ref a10, .ref a11, .ref a12, .ref a13, .int (nI rpn), .int rre, .ref a14, .ref a15, .int (nI rrn), .ref a16, .int (nI rfn), .ref a17, .ref a18, .ref a19, .int (nI kz), .ref a20, .ref a21, .int (nI rcn), .ref a22, .ref a23])), (a3, .inl (cI, 6, .inl sex)), (a8, .inl (cJ, 200, .inr (.inl rsn))), (a9, .inl (cI, 200, .inl rpa)), (a12, .inl (cZ, 200, .inl coz)), (a17, .inl (cJ, 1100, .inr (.inl dzz))), (a18, .inl (cI, 1100, .inl daz)), (a19, .inl (cI, 1100, .inl dbz))] → va_S A s.heap H locs → ∀ ls : Array Slot, lv_has ls 8 [(6, .int (nI k)), (5, .int (nI rkn)), (4, .int (rse kb.toNatClampNeg)), (3, .int (rse ka.toNatClampNeg)), (0, .ref w0), (1, .int ka), (2, .int kb)] → W p l e (headSpec wsX9_join ({ frames := 1, cells := 0, slots := 0, locals := 26 })).room s m ([.ref w0, .int ka, .int kb] : List Value).toArray below meth c H locs 0 0 (MQ below (mQ D (some (.int R0.1)) [(w0, .inr (9, [.ref a1, .ref a2, .int (nI rdn), .int R0.2.1, .int (nI rmn), .ref a3, .ref a4, .ref a5, .ref a6, .ref a7, .ref a8, .ref a9, .ref a10, .ref a11, .ref a12, .ref a13, .int (nI rpn), .int rre, .ref a14, .ref a15, .int (nI rrn), .ref a16, .int (nI rfn), .ref a17, .ref a18, .ref a19, .int (nI R0.2.2.2.2.2.2.2), .ref a20, .ref a21, .int (nI rcn), .ref a22, .ref a23])), (a3, .inl (cI, 6, .inl R0.2.2.1)), (a8, .inl (cJ, 200, .inr (.inl rsn))), (a9, .inl (cI, 200, .inl rpa)), (a12, .inl (cZ, 200, .inl R0.2.2.2.1)), (a17, .inl (cJ, 1100, .inr (.inl R0.2.2.2.2.1))), (a18, .inl (cI, 1100, .inl R0.2.2.2.2.2.1)), (a19, .inl (cI, 1100, .inl R0.2.2.2.2.2.2.1))] A) ([.ref w0, .int ka, .int kb] : List Value).toArray s 0 0 A) (F0 m 183 ls []) := by
    intro n
    induction n with
    | zero =>
      intro k sex coz dzz daz dbz kz i_1 i_2
      exact absurd i_1 (by omega)
    | succ n ih =>
      intro k sex coz dzz daz dbz kz i_1 i_2 hE H locs hP hD hS ls hl
      rw [FX9_join_l183] at hE
      refine lv_iload hx hb dX9_join_183 (lv_at hl 0 rfl) ?_
      refine lv_aload_n hx hb dX9_join_185 rfl (lv_at hl 4 rfl) ?_
      refine va_get (D := D) (ci := 9) (v := .int (nI rmn)) (C := RX9) (T := TX9) (N := 32) hx hb hts iw_9 hown hK hP 0 rfl rfl 4 (by decide) (hts (.fieldLink RX9 131 "DepositCodesModel" "machines" "I") (by decide +kernel)) (fun _ h9 => h9) rfl dX9_join_186 ?_
      refine lv_icmp_ge (tgt := 228) hx hb dX9_join_189 (by decide) (fun c_11 => ?_) (fun c_11 => ?_)
      · have c_11 : rmn ≤ k := (nI_leI (a := rmn) (b := k) (by omega) (by omega)).mp c_11
        rw [if_pos c_11] at hE
        refine lv_aload_n hx hb dX9_join_228 rfl (lv_at hl 4 rfl) ?_
        refine va_get (D := D) (ci := 9) (v := .int (nI kz)) (C := RX9) (T := TX9) (N := 32) hx hb hts iw_9 hown hK hP 0 rfl rfl 26 (by decide) (hts (.fieldLink RX9 170 "DepositCodesModel" "doubleCount" "I") (by decide +kernel)) (fun _ h9 => h9) rfl dX9_join_229 ?_
        refine lv_iload hx hb dX9_join_232 (lv_at hl 1 rfl) ?_
        refine lv_isub hx hb dX9_join_234 ?_
        subst hE
        exact W.iret hx hb hr (fun t ht hW => ⟨rfl, by rw [ht]; exact hP, hD, hS.F ht⟩) hS.2.2 dX9_join_235
      · have c_11 : ¬ rmn ≤ k := fun h9 => c_11 ((nI_leI (a := rmn) (b := k) (by omega) (by omega)).mpr h9)
        rw [if_neg c_11] at hE
        refine lv_aload_n hx hb dX9_join_192 rfl (lv_at hl 4 rfl) ?_
        refine va_get (D := D) (ci := 9) (v := .ref a3) (C := RX9) (T := TX9) (N := 32) hx hb hts iw_9 hown hK hP 0 rfl rfl 5 (by decide) (hts (.fieldLink RX9 16 "DepositCodesModel" "sets" "[I") (by decide +kernel)) (fun _ h9 => h9) rfl dX9_join_193 ?_
        refine lv_iload hx hb dX9_join_196 (lv_at hl 0 rfl) ?_
        refine lv_aload_n hx hb dX9_join_198 rfl (lv_at hl 4 rfl) ?_
        refine va_get (D := D) (ci := 9) (v := .ref a3) (C := RX9) (T := TX9) (N := 32) hx hb hts iw_9 hown hK hP 0 rfl rfl 5 (by decide) (hts (.fieldLink RX9 16 "DepositCodesModel" "sets" "[I") (by decide +kernel)) (fun _ h9 => h9) rfl dX9_join_199 ?_
        refine lv_iload hx hb dX9_join_202 (lv_at hl 0 rfl) ?_
        refine na_iald hx hb hK hP 1 0 rfl rfl (by omega) (by decide) dX9_join_204 ?_
        refine lv_iload hx hb dX9_join_205 (lv_at hl 2 rfl) ?_
        refine lv_icmp_ne (tgt := 214) hx hb dX9_join_207 (by decide) (fun c_12 => ?_) (fun c_12 => ?_)
        · rw [if_neg c_12] at hE
          refine lv_aload_n hx hb dX9_join_214 rfl (lv_at hl 4 rfl) ?_
          refine va_get (D := D) (ci := 9) (v := .ref a3) (C := RX9) (T := TX9) (N := 32) hx hb hts iw_9 hown hK hP 0 rfl rfl 5 (by decide) (hts (.fieldLink RX9 16 "DepositCodesModel" "sets" "[I") (by decide +kernel)) (fun _ h9 => h9) rfl dX9_join_215 ?_
          refine lv_iload hx hb dX9_join_218 (lv_at hl 0 rfl) ?_
          refine na_iald hx hb hK hP 1 0 rfl rfl (by omega) (by decide) dX9_join_220 ?_
          refine na_iast hx hb hK hP hD hS 1 0 rfl rfl (by omega) (by decide) dX9_join_221 (fun H locs hP hD hS => ?_)
          have hP : va_P D vwCl [(w0, .inr (9, [.ref a1, .ref a2, .int (nI rdn), .int ((FX9_isMachine rmn kb).2), .int (nI rmn), .ref a3, .ref a4, .ref a5, .ref a6, .ref a7, .ref a8, .ref a9, .ref a10, .ref a11, .ref a12, .ref a13, .int (nI rpn), .int rre, .ref a14, .ref a15, .int (nI rrn), .ref a16, .int (nI rfn), .ref a17, .ref a18, .ref a19, .int (nI kz), .ref a20, .ref a21, .int (nI rcn), .ref a22, .ref a23])), (a3, .inl (cI, 6, .inl (upd sex k (sex k)))), (a8, .inl (cJ, 200, .inr (.inl rsn))), (a9, .inl (cI, 200, .inl rpa)), (a12, .inl (cZ, 200, .inl coz)), (a17, .inl (cJ, 1100, .inr (.inl dzz))), (a18, .inl (cI, 1100, .inl daz)), (a19, .inl (cI, 1100, .inl dbz))] H := hP
          have hD : va_D A [(w0, .inr (9, [.ref a1, .ref a2, .int (nI rdn), .int ((FX9_isMachine rmn kb).2), .int (nI rmn), .ref a3, .ref a4, .ref a5, .ref a6, .ref a7, .ref a8, .ref a9, .ref a10, .ref a11, .ref a12, .ref a13, .int (nI rpn), .int rre, .ref a14, .ref a15, .int (nI rrn), .ref a16, .int (nI rfn), .ref a17, .ref a18, .ref a19, .int (nI kz), .ref a20, .ref a21, .int (nI rcn), .ref a22, .ref a23])), (a3, .inl (cI, 6, .inl (upd sex k (sex k)))), (a8, .inl (cJ, 200, .inr (.inl rsn))), (a9, .inl (cI, 200, .inl rpa)), (a12, .inl (cZ, 200, .inl coz)), (a17, .inl (cJ, 1100, .inr (.inl dzz))), (a18, .inl (cI, 1100, .inl daz)), (a19, .inl (cI, 1100, .inl dbz))] := hD
          refine lv_iinc (v := nI (k + 1)) (lv' := [(6, .int (nI (k + 1))), (5, .int (nI rkn)), (4, .int (rse kb.toNatClampNeg)), (3, .int (rse ka.toNatClampNeg)), (0, .ref w0), (1, .int ka), (2, .int kb)]) hx hb dX9_join_222 hl (k := 0) rfl (nI_1 k) (by decide) rfl (fun ls hl => ?_)
          refine lv_goto (tgt := 183) hx hb dX9_join_225 (by decide) ?_
          exact ih (k + 1) (upd sex k (sex k)) coz dzz daz dbz kz (by omega) (by omega) hE _ _ hP hD hS ls (lv_sub hl [0, 1, 2, 3, 4, 5, 6] rfl)
        · rw [if_pos c_12] at hE
          refine lv_iload_n hx hb dX9_join_210 rfl (lv_at hl 3 rfl) ?_
          refine lv_goto (tgt := 221) hx hb dX9_join_211 (by decide) ?_
          refine na_iast hx hb hK hP hD hS 1 0 rfl rfl (by omega) (by decide) dX9_join_221 (fun H locs hP hD hS => ?_)
          have hP : va_P D vwCl [(w0, .inr (9, [.ref a1, .ref a2, .int (nI rdn), .int ((FX9_isMachine rmn kb).2), .int (nI rmn), .ref a3, .ref a4, .ref a5, .ref a6, .ref a7, .ref a8, .ref a9, .ref a10, .ref a11, .ref a12, .ref a13, .int (nI rpn), .int rre, .ref a14, .ref a15, .int (nI rrn), .ref a16, .int (nI rfn), .ref a17, .ref a18, .ref a19, .int (nI kz), .ref a20, .ref a21, .int (nI rcn), .ref a22, .ref a23])), (a3, .inl (cI, 6, .inl (upd sex k (rse ka.toNatClampNeg)))), (a8, .inl (cJ, 200, .inr (.inl rsn))), (a9, .inl (cI, 200, .inl rpa)), (a12, .inl (cZ, 200, .inl coz)), (a17, .inl (cJ, 1100, .inr (.inl dzz))), (a18, .inl (cI, 1100, .inl daz)), (a19, .inl (cI, 1100, .inl dbz))] H := hP
          have hD : va_D A [(w0, .inr (9, [.ref a1, .ref a2, .int (nI rdn), .int ((FX9_isMachine rmn kb).2), .int (nI rmn), .ref a3, .ref a4, .ref a5, .ref a6, .ref a7, .ref a8, .ref a9, .ref a10, .ref a11, .ref a12, .ref a13, .int (nI rpn), .int rre, .ref a14, .ref a15, .int (nI rrn), .ref a16, .int (nI rfn), .ref a17, .ref a18, .ref a19, .int (nI kz), .ref a20, .ref a21, .int (nI rcn), .ref a22, .ref a23])), (a3, .inl (cI, 6, .inl (upd sex k (rse ka.toNatClampNeg)))), (a8, .inl (cJ, 200, .inr (.inl rsn))), (a9, .inl (cI, 200, .inl rpa)), (a12, .inl (cZ, 200, .inl coz)), (a17, .inl (cJ, 1100, .inr (.inl dzz))), (a18, .inl (cI, 1100, .inl daz)), (a19, .inl (cI, 1100, .inl dbz))] := hD
          refine lv_iinc (v := nI (k + 1)) (lv' := [(6, .int (nI (k + 1))), (5, .int (nI rkn)), (4, .int (rse kb.toNatClampNeg)), (3, .int (rse ka.toNatClampNeg)), (0, .ref w0), (1, .int ka), (2, .int kb)]) hx hb dX9_join_222 hl (k := 0) rfl (nI_1 k) (by decide) rfl (fun ls hl => ?_)
          refine lv_goto (tgt := 183) hx hb dX9_join_225 (by decide) ?_
          exact ih (k + 1) (upd sex k (rse ka.toNatClampNeg)) coz dzz daz dbz kz (by omega) (by omega) hE _ _ hP hD hS ls (lv_sub hl [0, 1, 2, 3, 4, 5, 6] rfl)
  have loop_146 : ∀ (n : Nat) (k : Nat) (cox : Nat → Int32) (dzy : Nat → Int64) (day : Nat → Int32) (dby : Nat → Int32) (ky : Nat), k ≤ 400 → k + n = rkn + 601 → ky ≤ 400 → SJ rpn rse rsn rpa (rse kb.toNatClampNeg) n k cox dzy ky → FX9_join_l146 rmn rpn rkn rse rsn rpa ka kb n k cox dzy day dby ky = R0 → ∀ (H : Heap) (locs : List Loc), va_P D vwCl [(w0, .inr (9, [.ref a1, .ref a2, .int (nI rdn), .int ((FX9_isMachine rmn kb).2), .int (nI rmn), .ref a3, .ref a4, .ref a5, .ref a6, .ref a7, .ref a8, .ref a9, .ref a10, .ref a11, .ref a12, .ref a13, .int (nI rpn), .int rre, .ref a14, .ref a15, .int (nI rrn), .ref a16, .int (nI rfn), .ref a17, .ref a18, .ref a19, .int (nI ky), .ref a20, .ref a21, .int (nI rcn), .ref a22, .ref a23])), (a3, .inl (cI, 6, .inl rse)), (a8, .inl (cJ, 200, .inr (.inl rsn))), (a9, .inl (cI, 200, .inl rpa)), (a12, .inl (cZ, 200, .inl cox)), (a17, .inl (cJ, 1100, .inr (.inl dzy))), (a18, .inl (cI, 1100, .inl day)), (a19, .inl (cI, 1100, .inl dby))] H → va_D A [(w0, .inr (9, [.ref a1, .ref a2, .int (nI rdn), .int ((FX9_isMachine rmn kb).2), .int (nI rmn), .ref a3, .ref a4, .ref a5, .ref a6, .ref a7, .ref a8, .ref a9, .ref a10, .ref a11, .ref a12, .ref a13, .int (nI rpn), .int rre, .ref a14, .ref a15, .int (nI rrn), .ref a16, .int (nI rfn), .ref a17, .ref a18, .ref a19, .int (nI ky), .ref a20, .ref a21, .int (nI rcn), .ref a22, .ref a23])), (a3, .inl (cI, 6, .inl rse)), (a8, .inl (cJ, 200, .inr (.inl rsn))), (a9, .inl (cI, 200, .inl rpa)), (a12, .inl (cZ, 200, .inl cox)), (a17, .inl (cJ, 1100, .inr (.inl dzy))), (a18, .inl (cI, 1100, .inl day)), (a19, .inl (cI, 1100, .inl dby))] → va_S A s.heap H locs → ∀ ls : Array Slot, lv_has ls 8 [(6, .int (nI k)), (5, .int (nI rkn)), (4, .int (rse kb.toNatClampNeg)), (3, .int (rse ka.toNatClampNeg)), (0, .ref w0), (1, .int ka), (2, .int kb)] → W p l e (headSpec wsX9_join ({ frames := 1, cells := 0, slots := 0, locals := 26 })).room s m ([.ref w0, .int ka, .int kb] : List Value).toArray below meth c H locs 0 0 (MQ below (mQ D (some (.int R0.1)) [(w0, .inr (9, [.ref a1, .ref a2, .int (nI rdn), .int R0.2.1, .int (nI rmn), .ref a3, .ref a4, .ref a5, .ref a6, .ref a7, .ref a8, .ref a9, .ref a10, .ref a11, .ref a12, .ref a13, .int (nI rpn), .int rre, .ref a14, .ref a15, .int (nI rrn), .ref a16, .int (nI rfn), .ref a17, .ref a18, .ref a19, .int (nI R0.2.2.2.2.2.2.2), .ref a20, .ref a21, .int (nI rcn), .ref a22, .ref a23])), (a3, .inl (cI, 6, .inl R0.2.2.1)), (a8, .inl (cJ, 200, .inr (.inl rsn))), (a9, .inl (cI, 200, .inl rpa)), (a12, .inl (cZ, 200, .inl R0.2.2.2.1)), (a17, .inl (cJ, 1100, .inr (.inl R0.2.2.2.2.1))), (a18, .inl (cI, 1100, .inl R0.2.2.2.2.2.1)), (a19, .inl (cI, 1100, .inl R0.2.2.2.2.2.2.1))] A) ([.ref w0, .int ka, .int kb] : List Value).toArray s 0 0 A) (F0 m 146 ls []) := by
    intro n
    induction n with
    | zero =>
      intro k cox dzy day dby ky i_1 i_2 i_3 i_4
      exact absurd i_1 (by omega)
    | succ n ih =>
      intro k cox dzy day dby ky i_1 i_2 i_3 i_4 hE H locs hP hD hS ls hl
      rw [FX9_join_l146] at hE
      refine lv_iload hx hb dX9_join_146 (lv_at hl 0 rfl) ?_
      refine lv_aload_n hx hb dX9_join_148 rfl (lv_at hl 4 rfl) ?_
      refine va_get (D := D) (ci := 9) (v := .int (nI ky)) (C := RX9) (T := TX9) (N := 32) hx hb hts iw_9 hown hK hP 0 rfl rfl 26 (by decide) (hts (.fieldLink RX9 170 "DepositCodesModel" "doubleCount" "I") (by decide +kernel)) (fun _ h9 => h9) rfl dX9_join_149 ?_
      refine lv_icmp_ge (tgt := 180) hx hb dX9_join_152 (by decide) (fun c_10 => ?_) (fun c_10 => ?_)
      · have c_10 : ky ≤ k := (nI_leI (a := ky) (b := k) (by omega) (by omega)).mp c_10
        rw [if_pos c_10] at hE
        refine lv_iconst (v := 0) hx hb dX9_join_180 (by decide) ?_
        refine lv_istore (lv' := [(6, .int 0), (5, .int (nI rkn)), (4, .int (rse kb.toNatClampNeg)), (3, .int (rse ka.toNatClampNeg)), (0, .ref w0), (1, .int ka), (2, .int kb)]) hx hb dX9_join_181 hl (by decide) rfl (fun ls hl => ?_)
        exact loop_183 (rmn + 1) 0 rse cox dzy day dby ky (by omega) (by omega) hE _ _ hP hD hS ls (lv_sub hl [0, 1, 2, 3, 4, 5, 6] rfl)
      · have c_10 : ¬ ky ≤ k := fun h9 => c_10 ((nI_leI (a := ky) (b := k) (by omega) (by omega)).mpr h9)
        rw [if_neg c_10] at hE
        obtain ⟨hin9, hs9⟩ := SJ.next i_4 (by assumption)
        refine lv_aload_n hx hb dX9_join_155 rfl (lv_at hl 4 rfl) ?_
        refine va_get (D := D) (ci := 9) (v := .ref a12) (C := RX9) (T := TX9) (N := 32) hx hb hts iw_9 hown hK hP 0 rfl rfl 14 (by decide) (hts (.fieldLink RX9 45 "DepositCodesModel" "counts" "[Z") (by decide +kernel)) (fun _ h9 => h9) rfl dX9_join_156 ?_
        refine lv_aload_n hx hb dX9_join_159 rfl (lv_at hl 4 rfl) ?_
        refine lv_aload_n hx hb dX9_join_160 rfl (lv_at hl 4 rfl) ?_
        refine va_get (D := D) (ci := 9) (v := .ref a17) (C := RX9) (T := TX9) (N := 32) hx hb hts iw_9 hown hK hP 0 rfl rfl 23 (by decide) (hts (.fieldLink RX9 60 "DepositCodesModel" "doubles" "[J") (by decide +kernel)) (fun _ h9 => h9) rfl dX9_join_161 ?_
        refine lv_iload hx hb dX9_join_164 (lv_at hl 0 rfl) ?_
        refine na_lald hx hb hK hP 5 1 rfl rfl (by omega) (by decide) dX9_join_166 ?_
        refine lv_iload hx hb dX9_join_167 (lv_at hl 2 rfl) ?_
        refine rd_call (va_runV (As := [.long (dzy k), .int (rse kb.toNatClampNeg)]) (rest := [.ref a12]) ⟨hx, hb, hml, hown, hts⟩ (kX9_payingOf l D cI cJ cZ w0 a1 a2 a3 a4 a5 a6 a7 a8 a9 a10 a11 a12 a13 a14 a15 a16 a17 a18 a19 a20 a21 a22 a23 rdn ((FX9_isMachine rmn kb).2) rmn rpn rre rrn rfn ky rcn rse rsn rpa cox (dzy k) (rse kb.toNatClampNeg) (by first | assumption | omega) (by first | assumption | omega)) (cwV 2 hts gX9_join_X9_payingOf rfl rfl rfl (by decide +kernel) ⟨Nat.le_of_ble_eq_true rfl, Nat.le_of_ble_eq_true rfl⟩) ⟨rP_blind, va_recv hK hP (ci := 9) (q0 := 0) rfl rfl, rP_pre (hP.sub [0, 1, 2, 3, 4] rfl) hK hN⟩ rfl rfl hl.1 rfl (lv_room (Nat.le_of_ble_eq_true rfl)) dX9_join_169 ⟨Nat.zero_le _, Nat.zero_le _⟩) ?_
        refine lv_iconst (v := 0) hx hb dX9_join_172 (by decide) ?_
        refine va_zast hx hb hK hP hD hS 4 2 rfl rfl hin9 dX9_join_173 (fun H locs hP hD hS => ?_)
        have hP : va_P D vwCl [(w0, .inr (9, [.ref a1, .ref a2, .int (nI rdn), .int ((FX9_isMachine rmn kb).2), .int (nI rmn), .ref a3, .ref a4, .ref a5, .ref a6, .ref a7, .ref a8, .ref a9, .ref a10, .ref a11, .ref a12, .ref a13, .int (nI rpn), .int rre, .ref a14, .ref a15, .int (nI rrn), .ref a16, .int (nI rfn), .ref a17, .ref a18, .ref a19, .int (nI ky), .ref a20, .ref a21, .int (nI rcn), .ref a22, .ref a23])), (a3, .inl (cI, 6, .inl rse)), (a8, .inl (cJ, 200, .inr (.inl rsn))), (a9, .inl (cI, 200, .inl rpa)), (a12, .inl (cZ, 200, .inl (upd cox ((FX9_payingOf rpn rse rsn rpa cox (dzy k) (rse kb.toNatClampNeg)).toNatClampNeg) (vp_nar .boolean 0)))), (a17, .inl (cJ, 1100, .inr (.inl dzy))), (a18, .inl (cI, 1100, .inl day)), (a19, .inl (cI, 1100, .inl dby))] H := hP
        have hD : va_D A [(w0, .inr (9, [.ref a1, .ref a2, .int (nI rdn), .int ((FX9_isMachine rmn kb).2), .int (nI rmn), .ref a3, .ref a4, .ref a5, .ref a6, .ref a7, .ref a8, .ref a9, .ref a10, .ref a11, .ref a12, .ref a13, .int (nI rpn), .int rre, .ref a14, .ref a15, .int (nI rrn), .ref a16, .int (nI rfn), .ref a17, .ref a18, .ref a19, .int (nI ky), .ref a20, .ref a21, .int (nI rcn), .ref a22, .ref a23])), (a3, .inl (cI, 6, .inl rse)), (a8, .inl (cJ, 200, .inr (.inl rsn))), (a9, .inl (cI, 200, .inl rpa)), (a12, .inl (cZ, 200, .inl (upd cox ((FX9_payingOf rpn rse rsn rpa cox (dzy k) (rse kb.toNatClampNeg)).toNatClampNeg) (vp_nar .boolean 0)))), (a17, .inl (cJ, 1100, .inr (.inl dzy))), (a18, .inl (cI, 1100, .inl day)), (a19, .inl (cI, 1100, .inl dby))] := hD
        refine lv_iinc (v := nI (k + 1)) (lv' := [(6, .int (nI (k + 1))), (5, .int (nI rkn)), (4, .int (rse kb.toNatClampNeg)), (3, .int (rse ka.toNatClampNeg)), (0, .ref w0), (1, .int ka), (2, .int kb)]) hx hb dX9_join_174 hl (k := 0) rfl (nI_1 k) (by decide) rfl (fun ls hl => ?_)
        refine lv_goto (tgt := 146) hx hb dX9_join_177 (by decide) ?_
        exact ih (k + 1) (upd cox ((FX9_payingOf rpn rse rsn rpa cox (dzy k) (rse kb.toNatClampNeg)).toNatClampNeg) (vp_nar .boolean 0)) dzy day dby ky (by omega) (by omega) i_3 hs9 hE _ _ hP hD hS ls (lv_sub hl [0, 1, 2, 3, 4, 5, 6] rfl)
  refine lv_aload_n hx hb dX9_join_0 rfl (lv_at hl 0 rfl) ?_
  refine lv_iload_n hx hb dX9_join_1 rfl (lv_at hl 1 rfl) ?_
  refine mt_call0 (wr := [(a3, .inl (cI, 6, .inl rse)), (a8, .inl (cJ, 200, .inr (.inl rsn))), (a9, .inl (cI, 200, .inl rpa)), (a12, .inl (cZ, 200, .inl rco)), (a17, .inl (cJ, 1100, .inr (.inl rdz))), (a18, .inl (cI, 1100, .inl rdA)), (a19, .inl (cI, 1100, .inl rdB))]) (ws' := [(w0, .inr (9, [.ref a1, .ref a2, .int (nI rdn), .int ((FX9_isMachine rmn ka).2), .int (nI rmn), .ref a3, .ref a4, .ref a5, .ref a6, .ref a7, .ref a8, .ref a9, .ref a10, .ref a11, .ref a12, .ref a13, .int (nI rpn), .int rre, .ref a14, .ref a15, .int (nI rrn), .ref a16, .int (nI rfn), .ref a17, .ref a18, .ref a19, .int (nI rkn), .ref a20, .ref a21, .int (nI rcn), .ref a22, .ref a23])), (a3, .inl (cI, 6, .inl rse)), (a8, .inl (cJ, 200, .inr (.inl rsn))), (a9, .inl (cI, 200, .inl rpa)), (a12, .inl (cZ, 200, .inl rco)), (a17, .inl (cJ, 1100, .inr (.inl rdz))), (a18, .inl (cI, 1100, .inl rdA)), (a19, .inl (cI, 1100, .inl rdB))]) (st1 := [.int ((FX9_isMachine rmn ka).1)]) (va_runV (As := [.int ka]) (rest := []) ⟨hx, hb, hml, hown, hts⟩ (kX9_isMachine l D cI cJ cZ w0 a1 a2 a3 a4 a5 a6 a7 a8 a9 a10 a11 a12 a13 a14 a15 a16 a17 a18 a19 a20 a21 a22 a23 rdn rfa rmn rpn rre rrn rfn rkn rcn ka _) (cwV 1 hts gX9_join_X9_isMachine rfl rfl rfl (by decide +kernel) ⟨Nat.le_of_ble_eq_true rfl, Nat.le_of_ble_eq_true rfl⟩) ⟨mP_blind, va_recv hK hP (ci := 9) (q0 := 0) rfl rfl, mP_pre (hP.sub [0] rfl) (hD.sub [0] (by decide) rfl) hK hN⟩ rfl rfl hl.1 rfl (lv_room (Nat.le_of_ble_eq_true rfl)) dX9_join_2 ⟨Nat.zero_le _, Nat.zero_le _⟩) hP hD hS hA [0] [1, 2, 3, 4, 5, 6, 7] [7, 0, 1, 2, 3, 4, 5, 6] rfl rfl (by decide) (by decide) (by decide) rfl rfl (fun H locs hP hD hS => ?_)
  refine lv_if_eq (tgt := 16) hx hb dX9_join_5 (by decide) (fun c_1 => ?_) (fun c_1 => ?_)
  · rw [if_pos c_1] at hE
    refine lv_iconst (v := (-1)) hx hb dX9_join_16 (by decide) ?_
    subst hE
    exact W.iret hx hb hr (fun t ht hW => ⟨rfl, by rw [ht]; exact hP, hD, hS.F ht⟩) hS.2.2 dX9_join_17
  · rw [if_neg c_1] at hE
    refine lv_aload_n hx hb dX9_join_8 rfl (lv_at hl 0 rfl) ?_
    refine lv_iload_n hx hb dX9_join_9 rfl (lv_at hl 2 rfl) ?_
    refine mt_call0 (wr := [(a3, .inl (cI, 6, .inl rse)), (a8, .inl (cJ, 200, .inr (.inl rsn))), (a9, .inl (cI, 200, .inl rpa)), (a12, .inl (cZ, 200, .inl rco)), (a17, .inl (cJ, 1100, .inr (.inl rdz))), (a18, .inl (cI, 1100, .inl rdA)), (a19, .inl (cI, 1100, .inl rdB))]) (ws' := [(w0, .inr (9, [.ref a1, .ref a2, .int (nI rdn), .int ((FX9_isMachine rmn kb).2), .int (nI rmn), .ref a3, .ref a4, .ref a5, .ref a6, .ref a7, .ref a8, .ref a9, .ref a10, .ref a11, .ref a12, .ref a13, .int (nI rpn), .int rre, .ref a14, .ref a15, .int (nI rrn), .ref a16, .int (nI rfn), .ref a17, .ref a18, .ref a19, .int (nI rkn), .ref a20, .ref a21, .int (nI rcn), .ref a22, .ref a23])), (a3, .inl (cI, 6, .inl rse)), (a8, .inl (cJ, 200, .inr (.inl rsn))), (a9, .inl (cI, 200, .inl rpa)), (a12, .inl (cZ, 200, .inl rco)), (a17, .inl (cJ, 1100, .inr (.inl rdz))), (a18, .inl (cI, 1100, .inl rdA)), (a19, .inl (cI, 1100, .inl rdB))]) (st1 := [.int ((FX9_isMachine rmn kb).1)]) (va_runV (As := [.int kb]) (rest := []) ⟨hx, hb, hml, hown, hts⟩ (kX9_isMachine l D cI cJ cZ w0 a1 a2 a3 a4 a5 a6 a7 a8 a9 a10 a11 a12 a13 a14 a15 a16 a17 a18 a19 a20 a21 a22 a23 rdn ((FX9_isMachine rmn ka).2) rmn rpn rre rrn rfn rkn rcn kb _) (cwV 1 hts gX9_join_X9_isMachine rfl rfl rfl (by decide +kernel) ⟨Nat.le_of_ble_eq_true rfl, Nat.le_of_ble_eq_true rfl⟩) ⟨mP_blind, va_recv hK hP (ci := 9) (q0 := 0) rfl rfl, mP_pre (hP.sub [0] rfl) (hD.sub [0] (by decide) rfl) hK hN⟩ rfl rfl hl.1 rfl (lv_room (Nat.le_of_ble_eq_true rfl)) dX9_join_10 ⟨Nat.zero_le _, Nat.zero_le _⟩) hP hD hS hA [0] [1, 2, 3, 4, 5, 6, 7] [7, 0, 1, 2, 3, 4, 5, 6] rfl rfl (by decide) (by decide) (by decide) rfl rfl (fun H locs hP hD hS => ?_)
    refine lv_if_ne (tgt := 18) hx hb dX9_join_13 (by decide) (fun c_2 => ?_) (fun c_2 => ?_)
    · rw [if_neg c_2] at hE
      have hin : vp_in ka 6 := mach_in (rmn := rmn) (k := ka) (by assumption) hmn
      have hin2 : vp_in kb 6 := mach_in (rmn := rmn) (k := kb) (by assumption) hmn
      refine lv_aload_n hx hb dX9_join_18 rfl (lv_at hl 0 rfl) ?_
      refine va_get (D := D) (ci := 9) (v := .ref a3) (C := RX9) (T := TX9) (N := 32) hx hb hts iw_9 hown hK hP 0 rfl rfl 5 (by decide) (hts (.fieldLink RX9 16 "DepositCodesModel" "sets" "[I") (by decide +kernel)) (fun _ h9 => h9) rfl dX9_join_19 ?_
      refine lv_iload_n hx hb dX9_join_22 rfl (lv_at hl 1 rfl) ?_
      refine va_iald hx hb hK hP 1 0 rfl rfl (by assumption) dX9_join_23 ?_
      refine lv_istore_n (lv' := [(3, .int (rse ka.toNatClampNeg)), (0, .ref w0), (1, .int ka), (2, .int kb)]) hx hb dX9_join_24 rfl hl (by decide) rfl (fun ls hl => ?_)
      refine lv_aload_n hx hb dX9_join_25 rfl (lv_at hl 1 rfl) ?_
      refine va_get (D := D) (ci := 9) (v := .ref a3) (C := RX9) (T := TX9) (N := 32) hx hb hts iw_9 hown hK hP 0 rfl rfl 5 (by decide) (hts (.fieldLink RX9 16 "DepositCodesModel" "sets" "[I") (by decide +kernel)) (fun _ h9 => h9) rfl dX9_join_26 ?_
      refine lv_iload_n hx hb dX9_join_29 rfl (lv_at hl 3 rfl) ?_
      refine va_iald hx hb hK hP 1 0 rfl rfl (by assumption) dX9_join_30 ?_
      refine lv_istore (lv' := [(4, .int (rse kb.toNatClampNeg)), (3, .int (rse ka.toNatClampNeg)), (0, .ref w0), (1, .int ka), (2, .int kb)]) hx hb dX9_join_31 hl (by decide) rfl (fun ls hl => ?_)
      refine lv_iload_n hx hb dX9_join_33 rfl (lv_at hl 1 rfl) ?_
      refine lv_iload hx hb dX9_join_34 (lv_at hl 0 rfl) ?_
      refine lv_icmp_ne (tgt := 41) hx hb dX9_join_36 (by decide) (fun c_3 => ?_) (fun c_3 => ?_)
      · rw [if_neg c_3] at hE
        refine lv_aload_n hx hb dX9_join_41 rfl (lv_at hl 2 rfl) ?_
        refine va_get (D := D) (ci := 9) (v := .int (nI rkn)) (C := RX9) (T := TX9) (N := 32) hx hb hts iw_9 hown hK hP 0 rfl rfl 26 (by decide) (hts (.fieldLink RX9 170 "DepositCodesModel" "doubleCount" "I") (by decide +kernel)) (fun _ h9 => h9) rfl dX9_join_42 ?_
        refine lv_istore (lv' := [(5, .int (nI rkn)), (4, .int (rse kb.toNatClampNeg)), (3, .int (rse ka.toNatClampNeg)), (0, .ref w0), (1, .int ka), (2, .int kb)]) hx hb dX9_join_45 hl (by decide) rfl (fun ls hl => ?_)
        refine lv_iconst (v := 0) hx hb dX9_join_47 (by decide) ?_
        refine lv_istore (lv' := [(6, .int 0), (5, .int (nI rkn)), (4, .int (rse kb.toNatClampNeg)), (3, .int (rse ka.toNatClampNeg)), (0, .ref w0), (1, .int ka), (2, .int kb)]) hx hb dX9_join_48 hl (by decide) rfl (fun ls hl => ?_)
        have loop_50 : ∀ (n : Nat) (k : Nat) (dzx : Nat → Int64) (dax : Nat → Int32) (dbx : Nat → Int32) (kx : Nat), k ≤ rpn → k + n = rpn + 1 → kx ≤ rkn + k → ∀ R1 : Nat × (Nat → Int64) × (Nat → Int32) × (Nat → Int32) × Nat, FX9_join_l50 rpn rkn rse rsn rpa rco ka kb n k dzx dax dbx kx = R1 → ∀ (H : Heap) (locs : List Loc), va_P D vwCl [(w0, .inr (9, [.ref a1, .ref a2, .int (nI rdn), .int ((FX9_isMachine rmn kb).2), .int (nI rmn), .ref a3, .ref a4, .ref a5, .ref a6, .ref a7, .ref a8, .ref a9, .ref a10, .ref a11, .ref a12, .ref a13, .int (nI rpn), .int rre, .ref a14, .ref a15, .int (nI rrn), .ref a16, .int (nI rfn), .ref a17, .ref a18, .ref a19, .int (nI kx), .ref a20, .ref a21, .int (nI rcn), .ref a22, .ref a23])), (a3, .inl (cI, 6, .inl rse)), (a8, .inl (cJ, 200, .inr (.inl rsn))), (a9, .inl (cI, 200, .inl rpa)), (a12, .inl (cZ, 200, .inl rco)), (a17, .inl (cJ, 1100, .inr (.inl dzx))), (a18, .inl (cI, 1100, .inl dax)), (a19, .inl (cI, 1100, .inl dbx))] H → va_D A [(w0, .inr (9, [.ref a1, .ref a2, .int (nI rdn), .int ((FX9_isMachine rmn kb).2), .int (nI rmn), .ref a3, .ref a4, .ref a5, .ref a6, .ref a7, .ref a8, .ref a9, .ref a10, .ref a11, .ref a12, .ref a13, .int (nI rpn), .int rre, .ref a14, .ref a15, .int (nI rrn), .ref a16, .int (nI rfn), .ref a17, .ref a18, .ref a19, .int (nI kx), .ref a20, .ref a21, .int (nI rcn), .ref a22, .ref a23])), (a3, .inl (cI, 6, .inl rse)), (a8, .inl (cJ, 200, .inr (.inl rsn))), (a9, .inl (cI, 200, .inl rpa)), (a12, .inl (cZ, 200, .inl rco)), (a17, .inl (cJ, 1100, .inr (.inl dzx))), (a18, .inl (cI, 1100, .inl dax)), (a19, .inl (cI, 1100, .inl dbx))] → va_S A s.heap H locs → ∀ ls : Array Slot, lv_has ls 8 [(6, .int (nI k)), (5, .int (nI rkn)), (4, .int (rse kb.toNatClampNeg)), (3, .int (rse ka.toNatClampNeg)), (0, .ref w0), (1, .int ka), (2, .int kb)] → (∀ (H : Heap) (locs : List Loc), va_P D vwCl [(w0, .inr (9, [.ref a1, .ref a2, .int (nI rdn), .int ((FX9_isMachine rmn kb).2), .int (nI rmn), .ref a3, .ref a4, .ref a5, .ref a6, .ref a7, .ref a8, .ref a9, .ref a10, .ref a11, .ref a12, .ref a13, .int (nI rpn), .int rre, .ref a14, .ref a15, .int (nI rrn), .ref a16, .int (nI rfn), .ref a17, .ref a18, .ref a19, .int (nI R1.2.2.2.2), .ref a20, .ref a21, .int (nI rcn), .ref a22, .ref a23])), (a3, .inl (cI, 6, .inl rse)), (a8, .inl (cJ, 200, .inr (.inl rsn))), (a9, .inl (cI, 200, .inl rpa)), (a12, .inl (cZ, 200, .inl rco)), (a17, .inl (cJ, 1100, .inr (.inl R1.2.1))), (a18, .inl (cI, 1100, .inl R1.2.2.1)), (a19, .inl (cI, 1100, .inl R1.2.2.2.1))] H → va_D A [(w0, .inr (9, [.ref a1, .ref a2, .int (nI rdn), .int ((FX9_isMachine rmn kb).2), .int (nI rmn), .ref a3, .ref a4, .ref a5, .ref a6, .ref a7, .ref a8, .ref a9, .ref a10, .ref a11, .ref a12, .ref a13, .int (nI rpn), .int rre, .ref a14, .ref a15, .int (nI rrn), .ref a16, .int (nI rfn), .ref a17, .ref a18, .ref a19, .int (nI R1.2.2.2.2), .ref a20, .ref a21, .int (nI rcn), .ref a22, .ref a23])), (a3, .inl (cI, 6, .inl rse)), (a8, .inl (cJ, 200, .inr (.inl rsn))), (a9, .inl (cI, 200, .inl rpa)), (a12, .inl (cZ, 200, .inl rco)), (a17, .inl (cJ, 1100, .inr (.inl R1.2.1))), (a18, .inl (cI, 1100, .inl R1.2.2.1)), (a19, .inl (cI, 1100, .inl R1.2.2.2.1))] → va_S A s.heap H locs → ∀ ls : Array Slot, lv_has ls 8 [(6, .int (nI R1.1)), (5, .int (nI rkn)), (4, .int (rse kb.toNatClampNeg)), (3, .int (rse ka.toNatClampNeg)), (0, .ref w0), (1, .int ka), (2, .int kb)] → W p l e (headSpec wsX9_join ({ frames := 1, cells := 0, slots := 0, locals := 26 })).room s m ([.ref w0, .int ka, .int kb] : List Value).toArray below meth c H locs 0 0 (MQ below (mQ D (some (.int R0.1)) [(w0, .inr (9, [.ref a1, .ref a2, .int (nI rdn), .int R0.2.1, .int (nI rmn), .ref a3, .ref a4, .ref a5, .ref a6, .ref a7, .ref a8, .ref a9, .ref a10, .ref a11, .ref a12, .ref a13, .int (nI rpn), .int rre, .ref a14, .ref a15, .int (nI rrn), .ref a16, .int (nI rfn), .ref a17, .ref a18, .ref a19, .int (nI R0.2.2.2.2.2.2.2), .ref a20, .ref a21, .int (nI rcn), .ref a22, .ref a23])), (a3, .inl (cI, 6, .inl R0.2.2.1)), (a8, .inl (cJ, 200, .inr (.inl rsn))), (a9, .inl (cI, 200, .inl rpa)), (a12, .inl (cZ, 200, .inl R0.2.2.2.1)), (a17, .inl (cJ, 1100, .inr (.inl R0.2.2.2.2.1))), (a18, .inl (cI, 1100, .inl R0.2.2.2.2.2.1)), (a19, .inl (cI, 1100, .inl R0.2.2.2.2.2.2.1))] A) ([.ref w0, .int ka, .int kb] : List Value).toArray s 0 0 A) (F0 m 142 ls [])) → W p l e (headSpec wsX9_join ({ frames := 1, cells := 0, slots := 0, locals := 26 })).room s m ([.ref w0, .int ka, .int kb] : List Value).toArray below meth c H locs 0 0 (MQ below (mQ D (some (.int R0.1)) [(w0, .inr (9, [.ref a1, .ref a2, .int (nI rdn), .int R0.2.1, .int (nI rmn), .ref a3, .ref a4, .ref a5, .ref a6, .ref a7, .ref a8, .ref a9, .ref a10, .ref a11, .ref a12, .ref a13, .int (nI rpn), .int rre, .ref a14, .ref a15, .int (nI rrn), .ref a16, .int (nI rfn), .ref a17, .ref a18, .ref a19, .int (nI R0.2.2.2.2.2.2.2), .ref a20, .ref a21, .int (nI rcn), .ref a22, .ref a23])), (a3, .inl (cI, 6, .inl R0.2.2.1)), (a8, .inl (cJ, 200, .inr (.inl rsn))), (a9, .inl (cI, 200, .inl rpa)), (a12, .inl (cZ, 200, .inl R0.2.2.2.1)), (a17, .inl (cJ, 1100, .inr (.inl R0.2.2.2.2.1))), (a18, .inl (cI, 1100, .inl R0.2.2.2.2.2.1)), (a19, .inl (cI, 1100, .inl R0.2.2.2.2.2.2.1))] A) ([.ref w0, .int ka, .int kb] : List Value).toArray s 0 0 A) (F0 m 50 ls []) := by
          intro n
          induction n with
          | zero =>
            intro k dzx dax dbx kx j_1 j_2 j_3
            exact absurd j_1 (by omega)
          | succ n ih =>
            intro k dzx dax dbx kx j_1 j_2 j_3 R1 hE H locs hP hD hS ls hl hG
            rw [FX9_join_l50] at hE
            refine lv_iload hx hb dX9_join_50 (lv_at hl 0 rfl) ?_
            refine lv_aload_n hx hb dX9_join_52 rfl (lv_at hl 4 rfl) ?_
            refine va_get (D := D) (ci := 9) (v := .int (nI rpn)) (C := RX9) (T := TX9) (N := 32) hx hb hts iw_9 hown hK hP 0 rfl rfl 16 (by decide) (hts (.fieldLink RX9 140 "DepositCodesModel" "paid" "I") (by decide +kernel)) (fun _ h9 => h9) rfl dX9_join_53 ?_
            refine lv_icmp_ge (tgt := 142) hx hb dX9_join_56 (by decide) (fun c_4 => ?_) (fun c_4 => ?_)
            · have c_4 : rpn ≤ k := (nI_leI (a := rpn) (b := k) (by omega) (by omega)).mp c_4
              rw [if_pos c_4] at hE
              subst hE
              exact hG _ _ hP hD hS ls (lv_sub hl [0, 1, 2, 3, 4, 5, 6] rfl)
            · have c_4 : ¬ rpn ≤ k := fun h9 => c_4 ((nI_leI (a := rpn) (b := k) (by omega) (by omega)).mpr h9)
              rw [if_neg c_4] at hE
              refine lv_aload_n hx hb dX9_join_59 rfl (lv_at hl 4 rfl) ?_
              refine va_get (D := D) (ci := 9) (v := .ref a12) (C := RX9) (T := TX9) (N := 32) hx hb hts iw_9 hown hK hP 0 rfl rfl 14 (by decide) (hts (.fieldLink RX9 45 "DepositCodesModel" "counts" "[Z") (by decide +kernel)) (fun _ h9 => h9) rfl dX9_join_60 ?_
              refine lv_iload hx hb dX9_join_63 (lv_at hl 0 rfl) ?_
              refine na_zald hx hb hK hP 4 2 rfl rfl (by omega) (by decide) dX9_join_65 ?_
              refine lv_if_eq (tgt := 101) hx hb dX9_join_66 (by decide) (fun c_5 => ?_) (fun c_5 => ?_)
              · rw [if_pos c_5] at hE
                refine lv_iconst (v := (-1)) hx hb dX9_join_101 (by decide) ?_
                refine lv_istore (lv' := [(7, .int (-1)), (6, .int (nI k)), (5, .int (nI rkn)), (4, .int (rse kb.toNatClampNeg)), (3, .int (rse ka.toNatClampNeg)), (0, .ref w0), (1, .int ka), (2, .int kb)]) hx hb dX9_join_102 hl (by decide) rfl (fun ls hl => ?_)
                refine lv_iload hx hb dX9_join_104 (lv_at hl 0 rfl) ?_
                refine lv_if_lt (tgt := 136) hx hb dX9_join_106 (by decide) (fun c_6 => ?_) (fun c_6 => ?_)
                rotate_left
                · exact absurd c_6 (by decide)
                refine lv_iinc (v := nI (k + 1)) (lv' := [(6, .int (nI (k + 1))), (7, .int (-1)), (5, .int (nI rkn)), (4, .int (rse kb.toNatClampNeg)), (3, .int (rse ka.toNatClampNeg)), (0, .ref w0), (1, .int ka), (2, .int kb)]) hx hb dX9_join_136 hl (k := 1) rfl (nI_1 k) (by decide) rfl (fun ls hl => ?_)
                refine lv_goto (tgt := 50) hx hb dX9_join_139 (by decide) ?_
                exact ih (k + 1) dzx dax dbx kx (by omega) (by omega) (by first | omega | (rw [FX9_insert_n]; omega)) _ hE _ _ hP hD hS ls (lv_sub hl [0, 2, 3, 4, 5, 6, 7] rfl) hG
              · rw [if_neg c_5] at hE
                refine lv_aload_n hx hb dX9_join_69 rfl (lv_at hl 4 rfl) ?_
                refine va_get (D := D) (ci := 9) (v := .ref a3) (C := RX9) (T := TX9) (N := 32) hx hb hts iw_9 hown hK hP 0 rfl rfl 5 (by decide) (hts (.fieldLink RX9 16 "DepositCodesModel" "sets" "[I") (by decide +kernel)) (fun _ h9 => h9) rfl dX9_join_70 ?_
                refine lv_aload_n hx hb dX9_join_73 rfl (lv_at hl 4 rfl) ?_
                refine va_get (D := D) (ci := 9) (v := .ref a9) (C := RX9) (T := TX9) (N := 32) hx hb hts iw_9 hown hK hP 0 rfl rfl 11 (by decide) (hts (.fieldLink RX9 36 "DepositCodesModel" "payers" "[I") (by decide +kernel)) (fun _ h9 => h9) rfl dX9_join_74 ?_
                refine lv_iload hx hb dX9_join_77 (lv_at hl 0 rfl) ?_
                refine na_iald hx hb hK hP 3 0 rfl rfl (by omega) (by decide) dX9_join_79 ?_
                refine va_iald hx hb hK hP 1 0 rfl rfl (hpy k (by omega)) dX9_join_80 ?_
                refine lv_iload_n hx hb dX9_join_81 rfl (lv_at hl 3 rfl) ?_
                refine lv_icmp_ne (tgt := 101) hx hb dX9_join_82 (by decide) (fun c_7 => ?_) (fun c_7 => ?_)
                · rw [if_neg c_7] at hE
                  refine lv_iconst (v := (-1)) hx hb dX9_join_101 (by decide) ?_
                  refine lv_istore (lv' := [(7, .int (-1)), (6, .int (nI k)), (5, .int (nI rkn)), (4, .int (rse kb.toNatClampNeg)), (3, .int (rse ka.toNatClampNeg)), (0, .ref w0), (1, .int ka), (2, .int kb)]) hx hb dX9_join_102 hl (by decide) rfl (fun ls hl => ?_)
                  refine lv_iload hx hb dX9_join_104 (lv_at hl 0 rfl) ?_
                  refine lv_if_lt (tgt := 136) hx hb dX9_join_106 (by decide) (fun c_8 => ?_) (fun c_8 => ?_)
                  rotate_left
                  · exact absurd c_8 (by decide)
                  refine lv_iinc (v := nI (k + 1)) (lv' := [(6, .int (nI (k + 1))), (7, .int (-1)), (5, .int (nI rkn)), (4, .int (rse kb.toNatClampNeg)), (3, .int (rse ka.toNatClampNeg)), (0, .ref w0), (1, .int ka), (2, .int kb)]) hx hb dX9_join_136 hl (k := 1) rfl (nI_1 k) (by decide) rfl (fun ls hl => ?_)
                  refine lv_goto (tgt := 50) hx hb dX9_join_139 (by decide) ?_
                  exact ih (k + 1) dzx dax dbx kx (by omega) (by omega) (by first | omega | (rw [FX9_insert_n]; omega)) _ hE _ _ hP hD hS ls (lv_sub hl [0, 2, 3, 4, 5, 6, 7] rfl) hG
                · rw [if_pos c_7] at hE
                  refine lv_aload_n hx hb dX9_join_85 rfl (lv_at hl 4 rfl) ?_
                  refine lv_aload_n hx hb dX9_join_86 rfl (lv_at hl 4 rfl) ?_
                  refine va_get (D := D) (ci := 9) (v := .ref a8) (C := RX9) (T := TX9) (N := 32) hx hb hts iw_9 hown hK hP 0 rfl rfl 10 (by decide) (hts (.fieldLink RX9 32 "DepositCodesModel" "serials" "[J") (by decide +kernel)) (fun _ h9 => h9) rfl dX9_join_87 ?_
                  refine lv_iload hx hb dX9_join_90 (lv_at hl 0 rfl) ?_
                  refine na_lald hx hb hK hP 2 1 rfl rfl (by omega) (by decide) dX9_join_92 ?_
                  refine lv_iload hx hb dX9_join_93 (lv_at hl 2 rfl) ?_
                  refine rd_call (va_runV (As := [.long (rsn k), .int (rse kb.toNatClampNeg)]) (rest := []) ⟨hx, hb, hml, hown, hts⟩ (kX9_payingOf l D cI cJ cZ w0 a1 a2 a3 a4 a5 a6 a7 a8 a9 a10 a11 a12 a13 a14 a15 a16 a17 a18 a19 a20 a21 a22 a23 rdn ((FX9_isMachine rmn kb).2) rmn rpn rre rrn rfn kx rcn rse rsn rpa rco (rsn k) (rse kb.toNatClampNeg) (by first | assumption | omega) (by first | assumption | omega)) (cwV 2 hts gX9_join_X9_payingOf rfl rfl rfl (by decide +kernel) ⟨Nat.le_of_ble_eq_true rfl, Nat.le_of_ble_eq_true rfl⟩) ⟨rP_blind, va_recv hK hP (ci := 9) (q0 := 0) rfl rfl, rP_pre (hP.sub [0, 1, 2, 3, 4] rfl) hK hN⟩ rfl rfl hl.1 rfl (lv_room (Nat.le_of_ble_eq_true rfl)) dX9_join_95 ⟨Nat.zero_le _, Nat.zero_le _⟩) ?_
                  refine lv_goto (tgt := 102) hx hb dX9_join_98 (by decide) ?_
                  refine lv_istore (lv' := [(7, .int (FX9_payingOf rpn rse rsn rpa rco (rsn k) (rse kb.toNatClampNeg))), (6, .int (nI k)), (5, .int (nI rkn)), (4, .int (rse kb.toNatClampNeg)), (3, .int (rse ka.toNatClampNeg)), (0, .ref w0), (1, .int ka), (2, .int kb)]) hx hb dX9_join_102 hl (by decide) rfl (fun ls hl => ?_)
                  refine lv_iload hx hb dX9_join_104 (lv_at hl 0 rfl) ?_
                  refine lv_if_lt (tgt := 136) hx hb dX9_join_106 (by decide) (fun c_9 => ?_) (fun c_9 => ?_)
                  · rw [if_pos c_9] at hE
                    refine lv_iinc (v := nI (k + 1)) (lv' := [(6, .int (nI (k + 1))), (7, .int (FX9_payingOf rpn rse rsn rpa rco (rsn k) (rse kb.toNatClampNeg))), (5, .int (nI rkn)), (4, .int (rse kb.toNatClampNeg)), (3, .int (rse ka.toNatClampNeg)), (0, .ref w0), (1, .int ka), (2, .int kb)]) hx hb dX9_join_136 hl (k := 1) rfl (nI_1 k) (by decide) rfl (fun ls hl => ?_)
                    refine lv_goto (tgt := 50) hx hb dX9_join_139 (by decide) ?_
                    exact ih (k + 1) dzx dax dbx kx (by omega) (by omega) (by first | omega | (rw [FX9_insert_n]; omega)) _ hE _ _ hP hD hS ls (lv_sub hl [0, 2, 3, 4, 5, 6, 7] rfl) hG
                  · rw [if_neg c_9] at hE
                    refine lv_aload_n hx hb dX9_join_109 rfl (lv_at hl 5 rfl) ?_
                    refine lv_iload hx hb dX9_join_110 (lv_at hl 2 rfl) ?_
                    refine lv_aload_n hx hb dX9_join_112 rfl (lv_at hl 5 rfl) ?_
                    refine va_get (D := D) (ci := 9) (v := .ref a8) (C := RX9) (T := TX9) (N := 32) hx hb hts iw_9 hown hK hP 0 rfl rfl 10 (by decide) (hts (.fieldLink RX9 32 "DepositCodesModel" "serials" "[J") (by decide +kernel)) (fun _ h9 => h9) rfl dX9_join_113 ?_
                    refine lv_iload hx hb dX9_join_116 (lv_at hl 1 rfl) ?_
                    refine na_lald hx hb hK hP 2 1 rfl rfl (by omega) (by decide) dX9_join_118 ?_
                    refine lv_aload_n hx hb dX9_join_119 rfl (lv_at hl 5 rfl) ?_
                    refine va_get (D := D) (ci := 9) (v := .ref a9) (C := RX9) (T := TX9) (N := 32) hx hb hts iw_9 hown hK hP 0 rfl rfl 11 (by decide) (hts (.fieldLink RX9 36 "DepositCodesModel" "payers" "[I") (by decide +kernel)) (fun _ h9 => h9) rfl dX9_join_120 ?_
                    refine lv_iload hx hb dX9_join_123 (lv_at hl 1 rfl) ?_
                    refine na_iald hx hb hK hP 3 0 rfl rfl (by omega) (by decide) dX9_join_125 ?_
                    refine lv_aload_n hx hb dX9_join_126 rfl (lv_at hl 5 rfl) ?_
                    refine va_get (D := D) (ci := 9) (v := .ref a9) (C := RX9) (T := TX9) (N := 32) hx hb hts iw_9 hown hK hP 0 rfl rfl 11 (by decide) (hts (.fieldLink RX9 36 "DepositCodesModel" "payers" "[I") (by decide +kernel)) (fun _ h9 => h9) rfl dX9_join_127 ?_
                    refine lv_iload hx hb dX9_join_130 (lv_at hl 0 rfl) ?_
                    refine va_iald hx hb hK hP 3 0 rfl rfl (FX9_payingOf_in hpn (by assumption)) dX9_join_132 ?_
                    refine mt_call0 (wr := [(a3, .inl (cI, 6, .inl rse)), (a8, .inl (cJ, 200, .inr (.inl rsn))), (a9, .inl (cI, 200, .inl rpa)), (a12, .inl (cZ, 200, .inl rco))]) (ws' := [(w0, .inr (9, [.ref a1, .ref a2, .int (nI rdn), .int ((FX9_isMachine rmn kb).2), .int (nI rmn), .ref a3, .ref a4, .ref a5, .ref a6, .ref a7, .ref a8, .ref a9, .ref a10, .ref a11, .ref a12, .ref a13, .int (nI rpn), .int rre, .ref a14, .ref a15, .int (nI rrn), .ref a16, .int (nI rfn), .ref a17, .ref a18, .ref a19, .int (nI ((FX9_insert kx dzx dax dbx rkn (rsn k) (rpa k) (rpa ((FX9_payingOf rpn rse rsn rpa rco (rsn k) (rse kb.toNatClampNeg)).toNatClampNeg))).2.2.2)), .ref a20, .ref a21, .int (nI rcn), .ref a22, .ref a23])), (a3, .inl (cI, 6, .inl rse)), (a8, .inl (cJ, 200, .inr (.inl rsn))), (a9, .inl (cI, 200, .inl rpa)), (a12, .inl (cZ, 200, .inl rco)), (a17, .inl (cJ, 1100, .inr (.inl ((FX9_insert kx dzx dax dbx rkn (rsn k) (rpa k) (rpa ((FX9_payingOf rpn rse rsn rpa rco (rsn k) (rse kb.toNatClampNeg)).toNatClampNeg))).1)))), (a18, .inl (cI, 1100, .inl ((FX9_insert kx dzx dax dbx rkn (rsn k) (rpa k) (rpa ((FX9_payingOf rpn rse rsn rpa rco (rsn k) (rse kb.toNatClampNeg)).toNatClampNeg))).2.1))), (a19, .inl (cI, 1100, .inl ((FX9_insert kx dzx dax dbx rkn (rsn k) (rpa k) (rpa ((FX9_payingOf rpn rse rsn rpa rco (rsn k) (rse kb.toNatClampNeg)).toNatClampNeg))).2.2.1)))]) (st1 := []) (va_runV (As := [.int (nI rkn), .long (rsn k), .int (rpa k), .int (rpa ((FX9_payingOf rpn rse rsn rpa rco (rsn k) (rse kb.toNatClampNeg)).toNatClampNeg))]) (rest := []) ⟨hx, hb, hml, hown, hts⟩ (kX9_insert l D cI cJ cZ w0 a1 a2 a3 a4 a5 a6 a7 a8 a9 a10 a11 a12 a13 a14 a15 a16 a17 a18 a19 a20 a21 a22 a23 rdn ((FX9_isMachine rmn kb).2) rmn rpn rre rrn rfn kx rcn dzx dax dbx rkn (rsn k) (rpa k) (rpa ((FX9_payingOf rpn rse rsn rpa rco (rsn k) (rse kb.toNatClampNeg)).toNatClampNeg)) _ (by first | assumption | omega) (by first | assumption | omega)) (cwV 4 hts gX9_join_X9_insert rfl rfl rfl (by decide +kernel) ⟨Nat.le_of_ble_eq_true rfl, Nat.le_of_ble_eq_true rfl⟩) ⟨mP_blind, va_recv hK hP (ci := 9) (q0 := 0) rfl rfl, mP_pre (hP.sub [0, 5, 6, 7] rfl) (hD.sub [0, 5, 6, 7] (by decide) rfl) hK hN⟩ rfl rfl hl.1 rfl (lv_room (Nat.le_of_ble_eq_true rfl)) dX9_join_133 ⟨Nat.zero_le _, Nat.zero_le _⟩) hP hD hS hA [0, 5, 6, 7] [1, 2, 3, 4] [4, 0, 1, 2, 3, 5, 6, 7] rfl rfl (by decide) (by decide) (by decide) rfl rfl (fun H locs hP hD hS => ?_)
                    refine lv_iinc (v := nI (k + 1)) (lv' := [(6, .int (nI (k + 1))), (7, .int (FX9_payingOf rpn rse rsn rpa rco (rsn k) (rse kb.toNatClampNeg))), (5, .int (nI rkn)), (4, .int (rse kb.toNatClampNeg)), (3, .int (rse ka.toNatClampNeg)), (0, .ref w0), (1, .int ka), (2, .int kb)]) hx hb dX9_join_136 hl (k := 1) rfl (nI_1 k) (by decide) rfl (fun ls hl => ?_)
                    refine lv_goto (tgt := 50) hx hb dX9_join_139 (by decide) ?_
                    exact ih (k + 1) ((FX9_insert kx dzx dax dbx rkn (rsn k) (rpa k) (rpa ((FX9_payingOf rpn rse rsn rpa rco (rsn k) (rse kb.toNatClampNeg)).toNatClampNeg))).1) ((FX9_insert kx dzx dax dbx rkn (rsn k) (rpa k) (rpa ((FX9_payingOf rpn rse rsn rpa rco (rsn k) (rse kb.toNatClampNeg)).toNatClampNeg))).2.1) ((FX9_insert kx dzx dax dbx rkn (rsn k) (rpa k) (rpa ((FX9_payingOf rpn rse rsn rpa rco (rsn k) (rse kb.toNatClampNeg)).toNatClampNeg))).2.2.1) ((FX9_insert kx dzx dax dbx rkn (rsn k) (rpa k) (rpa ((FX9_payingOf rpn rse rsn rpa rco (rsn k) (rse kb.toNatClampNeg)).toNatClampNeg))).2.2.2) (by omega) (by omega) (by first | omega | (rw [FX9_insert_n]; omega)) _ hE _ _ hP hD hS ls (lv_sub hl [0, 2, 3, 4, 5, 6, 7] rfl) hG
        refine loop_50 (rpn + 1) 0 rdz rdA rdB rkn (by omega) (by omega) (by omega) _ rfl _ _ hP hD hS ls (lv_sub hl [0, 1, 2, 3, 4, 5, 6] rfl) (fun H locs hP hD hS ls hl => ?_)
        have hk5 := FX9_join_l50_le rpn rkn rse rsn rpa rco ka kb (rpn + 1) 0 rdz rdA rdB rkn (by omega) (by omega) (by omega)
        refine lv_iload hx hb dX9_join_142 (lv_at hl 1 rfl) ?_
        refine lv_istore (lv' := [(6, .int (nI rkn)), (5, .int (nI rkn)), (4, .int (rse kb.toNatClampNeg)), (3, .int (rse ka.toNatClampNeg)), (0, .ref w0), (1, .int ka), (2, .int kb)]) hx hb dX9_join_144 hl (by decide) rfl (fun ls hl => ?_)
        exact loop_146 601 rkn rco ((FX9_join_l50 rpn rkn rse rsn rpa rco ka kb (rpn + 1) 0 rdz rdA rdB rkn).2.1) ((FX9_join_l50 rpn rkn rse rsn rpa rco ka kb (rpn + 1) 0 rdz rdA rdB rkn).2.2.1) ((FX9_join_l50 rpn rkn rse rsn rpa rco ka kb (rpn + 1) 0 rdz rdA rdB rkn).2.2.2.1) ((FX9_join_l50 rpn rkn rse rsn rpa rco ka kb (rpn + 1) 0 rdz rdA rdB rkn).2.2.2.2) (by omega) (by omega) (by omega) hsj hE _ _ hP hD hS ls (lv_sub hl [0, 1, 2, 3, 4, 5, 6] rfl)
      · rw [if_pos c_3] at hE
        refine lv_iconst (v := 0) hx hb dX9_join_39 (by decide) ?_
        subst hE
        exact W.iret hx hb hr (fun t ht hW => ⟨rfl, by rw [ht]; exact hP, hD, hS.F ht⟩) hS.2.2 dX9_join_40
    · rw [if_pos c_2] at hE
      refine lv_iconst (v := (-1)) hx hb dX9_join_16 (by decide) ?_
      subst hE
      exact W.iret hx hb hr (fun t ht hW => ⟨rfl, by rw [ht]; exact hP, hD, hS.F ht⟩) hS.2.2 dX9_join_17
