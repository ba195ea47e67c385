theorem sw_out22 {x : Int32} (h0 : ¬ x = 0) (h1 : ¬ x = 1) (h2 : ¬ x = 2) (h3 : ¬ x = 3) (h4 : ¬ x = 4) (h5 : ¬ x = 5) (h6 : ¬ x = 6) (h7 : ¬ x = 7) (h8 : ¬ x = 8) (h9 : ¬ x = 9) (h10 : ¬ x = 10) (h11 : ¬ x = 11) (h12 : ¬ x = 12) (h13 : ¬ x = 13) (h14 : ¬ x = 14) (h15 : ¬ x = 15) (h16 : ¬ x = 16) (h17 : ¬ x = 17) (h18 : ¬ x = 18) (h19 : ¬ x = 19) (h20 : ¬ x = 20) (h21 : ¬ x = 21) : x.toInt < 0 ∨ 21 < x.toInt := by
  have a0 : x.toInt ≠ 0 := fun h => h0 (Int32.toInt_inj.mp h)
  have a1 : x.toInt ≠ 1 := fun h => h1 (Int32.toInt_inj.mp h)
  have a2 : x.toInt ≠ 2 := fun h => h2 (Int32.toInt_inj.mp h)
  have a3 : x.toInt ≠ 3 := fun h => h3 (Int32.toInt_inj.mp h)
  have a4 : x.toInt ≠ 4 := fun h => h4 (Int32.toInt_inj.mp h)
  have a5 : x.toInt ≠ 5 := fun h => h5 (Int32.toInt_inj.mp h)
  have a6 : x.toInt ≠ 6 := fun h => h6 (Int32.toInt_inj.mp h)
  have a7 : x.toInt ≠ 7 := fun h => h7 (Int32.toInt_inj.mp h)
  have a8 : x.toInt ≠ 8 := fun h => h8 (Int32.toInt_inj.mp h)
  have a9 : x.toInt ≠ 9 := fun h => h9 (Int32.toInt_inj.mp h)
  have a10 : x.toInt ≠ 10 := fun h => h10 (Int32.toInt_inj.mp h)
  have a11 : x.toInt ≠ 11 := fun h => h11 (Int32.toInt_inj.mp h)
  have a12 : x.toInt ≠ 12 := fun h => h12 (Int32.toInt_inj.mp h)
  have a13 : x.toInt ≠ 13 := fun h => h13 (Int32.toInt_inj.mp h)
  have a14 : x.toInt ≠ 14 := fun h => h14 (Int32.toInt_inj.mp h)
  have a15 : x.toInt ≠ 15 := fun h => h15 (Int32.toInt_inj.mp h)
  have a16 : x.toInt ≠ 16 := fun h => h16 (Int32.toInt_inj.mp h)
  have a17 : x.toInt ≠ 17 := fun h => h17 (Int32.toInt_inj.mp h)
  have a18 : x.toInt ≠ 18 := fun h => h18 (Int32.toInt_inj.mp h)
  have a19 : x.toInt ≠ 19 := fun h => h19 (Int32.toInt_inj.mp h)
  have a20 : x.toInt ≠ 20 := fun h => h20 (Int32.toInt_inj.mp h)
  have a21 : x.toInt ≠ 21 := fun h => h21 (Int32.toInt_inj.mp h)
  omega
theorem head_le {L nc : Nat} (hL : L ≤ 4096) (h8 : 8 * nc ≤ L) (h : ¬ Int32.ofNat L - 8 < nI (8 * nc)) : 8 * nc + 8 ≤ L := by
  have e1 : (Int32.ofNat L - 8).toInt = (L : Int) - 8 := by
    have e2 : (nI L).toInt = (L : Int) := nI_toInt (by omega)
    have e3 : (8 : Int32).toInt = 8 := rfl
    show (nI L - 8).toInt = _
    rw [Int32.toInt_sub, e2, e3, Int.bmod_def]
    omega
  rw [Int32.lt_iff_toInt_lt, e1, nI_toInt (by omega)] at h
  omega
set_option maxHeartbeats 8000000 in
set_option maxRecDepth 100000 in
theorem law_loop (l : Launch) (hnt : l.stackTraces = false) {p : Program} {e : Env} {s : State} {m : MethodId} {below : List Frame} {meth : Method} {c : Code} {b L : Nat} {xs : Nat → Int32} {D : va_G} {cI cJ cZ : ClassId} {A : Nat → Prop} {q0 r0 qo : Nat} (hC : LC p s m c b L xs D cI cJ cZ A) (hA2 : ∀ q : Nat, A q → s.heap.size ≤ q) (hr : meth.sig.returnType = ret) (hlocks : meth.locks = false) : ∀ (n nc : Nat), nc + n = 513 → 8 * nc ≤ L → ∀ (qb b1 b2 qm m1 m2 m3 m4 qp p1 p2 p3 qy y1 y2 y3 y4 y5 y6 qd d1 d2 d3 qc c1 c2 c3 qf f1 qv a1 a2 a3 a4 a5 a6 a7 a8 a9 a10 a11 a12 a13 a14 a15 a16 a17 a18 a19 a20 a21 a22 a23 : Nat) (lr : Int32) (bn : Nat) (bw : Nat → Int32) (bd : Nat → Int32) (mn : Nat) (mf : Nat → Int32) (mp : Nat → Int32) (ms : Nat → Int32) (mu : Nat → Int32) (pt : Nat → Int32) (pl : Nat → Int32) (pm : Nat → Int32) (yn : Nat) (ys : Nat → Int64) (yp : Nat → Int32) (yt : Nat → Int32) (yh : Nat → Int32) (ym : Nat → Int32) (yr : Nat → Int32) (dn : Nat) (dz : Nat → Int64) (da : Nat → Int32) (db : Nat → Int32) (cn : Nat) (ca : Nat → Int32) (cr : Nat → Int32) (cs : Nat → Int64) (fn : Nat) (fp : Nat → Int32) (vb : Nat → Int64) (rfa : Int32) (rrn : Nat) (rd : Nat → Int32) (rda : Nat → Int32) (rle : Nat → Int32) (rmt : Nat → Int64) (rco : Nat → Int32) (rpr : Nat → Int32) (rrf : Nat → Int64) (rof : Nat → Int32) (fo : Nat → Int64) (H : Heap) (locs : List Loc) (ls : Array Slot), LV bw bd rd bn mp ms mu rda mn pt pl rle ys rmt rrf yp yt ym yr rco rpr rof yn dz dn cn rrn fn nc → va_P D vwCl [(q0, .inr (8, [.ref qb, .ref qm, .ref qp, .ref qy, .ref qd, .ref qc, .ref qf, .ref qv, .int lr])), (qb, .inr (1, [.ref b1, .ref b2, .int (nI bn)])), (b1, .inl (cI, 64, .inl bw)), (b2, .inl (cI, 14, .inl bd)), (qm, .inr (5, [.ref m1, .ref m2, .ref m3, .ref m4, .int (nI mn)])), (m1, .inl (cZ, 6, .inl mf)), (m2, .inl (cZ, 6, .inl mp)), (m3, .inl (cI, 6, .inl ms)), (m4, .inl (cI, 6, .inl mu)), (qp, .inr (7, [.ref p1, .ref p2, .ref p3])), (p1, .inl (cZ, 8, .inl pt)), (p2, .inl (cI, 8, .inl pl)), (p3, .inl (cI, 8, .inl pm)), (qy, .inr (6, [.ref y1, .ref y2, .ref y3, .ref y4, .ref y5, .ref y6, .int (nI yn)])), (y1, .inl (cJ, 200, .inr (.inl ys))), (y2, .inl (cI, 200, .inl yp)), (y3, .inl (cI, 200, .inl yt)), (y4, .inl (cI, 200, .inl yh)), (y5, .inl (cI, 200, .inl ym)), (y6, .inl (cI, 200, .inl yr)), (qd, .inr (3, [.ref d1, .ref d2, .ref d3, .int (nI dn)])), (d1, .inl (cJ, 200, .inr (.inl dz))), (d2, .inl (cI, 200, .inl da)), (d3, .inl (cI, 200, .inl db)), (qc, .inr (2, [.ref c1, .ref c2, .ref c3, .int (nI cn)])), (c1, .inl (cI, 200, .inl ca)), (c2, .inl (cZ, 200, .inl cr)), (c3, .inl (cJ, 100, .inr (.inl cs))), (qf, .inr (4, [.ref f1, .int (nI fn)])), (f1, .inl (cI, 170, .inl fp)), (qv, .inl (cJ, 3, .inr (.inl vb))), (r0, .inr (9, [.ref a1, .ref a2, .int (nI bn), .int rfa, .int (nI mn), .ref a3, .ref a4, .ref a5, .ref a6, .ref a7, .ref a8, .ref a9, .ref a10, .ref a11, .ref a12, .ref a13, .int (nI yn), .int lr, .ref a14, .ref a15, .int (nI rrn), .ref a16, .int (nI fn), .ref a17, .ref a18, .ref a19, .int (nI dn), .ref a20, .ref a21, .int (nI cn), .ref a22, .ref a23])), (a1, .inl (cI, 64, .inl bw)), (a2, .inl (cI, 16, .inl rd)), (a3, .inl (cI, 6, .inl ms)), (a4, .inl (cZ, 6, .inl mf)), (a5, .inl (cZ, 6, .inl rda)), (a6, .inl (cI, 8, .inl rle)), (a7, .inl (cI, 8, .inl pm)), (a8, .inl (cJ, 200, .inr (.inl ys))), (a9, .inl (cI, 200, .inl yp)), (a10, .inl (cI, 200, .inl yh)), (a11, .inl (cJ, 200, .inr (.inl rmt))), (a12, .inl (cZ, 200, .inl rco)), (a13, .inl (cZ, 200, .inl rpr)), (a14, .inl (cJ, 1100, .inr (.inl rrf))), (a15, .inl (cI, 1100, .inl rof)), (a16, .inl (cI, 1100, .inl fp)), (a17, .inl (cJ, 1100, .inr (.inl dz))), (a18, .inl (cI, 1100, .inl da)), (a19, .inl (cI, 1100, .inl db)), (a20, .inl (cI, 1100, .inl ca)), (a21, .inl (cZ, 1100, .inl cr)), (a22, .inl (cJ, 100, .inr (.inl cs))), (a23, .inl (cJ, 3, .inr (.inl vb))), (qo, .inl (cJ, 1, .inr (.inl fo)))] H → va_D A [(q0, .inr (8, [.ref qb, .ref qm, .ref qp, .ref qy, .ref qd, .ref qc, .ref qf, .ref qv, .int lr])), (qb, .inr (1, [.ref b1, .ref b2, .int (nI bn)])), (b1, .inl (cI, 64, .inl bw)), (b2, .inl (cI, 14, .inl bd)), (qm, .inr (5, [.ref m1, .ref m2, .ref m3, .ref m4, .int (nI mn)])), (m1, .inl (cZ, 6, .inl mf)), (m2, .inl (cZ, 6, .inl mp)), (m3, .inl (cI, 6, .inl ms)), (m4, .inl (cI, 6, .inl mu)), (qp, .inr (7, [.ref p1, .ref p2, .ref p3])), (p1, .inl (cZ, 8, .inl pt)), (p2, .inl (cI, 8, .inl pl)), (p3, .inl (cI, 8, .inl pm)), (qy, .inr (6, [.ref y1, .ref y2, .ref y3, .ref y4, .ref y5, .ref y6, .int (nI yn)])), (y1, .inl (cJ, 200, .inr (.inl ys))), (y2, .inl (cI, 200, .inl yp)), (y3, .inl (cI, 200, .inl yt)), (y4, .inl (cI, 200, .inl yh)), (y5, .inl (cI, 200, .inl ym)), (y6, .inl (cI, 200, .inl yr)), (qd, .inr (3, [.ref d1, .ref d2, .ref d3, .int (nI dn)])), (d1, .inl (cJ, 200, .inr (.inl dz))), (d2, .inl (cI, 200, .inl da)), (d3, .inl (cI, 200, .inl db)), (qc, .inr (2, [.ref c1, .ref c2, .ref c3, .int (nI cn)])), (c1, .inl (cI, 200, .inl ca)), (c2, .inl (cZ, 200, .inl cr)), (c3, .inl (cJ, 100, .inr (.inl cs))), (qf, .inr (4, [.ref f1, .int (nI fn)])), (f1, .inl (cI, 170, .inl fp)), (qv, .inl (cJ, 3, .inr (.inl vb))), (r0, .inr (9, [.ref a1, .ref a2, .int (nI bn), .int rfa, .int (nI mn), .ref a3, .ref a4, .ref a5, .ref a6, .ref a7, .ref a8, .ref a9, .ref a10, .ref a11, .ref a12, .ref a13, .int (nI yn), .int lr, .ref a14, .ref a15, .int (nI rrn), .ref a16, .int (nI fn), .ref a17, .ref a18, .ref a19, .int (nI dn), .ref a20, .ref a21, .int (nI cn), .ref a22, .ref a23])), (a1, .inl (cI, 64, .inl bw)), (a2, .inl (cI, 16, .inl rd)), (a3, .inl (cI, 6, .inl ms)), (a4, .inl (cZ, 6, .inl mf)), (a5, .inl (cZ, 6, .inl rda)), (a6, .inl (cI, 8, .inl rle)), (a7, .inl (cI, 8, .inl pm)), (a8, .inl (cJ, 200, .inr (.inl ys))), (a9, .inl (cI, 200, .inl yp)), (a10, .inl (cI, 200, .inl yh)), (a11, .inl (cJ, 200, .inr (.inl rmt))), (a12, .inl (cZ, 200, .inl rco)), (a13, .inl (cZ, 200, .inl rpr)), (a14, .inl (cJ, 1100, .inr (.inl rrf))), (a15, .inl (cI, 1100, .inl rof)), (a16, .inl (cI, 1100, .inl fp)), (a17, .inl (cJ, 1100, .inr (.inl dz))), (a18, .inl (cI, 1100, .inl da)), (a19, .inl (cI, 1100, .inl db)), (a20, .inl (cI, 1100, .inl ca)), (a21, .inl (cZ, 1100, .inl cr)), (a22, .inl (cJ, 100, .inr (.inl cs))), (a23, .inl (cJ, 3, .inr (.inl vb))), (qo, .inl (cJ, 1, .inr (.inl fo)))] → va_S A s.heap H locs → lv_has ls 7 [(4, .int (nI (8 * nc))), (0, .ref b), (1, .ref q0), (2, .ref r0), (3, .ref qo)] → W p l e room_1 s m #[Value.ref b] below meth c H locs (56 + nc) (12886 + 6 * nc) (lw_Z below #[Value.ref b] s) (F0 m 23 ls []) := by
  intro n
  induction n with
  | zero => intro nc h1 h2; exact absurd h2 (by have := hC.2.2.2.2.2.2.2.2.2.2.2.2.2.2; omega)
  | succ n ih =>
    intro nc h1 h8 qb b1 b2 qm m1 m2 m3 m4 qp p1 p2 p3 qy y1 y2 y3 y4 y5 y6 qd d1 d2 d3 qc c1 c2 c3 qf f1 qv a1 a2 a3 a4 a5 a6 a7 a8 a9 a10 a11 a12 a13 a14 a15 a16 a17 a18 a19 a20 a21 a22 a23 lr bn bw bd mn mf mp ms mu pt pl pm yn ys yp yt yh ym yr dn dz da db cn ca cr cs fn fp vb rfa rrn rd rda rle rmt rco rpr rrf rof fo H locs ls hV hP hD hS hl
    obtain ⟨hx, hb, hml, hown, htb, hts, hX, hbl, hbA, hK, hN, hZA, hZT, hA, hL⟩ := id hC
    refine lv_iload hx hb dL_law_23 (lv_at hl 0 rfl) ?_
    refine lv_aload_n hx hb dL_law_25 rfl (lv_at hl 1 rfl) ?_
    refine va_slen hx hb hX hbl hbA hS dL_law_26 ?_
    refine lv_bipush (v := 8) hx hb dL_law_27 (by decide) ?_
    refine lv_isub hx hb dL_law_29 ?_
    refine lv_icmp_gt (tgt := 1152) hx hb dL_law_30 (by decide) (fun c_1 => ?_) (fun c_1 => ?_)
    · refine lv_iconst (v := 1) hx hb dL_law_1152 (by decide) ?_
      refine va_forget (fun q hq => hA2 _ (hS.2.2 q hq)) ?_
      refine W.widen (k := 1081) (n := 21084) (by omega) (by omega) ?_
      exact lw_ret hx hb hr hlocks dL_law_1153
    · have hn := head_le hL h8 c_1
      have KK : LK p l e s m below meth c b D cI cJ cZ A q0 r0 qo nc (lw_Z below #[Value.ref b] s) := by
        intro qb b1 b2 qm m1 m2 m3 m4 qp p1 p2 p3 qy y1 y2 y3 y4 y5 y6 qd d1 d2 d3 qc c1 c2 c3 qf f1 qv a1 a2 a3 a4 a5 a6 a7 a8 a9 a10 a11 a12 a13 a14 a15 a16 a17 a18 a19 a20 a21 a22 a23 lr bn bw bd mn mf mp ms mu pt pl pm yn ys yp yt yh ym yr dn dz da db cn ca cr cs fn fp vb rfa rrn rd rda rle rmt rco rpr rrf rof fo H locs ls hV hP hD hS hl
        refine lv_iinc (v := nI ((8 * nc) + 8)) (lv' := [(4, .int (nI ((8 * nc) + 8))), (0, .ref b), (1, .ref q0), (2, .ref r0), (3, .ref qo)]) hx hb dL_law_1146 hl (k := 0) rfl (nI_add (8 * nc) 8) (by decide) rfl (fun ls hl => ?_)
        refine lv_goto (tgt := 23) hx hb dL_law_1149 (by decide) ?_
        have e8 : 8 * nc + 8 = 8 * (nc + 1) := by omega
        rw [e8] at hl
        refine W.widen (k := 56 + (nc + 1)) (n := 12886 + 6 * (nc + 1)) (by omega) (by omega) ?_
        exact ih (nc + 1) (by omega) (by omega) qb b1 b2 qm m1 m2 m3 m4 qp p1 p2 p3 qy y1 y2 y3 y4 y5 y6 qd d1 d2 d3 qc c1 c2 c3 qf f1 qv a1 a2 a3 a4 a5 a6 a7 a8 a9 a10 a11 a12 a13 a14 a15 a16 a17 a18 a19 a20 a21 a22 a23 lr bn bw bd mn mf mp ms mu pt pl pm yn ys yp yt yh ym yr dn dz da db cn ca cr cs fn fp vb rfa rrn rd rda rle rmt rco rpr rrf rof fo H locs ls hV hP hD hS hl
      refine lv_aload_n hx hb dL_law_33 rfl (lv_at hl 1 rfl) ?_
      refine lv_iload hx hb dL_law_34 (lv_at hl 0 rfl) ?_
      refine na_sld hx hb hX hbl hbA hS (k := 8 * nc) (by omega) (by omega) dL_law_36 ?_
      refine lv_bipush (v := 31) hx hb dL_law_37 (by decide) ?_
      refine lv_iand hx hb dL_law_39 ?_
      generalize xs (8 * nc) &&& 31 = sw
      by_cases n_0 : sw = 0
      · refine lv_tableIn (tgt := 144) (off := 104) hx hb dL_law_40 (by rw [n_0]; decide) (by rw [n_0]; decide) (by rw [n_0]; decide) (by decide) ?_
        exact lc_0 l hC hV hP hD hS hn hl KK
      by_cases n_1 : sw = 1
      · refine lv_tableIn (tgt := 181) (off := 141) hx hb dL_law_40 (by rw [n_1]; decide) (by rw [n_1]; decide) (by rw [n_1]; decide) (by decide) ?_
        exact lc_1 l hC hV hP hD hS hn hl KK
      by_cases n_2 : sw = 2
      · refine lv_tableIn (tgt := 194) (off := 154) hx hb dL_law_40 (by rw [n_2]; decide) (by rw [n_2]; decide) (by rw [n_2]; decide) (by decide) ?_
        exact lc_2 l hC hV hP hD hS hn hl KK
      by_cases n_3 : sw = 3
      · refine lv_tableIn (tgt := 207) (off := 167) hx hb dL_law_40 (by rw [n_3]; decide) (by rw [n_3]; decide) (by rw [n_3]; decide) (by decide) ?_
        exact lc_3 l hnt hC hV hP hD hS hn hl KK
      by_cases n_4 : sw = 4
      · refine lv_tableIn (tgt := 263) (off := 223) hx hb dL_law_40 (by rw [n_4]; decide) (by rw [n_4]; decide) (by rw [n_4]; decide) (by decide) ?_
        exact lc_4 l hC hV hP hD hS hn hl KK
      by_cases n_5 : sw = 5
      · refine lv_tableIn (tgt := 332) (off := 292) hx hb dL_law_40 (by rw [n_5]; decide) (by rw [n_5]; decide) (by rw [n_5]; decide) (by decide) ?_
        exact lc_5 l hC hV hP hD hS hn hl KK
      by_cases n_6 : sw = 6
      · refine lv_tableIn (tgt := 401) (off := 361) hx hb dL_law_40 (by rw [n_6]; decide) (by rw [n_6]; decide) (by rw [n_6]; decide) (by decide) ?_
        exact lc_6 l hC hV hP hD hS hn hl KK
      by_cases n_7 : sw = 7
      · refine lv_tableIn (tgt := 414) (off := 374) hx hb dL_law_40 (by rw [n_7]; decide) (by rw [n_7]; decide) (by rw [n_7]; decide) (by decide) ?_
        exact lc_7 l hC hV hP hD hS hn hl KK
      by_cases n_8 : sw = 8
      · refine lv_tableIn (tgt := 463) (off := 423) hx hb dL_law_40 (by rw [n_8]; decide) (by rw [n_8]; decide) (by rw [n_8]; decide) (by decide) ?_
        exact lc_8 l hC hV hP hD hS hn hl KK
      by_cases n_9 : sw = 9
      · refine lv_tableIn (tgt := 516) (off := 476) hx hb dL_law_40 (by rw [n_9]; decide) (by rw [n_9]; decide) (by rw [n_9]; decide) (by decide) ?_
        exact lc_9 l hC hV hP hD hS hn hl KK
      by_cases n_10 : sw = 10
      · refine lv_tableIn (tgt := 569) (off := 529) hx hb dL_law_40 (by rw [n_10]; decide) (by rw [n_10]; decide) (by rw [n_10]; decide) (by decide) ?_
        exact lc_10 l hC hV hP hD hS hn hl KK
      by_cases n_11 : sw = 11
      · refine lv_tableIn (tgt := 710) (off := 670) hx hb dL_law_40 (by rw [n_11]; decide) (by rw [n_11]; decide) (by rw [n_11]; decide) (by decide) ?_
        exact lc_11 l hC hV hP hD hS hn hl KK
      by_cases n_12 : sw = 12
      · refine lv_tableIn (tgt := 723) (off := 683) hx hb dL_law_40 (by rw [n_12]; decide) (by rw [n_12]; decide) (by rw [n_12]; decide) (by decide) ?_
        exact lc_12 l hC hV hP hD hS hn hl KK
      by_cases n_13 : sw = 13
      · refine lv_tableIn (tgt := 761) (off := 721) hx hb dL_law_40 (by rw [n_13]; decide) (by rw [n_13]; decide) (by rw [n_13]; decide) (by decide) ?_
        exact lc_13 l hC hV hP hD hS hn hl KK
      by_cases n_14 : sw = 14
      · refine lv_tableIn (tgt := 798) (off := 758) hx hb dL_law_40 (by rw [n_14]; decide) (by rw [n_14]; decide) (by rw [n_14]; decide) (by decide) ?_
        exact lc_14 l hC hV hP hD hS hn hl KK
      by_cases n_15 : sw = 15
      · refine lv_tableIn (tgt := 835) (off := 795) hx hb dL_law_40 (by rw [n_15]; decide) (by rw [n_15]; decide) (by rw [n_15]; decide) (by decide) ?_
        exact lc_15 l hC hV hP hD hS hn hl KK
      by_cases n_16 : sw = 16
      · refine lv_tableIn (tgt := 982) (off := 942) hx hb dL_law_40 (by rw [n_16]; decide) (by rw [n_16]; decide) (by rw [n_16]; decide) (by decide) ?_
        exact lc_16 l hC hV hP hD hS hn hl KK
      by_cases n_17 : sw = 17
      · refine lv_tableIn (tgt := 1007) (off := 967) hx hb dL_law_40 (by rw [n_17]; decide) (by rw [n_17]; decide) (by rw [n_17]; decide) (by decide) ?_
        exact lc_17 l hC hV hP hD hS hn hl KK
      by_cases n_18 : sw = 18
      · refine lv_tableIn (tgt := 1044) (off := 1004) hx hb dL_law_40 (by rw [n_18]; decide) (by rw [n_18]; decide) (by rw [n_18]; decide) (by decide) ?_
        exact lc_18 l hC hV hP hD hS hn hl KK
      by_cases n_19 : sw = 19
      · refine lv_tableIn (tgt := 1070) (off := 1030) hx hb dL_law_40 (by rw [n_19]; decide) (by rw [n_19]; decide) (by rw [n_19]; decide) (by decide) ?_
        exact lc_19 l hC hV hP hD hS hn hl KK
      by_cases n_20 : sw = 20
      · refine lv_tableIn (tgt := 1095) (off := 1055) hx hb dL_law_40 (by rw [n_20]; decide) (by rw [n_20]; decide) (by rw [n_20]; decide) (by decide) ?_
        exact lc_20 l hC hV hP hD hS hn hl KK
      by_cases n_21 : sw = 21
      · refine lv_tableIn (tgt := 1121) (off := 1081) hx hb dL_law_40 (by rw [n_21]; decide) (by rw [n_21]; decide) (by rw [n_21]; decide) (by decide) ?_
        exact lc_21 l hC hV hP hD hS hn hl KK
      refine lv_tableOut (tgt := 1146) hx hb dL_law_40 (sw_out22 n_0 n_1 n_2 n_3 n_4 n_5 n_6 n_7 n_8 n_9 n_10 n_11 n_12 n_13 n_14 n_15 n_16 n_17 n_18 n_19 n_20 n_21) (by decide) ?_
      refine W.widen (k := 56 + nc + 1) (n := 12886 + 6 * nc + 6) (by omega) (by omega) ?_
      exact KK qb b1 b2 qm m1 m2 m3 m4 qp p1 p2 p3 qy y1 y2 y3 y4 y5 y6 qd d1 d2 d3 qc c1 c2 c3 qf f1 qv a1 a2 a3 a4 a5 a6 a7 a8 a9 a10 a11 a12 a13 a14 a15 a16 a17 a18 a19 a20 a21 a22 a23 lr bn bw bd mn mf mp ms mu pt pl pm yn ys yp yt yh ym yr dn dz da db cn ca cr cs fn fp vb rfa rrn rd rda rle rmt rco rpr rrf rof fo _ _ _ hV.mono hP hD hS hl
