/-! ===== force, seed, end, feed ===== -/
theorem qv_R_of {g : Nat → ss_Cl} {v : Nat} {a b : List Int32} (h : qv_R g v a) (e : ∀ j, j < 10 ∨ (30 ≤ j ∧ j < 93) → pv b j = pv a j) : qv_R g v b := by
  obtain ⟨h0, h1, h2, h3, h4, w, h5, h6, h7⟩ := h
  refine ⟨qv_of h0 (fun j hj => e j (by omega)), ?_, ?_, h3, ?_, w, h5, h6, fun ht => ?_⟩
  · unfold sa_told at h1 ⊢
    rw [e 0 (by omega)]
    exact h1
  · rw [e 39 (by omega), e 41 (by omega), e 43 (by omega), e 45 (by omega)]
    exact h2
  · rw [sl_of (b := b) (a := a) (fun i hi => e _ (by omega))]
    exact h4
  · rw [e 0 (by omega)] at ht
    rw [sl_of (b := b) (a := a) (fun i hi => e _ (by omega))]
    exact h7 ht
theorem note_R_of {nd ns nw a b : List Int32} (h : note_R nd ns nw a) (e : ∀ j, 93 ≤ j → pv b j = pv a j) : note_R nd ns nw b := by
  obtain ⟨h1, h2, h3, h4⟩ := h
  refine ⟨h1, h2, h3, fun q hq h123 i hi => ?_⟩
  rw [e 123 (by omega)] at h123
  rw [e _ (by omega), e _ (by omega), e _ (by omega)]
  exact h4 q hq h123 i hi
theorem cb_setfo {h0 h : ss_Hp} {T : List Nat} {a : List Int32} {fo x : Int32} {RS : List (List ru_C)} {US : List (List Int32)} {I : Nat → Option (List Int32 × Int32 × Int32)} {Z : Nat → List Int32} {y : Int32} (hc : cb_h h0 h T a fo x RS US I Z) : ∃ h', ss_pi h (some 24) 8 0 y = some h' ∧ cb_h h0 h' T a y x RS US I Z := by
  obtain ⟨n, g, rc, ti, tb, vt, ri, cd, sx, rl, wi, wv, gi, gs, gw, nd, ns, nw, il, ai, yv, yr, yi, ys, yw, yt, yh, yf, yo, yk, fr, fg, pl, pc, pg, rfl, F, hg, z⟩ := hc
  obtain ⟨Fn, Frc, ⟨Ft1, Ft2, Ft3, Ft4⟩, Fr, Fl, ⟨Fw, ⟨v, Fv, Fq⟩, Fg, Fs, Fwl, Fno⟩, Fi, ⟨nx, Fa, Fu⟩, Fy, Ff⟩ := F
  subst Fw
  exact ⟨_, pk_y24_0, n, g, rc, ti, tb, vt, ri, cd, sx, rl, _, _, _, _, _, nd, ns, nw, il, _, _, _, _, _, _, _, _, _, _, _, fr, fg, pl, pc, pg, rfl, ⟨Fn, Frc, ⟨Ft1, Ft2, Ft3, Ft4⟩, Fr, Fl, ⟨rfl, ⟨v, Fv, Fq⟩, Fg, Fs, Fwl, Fno⟩, Fi, ⟨nx, Fa, Fu⟩, Fy, Ff⟩, hg, z⟩
theorem cb_setx {h0 h : ss_Hp} {T : List Nat} {a : List Int32} {fo x : Int32} {RS : List (List ru_C)} {US : List (List Int32)} {I : Nat → Option (List Int32 × Int32 × Int32)} {Z : Nat → List Int32} {y : Int32} (hc : cb_h h0 h T a fo x RS US I Z) : ∃ h', ss_pi h (some 24) 8 1 y = some h' ∧ cb_h h0 h' T a fo y RS US I Z := by
  obtain ⟨n, g, rc, ti, tb, vt, ri, cd, sx, rl, wi, wv, gi, gs, gw, nd, ns, nw, il, ai, yv, yr, yi, ys, yw, yt, yh, yf, yo, yk, fr, fg, pl, pc, pg, rfl, F, hg, z⟩ := hc
  obtain ⟨Fn, Frc, ⟨Ft1, Ft2, Ft3, Ft4⟩, Fr, Fl, ⟨Fw, ⟨v, Fv, Fq⟩, Fg, Fs, Fwl, Fno⟩, Fi, ⟨nx, Fa, Fu⟩, Fy, Ff⟩ := F
  subst Fw
  exact ⟨_, pk_y24_1, n, g, rc, ti, tb, vt, ri, cd, sx, rl, _, _, _, _, _, nd, ns, nw, il, _, _, _, _, _, _, _, _, _, _, _, fr, fg, pl, pc, pg, rfl, ⟨Fn, Frc, ⟨Ft1, Ft2, Ft3, Ft4⟩, Fr, Fl, ⟨rfl, ⟨v, Fv, Fq⟩, Fg, Fs, Fwl, Fno⟩, Fi, ⟨nx, Fa, Fu⟩, Fy, Ff⟩, hg, z⟩
theorem gd_take {T : List Nat} {n i : Nat} (h : i < n) : (T.take n).getD i 0 = T.getD i 0 := by
  rw [List.getD_eq_getElem?_getD, List.getD_eq_getElem?_getD, List.getElem?_take_of_lt h]
theorem cb_tl {h0 h : ss_Hp} {T : List Nat} {a : List Int32} {fo x : Int32} {RS : List (List ru_C)} {US : List (List Int32)} {I : Nat → Option (List Int32 × Int32 × Int32)} {Z : Nat → List Int32} {q : Nat} (hc : cb_h h0 h T a fo x RS US I Z) (hq : q ≤ T.length) : ∃ h', ss_pi h (some 1) 2 0 (nI q) = some h' ∧ cb_h h0 h' (T.take q) a fo x RS US I Z := by
  obtain ⟨n, g, rc, ti, tb, vt, ri, cd, sx, rl, wi, wv, gi, gs, gw, nd, ns, nw, il, ai, yv, yr, yi, ys, yw, yt, yh, yf, yo, yk, fr, fg, pl, pc, pg, rfl, F, hg, z⟩ := hc
  obtain ⟨Fn, Frc, ⟨Ft1, Ft2, Ft3, Ft4⟩, Fr, Fl, ⟨Fw, ⟨v, Fv, Fq⟩, Fg, Fs, Fwl, Fno⟩, Fi, ⟨nx, Fa, Fu⟩, Fy, Ff⟩ := F
  have hl : (T.take q).length = q := by rw [List.length_take]; omega
  refine ⟨_, pk_q1 (by omega) (nI q), n, g, rc, _, _, vt, ri, cd, sx, rl, wi, wv, gi, gs, gw, nd, ns, nw, il, ai, yv, yr, yi, ys, yw, yt, yh, yf, yo, yk, fr, fg, pl, pc, pg, rfl, ⟨Fn, Frc, ⟨by rw [List.length_set]; exact Ft1, by rw [hl]; exact pv_eq (by omega), Ft3, fun i hi => ?_⟩, Fr, Fl, ⟨Fw, ⟨v, Fv, Fq⟩, Fg, Fs, Fwl, Fno⟩, Fi, ⟨nx, Fa, Fu⟩, Fy, Ff⟩, hg, z⟩
  rw [hl] at hi
  rw [gd_take hi]
  exact Ft4 i (by omega)
theorem mb_to {h0 h : ss_Hp} {T : List Nat} {a : List Int32} {fo x : Int32} {RS : List (List ru_C)} {US : List (List Int32)} {I : Nat → Option (List Int32 × Int32 × Int32)} {fo2 : Int32} {b th2 fa2 kp2 : List Int32} {dx2 : Int64} {Z : Nat → List Int32} (hc : mb_h h0 h T a fo x RS US I fo2 b th2 fa2 kp2 dx2 Z) : mb_h h0 h T b fo2 x RS US I fo2 b th2 fa2 kp2 dx2 Z := by
  obtain ⟨n, f, mi, dx, tp, sg, lg, cl, cs, rd, op, sk, wd, sd, th, fa, ws, kp, li, pr, hb, fi, st, im, jf, jx, mk, rfl, F, hfo, ⟨w1, w2, w3, w4, w5⟩, z, hn, hf⟩ := hc
  subst w1 w2 w3 w4 w5
  obtain ⟨⟨Lmi, Ltp, Lsg, Llg, Lcl, Lcs, Lrd, Lop, Lsk, Lwd, Lth, Lfa⟩, ⟨Lws, Lkp, Lli, Lpr, Lhb, Lfi, Lst, Lim, Ljf, Ljx, Lmk⟩, ⟨Mt1, Mt2⟩, ⟨Mr1, Mr2⟩, ⟨M13, M14, Ma⟩, ⟨M15, Mu⟩, Mim⟩ := id F
  rw [List.length_set] at Lmi
  rw [pv_ne (by omega)] at Mt1 Mr1 M14 M15
  refine ⟨n, f, mi, dx, tp, sg, lg, cl, cs, rd, op, sk, wd, sd, th, fa, ws, kp, li, pr, hb, fi, st, im, jf, jx, mk, rfl, ⟨⟨by rw [List.length_set]; exact Lmi, Ltp, Lsg, Llg, Lcl, Lcs, Lrd, Lop, Lsk, Lwd, Lth, Lfa⟩, ⟨Lws, Lkp, Lli, Lpr, Lhb, Lfi, Lst, Lim, Ljf, Ljx, Lmk⟩, ⟨by rw [pv_ne (by omega)]; exact Mt1, Mt2⟩, ⟨by rw [pv_ne (by omega)]; exact Mr1, Mr2⟩, ⟨pv_eq (by omega), by rw [pv_ne (by omega)]; exact M14, rfl⟩, ⟨by rw [pv_ne (by omega)]; exact M15, Mu⟩, Mim⟩, hfo, ⟨rfl, rfl, rfl, rfl, rfl⟩, z, hn, hf⟩
theorem mb_setx {h0 h : ss_Hp} {T : List Nat} {a : List Int32} {fo x : Int32} {RS : List (List ru_C)} {US : List (List Int32)} {I : Nat → Option (List Int32 × Int32 × Int32)} {fo2 : Int32} {b th2 fa2 kp2 : List Int32} {dx2 : Int64} {Z : Nat → List Int32} {y : Int32} (hc : mb_h h0 h T a fo x RS US I fo2 b th2 fa2 kp2 dx2 Z) : ∃ h', ss_pi h (some 118) 12 14 y = some h' ∧ mb_h h0 h' T a fo y RS US I fo2 b th2 fa2 kp2 dx2 Z := by
  obtain ⟨n, f, mi, dx, tp, sg, lg, cl, cs, rd, op, sk, wd, sd, th, fa, ws, kp, li, pr, hb, fi, st, im, jf, jx, mk, rfl, F, hfo, ⟨w1, w2, w3, w4, w5⟩, z, hn, hf⟩ := hc
  subst w1 w2 w3 w4 w5
  obtain ⟨⟨Lmi, Ltp, Lsg, Llg, Lcl, Lcs, Lrd, Lop, Lsk, Lwd, Lth, Lfa⟩, ⟨Lws, Lkp, Lli, Lpr, Lhb, Lfi, Lst, Lim, Ljf, Ljx, Lmk⟩, ⟨Mt1, Mt2⟩, ⟨Mr1, Mr2⟩, ⟨M13, M14, Ma⟩, ⟨M15, Mu⟩, Mim⟩ := id F
  rw [List.length_set] at Lmi
  rw [pv_ne (by omega)] at Mt1 Mr1 M14 M15
  refine ⟨_, pn_pi (by omega) y, n, f, _, _, tp, sg, lg, cl, cs, rd, op, _, _, _, _, _, ws, _, _, _, _, _, _, im, jf, jx, mk, rfl, ⟨⟨by rw [List.length_set, List.length_set]; exact Lmi, Ltp, Lsg, Llg, Lcl, Lcs, Lrd, Lop, Lsk, Lwd, Lth, Lfa⟩, ⟨Lws, Lkp, Lli, Lpr, Lhb, Lfi, Lst, Lim, Ljf, Ljx, Lmk⟩, ⟨by rw [pv_ne (by omega), pv_ne (by omega)]; exact Mt1, Mt2⟩, ⟨by rw [pv_ne (by omega), pv_ne (by omega)]; exact Mr1, Mr2⟩, ⟨pv_eq (by rw [List.length_set]; omega), by rw [pv_ne (by omega)]; exact pv_eq (by omega), rfl⟩, ⟨by rw [pv_ne (by omega), pv_ne (by omega)]; exact M15, Mu⟩, Mim⟩, by rw [pv_ne (by omega)]; exact hfo, ⟨rfl, rfl, rfl, rfl, rfl⟩, z, hn, hf⟩
theorem mb_tl {h0 h : ss_Hp} {T : List Nat} {a : List Int32} {fo x : Int32} {RS : List (List ru_C)} {US : List (List Int32)} {I : Nat → Option (List Int32 × Int32 × Int32)} {fo2 : Int32} {b th2 fa2 kp2 : List Int32} {dx2 : Int64} {Z : Nat → List Int32} {q : Nat} (hc : mb_h h0 h T a fo x RS US I fo2 b th2 fa2 kp2 dx2 Z) (hq : q ≤ T.length) : ∃ h', ss_pi h (some 118) 12 0 (nI q) = some h' ∧ mb_h h0 h' (T.take q) a fo x RS US I fo2 b th2 fa2 kp2 dx2 Z := by
  obtain ⟨n, f, mi, dx, tp, sg, lg, cl, cs, rd, op, sk, wd, sd, th, fa, ws, kp, li, pr, hb, fi, st, im, jf, jx, mk, rfl, F, hfo, ⟨w1, w2, w3, w4, w5⟩, z, hn, hf⟩ := hc
  subst w1 w2 w3 w4 w5
  obtain ⟨⟨Lmi, Ltp, Lsg, Llg, Lcl, Lcs, Lrd, Lop, Lsk, Lwd, Lth, Lfa⟩, ⟨Lws, Lkp, Lli, Lpr, Lhb, Lfi, Lst, Lim, Ljf, Ljx, Lmk⟩, ⟨Mt1, Mt2⟩, ⟨Mr1, Mr2⟩, ⟨M13, M14, Ma⟩, ⟨M15, Mu⟩, Mim⟩ := id F
  rw [List.length_set] at Lmi
  rw [pv_ne (by omega)] at Mt1 Mr1 M14 M15
  have hl : (T.take q).length = q := by rw [List.length_take]; omega
  refine ⟨_, pn_pi (by omega) (nI q), n, f, _, _, tp, sg, lg, cl, cs, rd, op, _, _, _, _, _, ws, _, _, _, _, _, _, im, jf, jx, mk, rfl, ⟨⟨by rw [List.length_set, List.length_set]; exact Lmi, Ltp, Lsg, Llg, Lcl, Lcs, Lrd, Lop, Lsk, Lwd, Lth, Lfa⟩, ⟨Lws, Lkp, Lli, Lpr, Lhb, Lfi, Lst, Lim, Ljf, Ljx, Lmk⟩, ⟨by rw [pv_ne (by omega), hl]; exact pv_eq (by omega), fun i hi => ?_⟩, ⟨by rw [pv_ne (by omega), pv_ne (by omega)]; exact Mr1, Mr2⟩, ⟨pv_eq (by rw [List.length_set]; omega), by rw [pv_ne (by omega), pv_ne (by omega)]; exact M14, rfl⟩, ⟨by rw [pv_ne (by omega), pv_ne (by omega)]; exact M15, Mu⟩, Mim⟩, by rw [pv_ne (by omega)]; exact hfo, ⟨rfl, rfl, rfl, rfl, rfl⟩, z, hn, hf⟩
  rw [hl] at hi
  rw [gd_take hi]
  exact Mt2 i (by omega)
theorem jo_st {oc om : Option (Int32 × ss_Hp)} {h h2 h' h2' : ss_Hp} {T : List Nat} {a : List Int32} {fo x : Int32} {RS : List (List ru_C)} {US : List (List Int32)} {I : Nat → Option (List Int32 × Int32 × Int32)} {r : Int32} {Z Y : Nat → List Int32} {th fa kp : List Int32} {dx : Int64} (ha : as_ok T a fo x RS US I) (c1 : cb_h h h' T a fo x RS US I Z) (c2 : mb_h h2 h2' T a fo x RS US I fo a th fa kp dx Y) (e1 : oc = some (r, h')) (e2 : om = some (r, h2')) : jo oc om h h2 := jo_ask ha c1 c2 e1 e2
theorem jx_force {N : Nat} {h h2 : ss_Hp} {z : Int32} {T : List Nat} {a : List Int32} {fo x : Int32} {RS : List (List ru_C)} {US : List (List Int32)} {I : Nat → Option (List Int32 × Int32 × Int32)} (hc : cl_h h T a fo x RS US I) (hm : mo_h h2 T a fo x RS US I) (ha : as_ok T a fo x RS US I) (hN : 5000 < N) : jo (mm_S_force N (some 0) z h) (mm_M_force N (some 118) z h2) h h2 := by
  obtain ⟨Z, hb⟩ := cb_of hc
  obtain ⟨v, ⟨⟨bV, bI, bT, bF, bD, bS, bH⟩, ⟨bR0, bR1, bR2, bR3, bR4⟩, ⟨bFo, bX, bNo⟩, ⟨bG0, bG1, bG2, bG3⟩, bOwn, bStr, bBes, bSn, bWl, bNd, bCl⟩⟩ := cb_r hb
  have hk := cb_ck hb
  obtain ⟨th, fa, kp, dx, Y, hm1⟩ := mb_of hm
  have hk2 := mb_mk hm1
  have ha0 := ha
  obtain ⟨⟨Ht1, Ht2⟩, ⟨k, m, d, Hsd, Hul, Hu⟩, HRS, Hfo, Hx, HI⟩ := ha
  have Hok := Hsd.1
  obtain ⟨Hl, ⟨Hk, H2⟩, ⟨Hm, H3⟩, ⟨Hd, H10⟩, Hwl, Hbe, How⟩ := Hok
  obtain ⟨r1, r2, r3, r4⟩ := cb_more hb
  obtain ⟨q1, q2, q3, q4, q5⟩ := mb_gi hm1
  obtain ⟨h', e1, c1⟩ := cb_setfo (y := z) hb
  obtain ⟨g', f1, m1⟩ := mb_setfo (y := z) hm1
  have m2 := mb_to m1
  have key : (z = -nI 1 ∨ ∃ r, r < RS.length ∧ z = nI r) → jo (mm_S_force N (some 0) z h) (mm_M_force N (some 118) z h2) h h2 := fun hz => by
    refine jo_st (T := T) (a := a) (fo := z) (x := x) (RS := RS) (US := US) (I := I) ⟨⟨Ht1, Ht2⟩, ⟨k, m, d, Hsd, Hul, Hu⟩, HRS, hz, Hx, HI⟩ c1 m2 (r := fo) ?_ ?_
    · unfold mm_S_force mm_S_force_j13
      rcases hz with rfl | ⟨r, hr, rfl⟩
      · have n1 : ¬ -nI 1 < -nI 1 := Int32.lt_irrefl
        have n2 : -nI 1 < nI RS.length := Int32.lt_of_lt_of_le pb_m1 (nI_le (by omega) (by omega))
        simp (disch := omega) only [pb_its, pb_l2, pb_ll, nI_add, pb_mul, if_true, if_false, pb_bs, pb_b2n, pb_bz0, pb_bz1, pb_10, pb_01, pb_i31, ck_is0 hk, ck_r0_0 hk, ck_r0_1 hk, ck_r0_2 hk, ck_r0_3 hk, ck_r0_4 hk, ck_r0_5 hk, ck_r0_6 hk, ck_r0_7 hk, ck_r0_8 hk, ck_r0_9 hk, ck_is1 hk, ck_r1_0 hk, ck_is3 hk, ck_r3_0 hk, ck_r3_1 hk, ck_is20 hk, ck_r20_0 hk, ck_r20_1 hk, ck_r20_2 hk, ck_is24 hk, ck_r24_1 hk, ck_r24_2 hk, ck_r24_3 hk, ck_r24_4 hk, ck_is33 hk, ck_r33_0 hk, ck_r33_1 hk, ck_is40 hk, ck_r40_0 hk, ck_is102 hk, ck_r102_0 hk, ck_r102_1 hk, ck_r102_2 hk, ck_r102_3 hk, ck_r102_4 hk, ck_r102_5 hk, ck_is103 hk, ck_r103_0 hk, ck_r103_1 hk, ck_is111 hk, ck_r111_0 hk, ck_r111_1 hk, ck_r111_2 hk, ck_r111_3 hk, ck_r111_4 hk, ck_is114 hk, ck_r114_0 hk, ck_r114_1 hk, ck_r114_2 hk, ck_r114_3 hk, ck_r114_4 hk, bV, bI, bT, bF, bD, bS, bH, bR0, bR1, bR2, bR3, bR4, bFo, bX, bNo, bG0, bG1, bG2, bG3, r1, n1, n2, e1]
      · have n1 : ¬ nI r < -nI 1 := fun q => absurd (Int32.lt_trans q pb_m1) (nI_nlt (by omega) (by omega))
        have n2 : nI r < nI RS.length := nI_lt hr (by omega)
        simp (disch := omega) only [pb_its, pb_l2, pb_ll, nI_add, pb_mul, if_true, if_false, pb_bs, pb_b2n, pb_bz0, pb_bz1, pb_10, pb_01, pb_i31, ck_is0 hk, ck_r0_0 hk, ck_r0_1 hk, ck_r0_2 hk, ck_r0_3 hk, ck_r0_4 hk, ck_r0_5 hk, ck_r0_6 hk, ck_r0_7 hk, ck_r0_8 hk, ck_r0_9 hk, ck_is1 hk, ck_r1_0 hk, ck_is3 hk, ck_r3_0 hk, ck_r3_1 hk, ck_is20 hk, ck_r20_0 hk, ck_r20_1 hk, ck_r20_2 hk, ck_is24 hk, ck_r24_1 hk, ck_r24_2 hk, ck_r24_3 hk, ck_r24_4 hk, ck_is33 hk, ck_r33_0 hk, ck_r33_1 hk, ck_is40 hk, ck_r40_0 hk, ck_is102 hk, ck_r102_0 hk, ck_r102_1 hk, ck_r102_2 hk, ck_r102_3 hk, ck_r102_4 hk, ck_r102_5 hk, ck_is103 hk, ck_r103_0 hk, ck_r103_1 hk, ck_is111 hk, ck_r111_0 hk, ck_r111_1 hk, ck_r111_2 hk, ck_r111_3 hk, ck_r111_4 hk, ck_is114 hk, ck_r114_0 hk, ck_r114_1 hk, ck_r114_2 hk, ck_r114_3 hk, ck_r114_4 hk, bV, bI, bT, bF, bD, bS, bH, bR0, bR1, bR2, bR3, bR4, bFo, bX, bNo, bG0, bG1, bG2, bG3, r1, n1, n2, e1]
    · unfold mm_M_force mm_M_force_j16
      rcases hz with rfl | ⟨r, hr, rfl⟩
      · simp (disch := omega) only [pb_its, pb_l2, pb_ll, nI_add, pb_mul, if_true, if_false, pb_bs, pb_b2n, pb_bz0, pb_bz1, pb_10, pb_01, pb_i31, mk_is hk2, mk_g0 hk2, mk_g1 hk2, mk_g2 hk2, mk_g3 hk2, mk_g4 hk2, mk_g5 hk2, mk_g6 hk2, mk_g7 hk2, mk_g8 hk2, mk_g9 hk2, mk_g10 hk2, mk_g11 hk2, mk_g12 hk2, mk_g13 hk2, mk_g14 hk2, mk_g15 hk2, mk_g16 hk2, mk_g17 hk2, mk_g18 hk2, mk_g19 hk2, mk_g20 hk2, mk_g21 hk2, mk_g22 hk2, q3, f1]
      · have n1 : ¬ nI r = -nI 1 := pb_m1n (by omega)
        have n2 : ¬ nI r < nI 0 := nI_nlt (by omega) (by omega)
        have n3 : ¬ nI RS.length ≤ nI r := nI_ge hr (by omega)
        unfold mm_M_isRule mm_M_isRule_j17
        simp (disch := omega) only [pb_its, pb_l2, pb_ll, nI_add, pb_mul, if_true, if_false, pb_bs, pb_b2n, pb_bz0, pb_bz1, pb_10, pb_01, pb_i31, mk_is hk2, mk_g0 hk2, mk_g1 hk2, mk_g2 hk2, mk_g3 hk2, mk_g4 hk2, mk_g5 hk2, mk_g6 hk2, mk_g7 hk2, mk_g8 hk2, mk_g9 hk2, mk_g10 hk2, mk_g11 hk2, mk_g12 hk2, mk_g13 hk2, mk_g14 hk2, mk_g15 hk2, mk_g16 hk2, mk_g17 hk2, mk_g18 hk2, mk_g19 hk2, mk_g20 hk2, mk_g21 hk2, mk_g22 hk2, q2, q3, n1, n2, n3, f1]
  have kno : z < -nI 1 ∨ nI RS.length ≤ z → jo (mm_S_force N (some 0) z h) (mm_M_force N (some 118) z h2) h h2 := fun hz => by
    refine jo_no hc hm ha0 (r := -nI 2) ?_ ?_
    · unfold mm_S_force mm_S_force_j13
      rcases hz with hz | hz
      · simp (disch := omega) only [pb_its, pb_l2, pb_ll, nI_add, pb_mul, if_true, if_false, pb_bs, pb_b2n, pb_bz0, pb_bz1, pb_10, pb_01, pb_i31, ck_is0 hk, ck_r0_0 hk, ck_r0_1 hk, ck_r0_2 hk, ck_r0_3 hk, ck_r0_4 hk, ck_r0_5 hk, ck_r0_6 hk, ck_r0_7 hk, ck_r0_8 hk, ck_r0_9 hk, ck_is1 hk, ck_r1_0 hk, ck_is3 hk, ck_r3_0 hk, ck_r3_1 hk, ck_is20 hk, ck_r20_0 hk, ck_r20_1 hk, ck_r20_2 hk, ck_is24 hk, ck_r24_1 hk, ck_r24_2 hk, ck_r24_3 hk, ck_r24_4 hk, ck_is33 hk, ck_r33_0 hk, ck_r33_1 hk, ck_is40 hk, ck_r40_0 hk, ck_is102 hk, ck_r102_0 hk, ck_r102_1 hk, ck_r102_2 hk, ck_r102_3 hk, ck_r102_4 hk, ck_r102_5 hk, ck_is103 hk, ck_r103_0 hk, ck_r103_1 hk, ck_is111 hk, ck_r111_0 hk, ck_r111_1 hk, ck_r111_2 hk, ck_r111_3 hk, ck_r111_4 hk, ck_is114 hk, ck_r114_0 hk, ck_r114_1 hk, ck_r114_2 hk, ck_r114_3 hk, ck_r114_4 hk, bV, bI, bT, bF, bD, bS, bH, bR0, bR1, bR2, bR3, bR4, bFo, bX, bNo, bG0, bG1, bG2, bG3, hz]
      · have n1 : ¬ z < -nI 1 := fun q => absurd (Int32.lt_of_le_of_lt hz (Int32.lt_trans q pb_m1)) (nI_nlt (by omega) (by omega))
        have n2 : ¬ z < nI RS.length := Int32.not_lt.mpr hz
        simp (disch := omega) only [pb_its, pb_l2, pb_ll, nI_add, pb_mul, if_true, if_false, pb_bs, pb_b2n, pb_bz0, pb_bz1, pb_10, pb_01, pb_i31, ck_is0 hk, ck_r0_0 hk, ck_r0_1 hk, ck_r0_2 hk, ck_r0_3 hk, ck_r0_4 hk, ck_r0_5 hk, ck_r0_6 hk, ck_r0_7 hk, ck_r0_8 hk, ck_r0_9 hk, ck_is1 hk, ck_r1_0 hk, ck_is3 hk, ck_r3_0 hk, ck_r3_1 hk, ck_is20 hk, ck_r20_0 hk, ck_r20_1 hk, ck_r20_2 hk, ck_is24 hk, ck_r24_1 hk, ck_r24_2 hk, ck_r24_3 hk, ck_r24_4 hk, ck_is33 hk, ck_r33_0 hk, ck_r33_1 hk, ck_is40 hk, ck_r40_0 hk, ck_is102 hk, ck_r102_0 hk, ck_r102_1 hk, ck_r102_2 hk, ck_r102_3 hk, ck_r102_4 hk, ck_r102_5 hk, ck_is103 hk, ck_r103_0 hk, ck_r103_1 hk, ck_is111 hk, ck_r111_0 hk, ck_r111_1 hk, ck_r111_2 hk, ck_r111_3 hk, ck_r111_4 hk, ck_is114 hk, ck_r114_0 hk, ck_r114_1 hk, ck_r114_2 hk, ck_r114_3 hk, ck_r114_4 hk, bV, bI, bT, bF, bD, bS, bH, bR0, bR1, bR2, bR3, bR4, bFo, bX, bNo, bG0, bG1, bG2, bG3, r1, n1, n2]
    · unfold mm_M_force mm_M_isRule mm_M_isRule_j17 mm_M_isRule_j16
      unfold mm_M_isRule_j17
      rcases hz with hz | hz
      · have n1 : ¬ z = -nI 1 := fun q => by rw [q] at hz; exact Int32.lt_irrefl hz
        have n2 : z < nI 0 := Int32.lt_trans hz pb_m1
        simp (disch := omega) only [pb_its, pb_l2, pb_ll, nI_add, pb_mul, if_true, if_false, pb_bs, pb_b2n, pb_bz0, pb_bz1, pb_10, pb_01, pb_i31, mk_is hk2, mk_g0 hk2, mk_g1 hk2, mk_g2 hk2, mk_g3 hk2, mk_g4 hk2, mk_g5 hk2, mk_g6 hk2, mk_g7 hk2, mk_g8 hk2, mk_g9 hk2, mk_g10 hk2, mk_g11 hk2, mk_g12 hk2, mk_g13 hk2, mk_g14 hk2, mk_g15 hk2, mk_g16 hk2, mk_g17 hk2, mk_g18 hk2, mk_g19 hk2, mk_g20 hk2, mk_g21 hk2, mk_g22 hk2, n1, n2]
      · have n2 : ¬ z < nI 0 := fun q => absurd (Int32.lt_of_le_of_lt hz q) (nI_nlt (by omega) (by omega))
        have n1 : ¬ z = -nI 1 := fun q => n2 (by rw [q]; exact pb_m1)
        simp (disch := omega) only [pb_its, pb_l2, pb_ll, nI_add, pb_mul, if_true, if_false, pb_bs, pb_b2n, pb_bz0, pb_bz1, pb_10, pb_01, pb_i31, mk_is hk2, mk_g0 hk2, mk_g1 hk2, mk_g2 hk2, mk_g3 hk2, mk_g4 hk2, mk_g5 hk2, mk_g6 hk2, mk_g7 hk2, mk_g8 hk2, mk_g9 hk2, mk_g10 hk2, mk_g11 hk2, mk_g12 hk2, mk_g13 hk2, mk_g14 hk2, mk_g15 hk2, mk_g16 hk2, mk_g17 hk2, mk_g18 hk2, mk_g19 hk2, mk_g20 hk2, mk_g21 hk2, mk_g22 hk2, q2, n1, n2, hz]
  rcases pk_ix z (n := RS.length) (by omega) with c | c | ⟨j, hj, e⟩
  · rcases pb_neg1 c with e | e
    · exact key (Or.inl e)
    · exact kno (Or.inl e)
  · exact kno (Or.inr c)
  · exact key (Or.inr ⟨j, hj, e⟩)
theorem jx_seed {N : Nat} {h h2 : ss_Hp} {z : Int32} {T : List Nat} {a : List Int32} {fo x : Int32} {RS : List (List ru_C)} {US : List (List Int32)} {I : Nat → Option (List Int32 × Int32 × Int32)} (hc : cl_h h T a fo x RS US I) (hm : mo_h h2 T a fo x RS US I) (ha : as_ok T a fo x RS US I) (hN : 5000 < N) : jo (mm_S_seed N (some 0) z h) (mm_M_seed N (some 118) z h2) h h2 := by
  obtain ⟨Z, hb⟩ := cb_of hc
  obtain ⟨v, ⟨⟨bV, bI, bT, bF, bD, bS, bH⟩, ⟨bR0, bR1, bR2, bR3, bR4⟩, ⟨bFo, bX, bNo⟩, ⟨bG0, bG1, bG2, bG3⟩, bOwn, bStr, bBes, bSn, bWl, bNd, bCl⟩⟩ := cb_r hb
  have hk := cb_ck hb
  obtain ⟨th, fa, kp, dx, Y, hm1⟩ := mb_of hm
  have hk2 := mb_mk hm1
  have ha0 := ha
  obtain ⟨⟨Ht1, Ht2⟩, ⟨k, m, d, Hsd, Hul, Hu⟩, HRS, Hfo, Hx, HI⟩ := ha
  have Hok := Hsd.1
  obtain ⟨Hl, ⟨Hk, H2⟩, ⟨Hm, H3⟩, ⟨Hd, H10⟩, Hwl, Hbe, How⟩ := Hok
  obtain ⟨q1, q2, q3, q4, q5⟩ := mb_gi hm1
  obtain ⟨h', e1, c1⟩ := cb_setx (y := z) hb
  obtain ⟨g', f1, m1⟩ := mb_setx (y := z) hm1
  by_cases c : z < nI 0
  · have n1 : ¬ nI 0 ≤ z := Int32.not_le.mpr c
    refine jo_no hc hm ha0 (r := -nI 1) ?_ ?_
    · unfold mm_S_seed
      simp (disch := omega) only [pb_its, pb_l2, pb_ll, nI_add, pb_mul, if_true, if_false, pb_bs, pb_b2n, pb_bz0, pb_bz1, pb_10, pb_01, pb_i31, ck_is0 hk, ck_r0_0 hk, ck_r0_1 hk, ck_r0_2 hk, ck_r0_3 hk, ck_r0_4 hk, ck_r0_5 hk, ck_r0_6 hk, ck_r0_7 hk, ck_r0_8 hk, ck_r0_9 hk, ck_is1 hk, ck_r1_0 hk, ck_is3 hk, ck_r3_0 hk, ck_r3_1 hk, ck_is20 hk, ck_r20_0 hk, ck_r20_1 hk, ck_r20_2 hk, ck_is24 hk, ck_r24_1 hk, ck_r24_2 hk, ck_r24_3 hk, ck_r24_4 hk, ck_is33 hk, ck_r33_0 hk, ck_r33_1 hk, ck_is40 hk, ck_r40_0 hk, ck_is102 hk, ck_r102_0 hk, ck_r102_1 hk, ck_r102_2 hk, ck_r102_3 hk, ck_r102_4 hk, ck_r102_5 hk, ck_is103 hk, ck_r103_0 hk, ck_r103_1 hk, ck_is111 hk, ck_r111_0 hk, ck_r111_1 hk, ck_r111_2 hk, ck_r111_3 hk, ck_r111_4 hk, ck_is114 hk, ck_r114_0 hk, ck_r114_1 hk, ck_r114_2 hk, ck_r114_3 hk, ck_r114_4 hk, bV, bI, bT, bF, bD, bS, bH, bR0, bR1, bR2, bR3, bR4, bFo, bX, bNo, bG0, bG1, bG2, bG3, n1]
    · unfold mm_M_seed
      simp (disch := omega) only [pb_its, pb_l2, pb_ll, nI_add, pb_mul, if_true, if_false, pb_bs, pb_b2n, pb_bz0, pb_bz1, pb_10, pb_01, pb_i31, mk_is hk2, mk_g0 hk2, mk_g1 hk2, mk_g2 hk2, mk_g3 hk2, mk_g4 hk2, mk_g5 hk2, mk_g6 hk2, mk_g7 hk2, mk_g8 hk2, mk_g9 hk2, mk_g10 hk2, mk_g11 hk2, mk_g12 hk2, mk_g13 hk2, mk_g14 hk2, mk_g15 hk2, mk_g16 hk2, mk_g17 hk2, mk_g18 hk2, mk_g19 hk2, mk_g20 hk2, mk_g21 hk2, mk_g22 hk2, n1]
  · have n1 : nI 0 ≤ z := Int32.not_lt.mp c
    refine jo_st (T := T) (a := a) (fo := fo) (x := z) (RS := RS) (US := US) (I := I) ⟨⟨Ht1, Ht2⟩, ⟨k, m, d, Hsd, Hul, Hu⟩, HRS, Hfo, nI_of c, HI⟩ c1 m1 (r := x) ?_ ?_
    · unfold mm_S_seed
      simp (disch := omega) only [pb_its, pb_l2, pb_ll, nI_add, pb_mul, if_true, if_false, pb_bs, pb_b2n, pb_bz0, pb_bz1, pb_10, pb_01, pb_i31, ck_is0 hk, ck_r0_0 hk, ck_r0_1 hk, ck_r0_2 hk, ck_r0_3 hk, ck_r0_4 hk, ck_r0_5 hk, ck_r0_6 hk, ck_r0_7 hk, ck_r0_8 hk, ck_r0_9 hk, ck_is1 hk, ck_r1_0 hk, ck_is3 hk, ck_r3_0 hk, ck_r3_1 hk, ck_is20 hk, ck_r20_0 hk, ck_r20_1 hk, ck_r20_2 hk, ck_is24 hk, ck_r24_1 hk, ck_r24_2 hk, ck_r24_3 hk, ck_r24_4 hk, ck_is33 hk, ck_r33_0 hk, ck_r33_1 hk, ck_is40 hk, ck_r40_0 hk, ck_is102 hk, ck_r102_0 hk, ck_r102_1 hk, ck_r102_2 hk, ck_r102_3 hk, ck_r102_4 hk, ck_r102_5 hk, ck_is103 hk, ck_r103_0 hk, ck_r103_1 hk, ck_is111 hk, ck_r111_0 hk, ck_r111_1 hk, ck_r111_2 hk, ck_r111_3 hk, ck_r111_4 hk, ck_is114 hk, ck_r114_0 hk, ck_r114_1 hk, ck_r114_2 hk, ck_r114_3 hk, ck_r114_4 hk, bV, bI, bT, bF, bD, bS, bH, bR0, bR1, bR2, bR3, bR4, bFo, bX, bNo, bG0, bG1, bG2, bG3, n1, e1]
    · unfold mm_M_seed
      simp (disch := omega) only [pb_its, pb_l2, pb_ll, nI_add, pb_mul, if_true, if_false, pb_bs, pb_b2n, pb_bz0, pb_bz1, pb_10, pb_01, pb_i31, mk_is hk2, mk_g0 hk2, mk_g1 hk2, mk_g2 hk2, mk_g3 hk2, mk_g4 hk2, mk_g5 hk2, mk_g6 hk2, mk_g7 hk2, mk_g8 hk2, mk_g9 hk2, mk_g10 hk2, mk_g11 hk2, mk_g12 hk2, mk_g13 hk2, mk_g14 hk2, mk_g15 hk2, mk_g16 hk2, mk_g17 hk2, mk_g18 hk2, mk_g19 hk2, mk_g20 hk2, mk_g21 hk2, mk_g22 hk2, n1, q4, f1]
theorem jx_end {N : Nat} {h h2 : ss_Hp} {z : Int32} {T : List Nat} {a : List Int32} {fo x : Int32} {RS : List (List ru_C)} {US : List (List Int32)} {I : Nat → Option (List Int32 × Int32 × Int32)} (hc : cl_h h T a fo x RS US I) (hm : mo_h h2 T a fo x RS US I) (ha : as_ok T a fo x RS US I) (hN : 5000 < N) : jo (mm_S_end N (some 0) z h) (mm_M_end N (some 118) z h2) h h2 := by
  obtain ⟨Z, hb⟩ := cb_of hc
  obtain ⟨v, ⟨⟨bV, bI, bT, bF, bD, bS, bH⟩, ⟨bR0, bR1, bR2, bR3, bR4⟩, ⟨bFo, bX, bNo⟩, ⟨bG0, bG1, bG2, bG3⟩, bOwn, bStr, bBes, bSn, bWl, bNd, bCl⟩⟩ := cb_r hb
  have hk := cb_ck hb
  obtain ⟨th, fa, kp, dx, Y, hm1⟩ := mb_of hm
  have hk2 := mb_mk hm1
  have ha0 := ha
  obtain ⟨⟨Ht1, Ht2⟩, ⟨k, m, d, Hsd, Hul, Hu⟩, HRS, Hfo, Hx, HI⟩ := ha
  have Hok := Hsd.1
  obtain ⟨Hl, ⟨Hk, H2⟩, ⟨Hm, H3⟩, ⟨Hd, H10⟩, Hwl, Hbe, How⟩ := Hok
  obtain ⟨r1, r2, r3, r4⟩ := cb_more hb
  obtain ⟨q1, q2, q3, q4, q5⟩ := mb_gi hm1
  rcases pk_ix z (n := T.length + 1) (by omega) with c | c | ⟨j, hj, rfl⟩
  · replace c : z < nI 0 := c
    refine jo_no hc hm ha0 (r := -nI 1) ?_ ?_
    · unfold mm_S_end mm_S_end_j15
      simp (disch := omega) only [pb_its, pb_l2, pb_ll, nI_add, pb_mul, if_true, if_false, pb_bs, pb_b2n, pb_bz0, pb_bz1, pb_10, pb_01, pb_i31, ck_is0 hk, ck_r0_0 hk, ck_r0_1 hk, ck_r0_2 hk, ck_r0_3 hk, ck_r0_4 hk, ck_r0_5 hk, ck_r0_6 hk, ck_r0_7 hk, ck_r0_8 hk, ck_r0_9 hk, ck_is1 hk, ck_r1_0 hk, ck_is3 hk, ck_r3_0 hk, ck_r3_1 hk, ck_is20 hk, ck_r20_0 hk, ck_r20_1 hk, ck_r20_2 hk, ck_is24 hk, ck_r24_1 hk, ck_r24_2 hk, ck_r24_3 hk, ck_r24_4 hk, ck_is33 hk, ck_r33_0 hk, ck_r33_1 hk, ck_is40 hk, ck_r40_0 hk, ck_is102 hk, ck_r102_0 hk, ck_r102_1 hk, ck_r102_2 hk, ck_r102_3 hk, ck_r102_4 hk, ck_r102_5 hk, ck_is103 hk, ck_r103_0 hk, ck_r103_1 hk, ck_is111 hk, ck_r111_0 hk, ck_r111_1 hk, ck_r111_2 hk, ck_r111_3 hk, ck_r111_4 hk, ck_is114 hk, ck_r114_0 hk, ck_r114_1 hk, ck_r114_2 hk, ck_r114_3 hk, ck_r114_4 hk, bV, bI, bT, bF, bD, bS, bH, bR0, bR1, bR2, bR3, bR4, bFo, bX, bNo, bG0, bG1, bG2, bG3, c]
    · unfold mm_M_end mm_M_end_j12
      simp (disch := omega) only [pb_its, pb_l2, pb_ll, nI_add, pb_mul, if_true, if_false, pb_bs, pb_b2n, pb_bz0, pb_bz1, pb_10, pb_01, pb_i31, mk_is hk2, mk_g0 hk2, mk_g1 hk2, mk_g2 hk2, mk_g3 hk2, mk_g4 hk2, mk_g5 hk2, mk_g6 hk2, mk_g7 hk2, mk_g8 hk2, mk_g9 hk2, mk_g10 hk2, mk_g11 hk2, mk_g12 hk2, mk_g13 hk2, mk_g14 hk2, mk_g15 hk2, mk_g16 hk2, mk_g17 hk2, mk_g18 hk2, mk_g19 hk2, mk_g20 hk2, mk_g21 hk2, mk_g22 hk2, c]
  · have n0 : ¬ z < nI 0 := fun q => absurd (Int32.lt_of_le_of_lt c q) (nI_nlt (by omega) (by omega))
    have n1 : ¬ z ≤ nI T.length := fun q => absurd (Int32.le_trans c q) (nI_ge (by omega) (by omega))
    refine jo_no hc hm ha0 (r := -nI 1) ?_ ?_
    · unfold mm_S_end mm_S_end_j15
      simp (disch := omega) only [pb_its, pb_l2, pb_ll, nI_add, pb_mul, if_true, if_false, pb_bs, pb_b2n, pb_bz0, pb_bz1, pb_10, pb_01, pb_i31, ck_is0 hk, ck_r0_0 hk, ck_r0_1 hk, ck_r0_2 hk, ck_r0_3 hk, ck_r0_4 hk, ck_r0_5 hk, ck_r0_6 hk, ck_r0_7 hk, ck_r0_8 hk, ck_r0_9 hk, ck_is1 hk, ck_r1_0 hk, ck_is3 hk, ck_r3_0 hk, ck_r3_1 hk, ck_is20 hk, ck_r20_0 hk, ck_r20_1 hk, ck_r20_2 hk, ck_is24 hk, ck_r24_1 hk, ck_r24_2 hk, ck_r24_3 hk, ck_r24_4 hk, ck_is33 hk, ck_r33_0 hk, ck_r33_1 hk, ck_is40 hk, ck_r40_0 hk, ck_is102 hk, ck_r102_0 hk, ck_r102_1 hk, ck_r102_2 hk, ck_r102_3 hk, ck_r102_4 hk, ck_r102_5 hk, ck_is103 hk, ck_r103_0 hk, ck_r103_1 hk, ck_is111 hk, ck_r111_0 hk, ck_r111_1 hk, ck_r111_2 hk, ck_r111_3 hk, ck_r111_4 hk, ck_is114 hk, ck_r114_0 hk, ck_r114_1 hk, ck_r114_2 hk, ck_r114_3 hk, ck_r114_4 hk, bV, bI, bT, bF, bD, bS, bH, bR0, bR1, bR2, bR3, bR4, bFo, bX, bNo, bG0, bG1, bG2, bG3, n0, r2, n1]
    · unfold mm_M_end mm_M_end_j12
      simp (disch := omega) only [pb_its, pb_l2, pb_ll, nI_add, pb_mul, if_true, if_false, pb_bs, pb_b2n, pb_bz0, pb_bz1, pb_10, pb_01, pb_i31, mk_is hk2, mk_g0 hk2, mk_g1 hk2, mk_g2 hk2, mk_g3 hk2, mk_g4 hk2, mk_g5 hk2, mk_g6 hk2, mk_g7 hk2, mk_g8 hk2, mk_g9 hk2, mk_g10 hk2, mk_g11 hk2, mk_g12 hk2, mk_g13 hk2, mk_g14 hk2, mk_g15 hk2, mk_g16 hk2, mk_g17 hk2, mk_g18 hk2, mk_g19 hk2, mk_g20 hk2, mk_g21 hk2, mk_g22 hk2, n0, q1, n1]
  · have n0 : ¬ nI j < nI 0 := nI_nlt (by omega) (by omega)
    have n1 : nI j ≤ nI T.length := nI_le (by omega) (by omega)
    obtain ⟨h', e1, c1⟩ := cb_tl (q := j) hb (by omega)
    obtain ⟨g', f1, m1⟩ := mb_tl (q := j) hm1 (by omega)
    have hl : (T.take j).length = j := by rw [List.length_take]; omega
    refine jo_st (T := T.take j) (a := a) (fo := fo) (x := x) (RS := RS) (US := US) (I := I) ⟨⟨by omega, fun i hi => ?_⟩, ⟨k, m, d, Hsd, Hul, Hu⟩, HRS, Hfo, Hx, HI⟩ c1 m1 (r := nI j) ?_ ?_
    · rw [hl] at hi
      rw [gd_take hi]
      exact Ht2 i (by omega)
    · unfold mm_S_end
      simp (disch := omega) only [pb_its, pb_l2, pb_ll, nI_add, pb_mul, if_true, if_false, pb_bs, pb_b2n, pb_bz0, pb_bz1, pb_10, pb_01, pb_i31, ck_is0 hk, ck_r0_0 hk, ck_r0_1 hk, ck_r0_2 hk, ck_r0_3 hk, ck_r0_4 hk, ck_r0_5 hk, ck_r0_6 hk, ck_r0_7 hk, ck_r0_8 hk, ck_r0_9 hk, ck_is1 hk, ck_r1_0 hk, ck_is3 hk, ck_r3_0 hk, ck_r3_1 hk, ck_is20 hk, ck_r20_0 hk, ck_r20_1 hk, ck_r20_2 hk, ck_is24 hk, ck_r24_1 hk, ck_r24_2 hk, ck_r24_3 hk, ck_r24_4 hk, ck_is33 hk, ck_r33_0 hk, ck_r33_1 hk, ck_is40 hk, ck_r40_0 hk, ck_is102 hk, ck_r102_0 hk, ck_r102_1 hk, ck_r102_2 hk, ck_r102_3 hk, ck_r102_4 hk, ck_r102_5 hk, ck_is103 hk, ck_r103_0 hk, ck_r103_1 hk, ck_is111 hk, ck_r111_0 hk, ck_r111_1 hk, ck_r111_2 hk, ck_r111_3 hk, ck_r111_4 hk, ck_is114 hk, ck_r114_0 hk, ck_r114_1 hk, ck_r114_2 hk, ck_r114_3 hk, ck_r114_4 hk, bV, bI, bT, bF, bD, bS, bH, bR0, bR1, bR2, bR3, bR4, bFo, bX, bNo, bG0, bG1, bG2, bG3, n0, r2, n1, e1]
    · unfold mm_M_end
      simp (disch := omega) only [pb_its, pb_l2, pb_ll, nI_add, pb_mul, if_true, if_false, pb_bs, pb_b2n, pb_bz0, pb_bz1, pb_10, pb_01, pb_i31, mk_is hk2, mk_g0 hk2, mk_g1 hk2, mk_g2 hk2, mk_g3 hk2, mk_g4 hk2, mk_g5 hk2, mk_g6 hk2, mk_g7 hk2, mk_g8 hk2, mk_g9 hk2, mk_g10 hk2, mk_g11 hk2, mk_g12 hk2, mk_g13 hk2, mk_g14 hk2, mk_g15 hk2, mk_g16 hk2, mk_g17 hk2, mk_g18 hk2, mk_g19 hk2, mk_g20 hk2, mk_g21 hk2, mk_g22 hk2, n0, q1, n1, f1]
/-! feed -/
theorem pb_byte (x : Int32) : ∃ b, b < 256 ∧ x &&& nI 255 = nI b ∧ vp_nar .byte (x.toInt8.toInt32) = mb_8 b := by
  have hb : x.toBitVec.toNat % 256 < 256 := Nat.mod_lt _ (by omega)
  refine ⟨x.toBitVec.toNat % 256, hb, ?_, ?_⟩
  · apply Int32.toBitVec_inj.mp
    apply BitVec.eq_of_toNat_eq
    rw [Int32.toBitVec_and, BitVec.toNat_and]
    have e1 : (nI 255).toBitVec.toNat = 2 ^ 8 - 1 := by decide
    have e2 : (nI (x.toBitVec.toNat % 256)).toBitVec.toNat = (x.toBitVec.toNat % 256) % 2 ^ 32 := rfl
    rw [e1, e2, Nat.and_two_pow_sub_one_eq_mod]
    omega
  · have e1 : vp_nar .byte (x.toInt8.toInt32) = x.toInt8.toInt32.toInt8.toInt32 := rfl
    rw [e1, Int8.toInt8_toInt32]
    apply Int32.toInt_inj.mp
    have e2 : (x.toInt8.toInt32).toInt = (x.toBitVec.toNat : Int).bmod 256 := by
      rw [Int8.toInt_toInt32, Int32.toInt_toInt8, ← Int32.toInt_toBitVec, BitVec.toInt_eq_toNat_bmod]
      exact Int.bmod_bmod_of_dvd (by decide)
    rw [e2, Int.bmod_def]
    unfold mb_8
    by_cases c : x.toBitVec.toNat % 256 < 128
    · rw [if_pos (by omega), if_pos c, nI_toInt (by omega)]
      omega
    · rw [if_neg (by omega), if_neg c, Int32.toInt_sub, nI_toInt (by omega), nI_toInt (by omega), Int.bmod_def]
      rw [if_neg (by omega)]
      omega
noncomputable def by8 (z : Int32) (s : Nat) : Nat := Classical.choose (pb_byte (z >>> nI s))
theorem by8_s (z : Int32) (s : Nat) : by8 z s < 256 ∧ (z >>> nI s) &&& nI 255 = nI (by8 z s) ∧ vp_nar .byte ((z >>> nI s).toInt8.toInt32) = mb_8 (by8 z s) := Classical.choose_spec (pb_byte (z >>> nI s))
theorem gd_snoc {T : List Nat} {b i : Nat} (h : i < T.length + 1) : (T ++ [b]).getD i 0 = if i = T.length then b else T.getD i 0 := by
  by_cases e : i = T.length
  · rw [if_pos e, e, List.getD_eq_getElem?_getD, List.getElem?_append_right (Nat.le_refl _)]
    simp
  · rw [if_neg e, List.getD_eq_getElem?_getD, List.getElem?_append_left (by omega), List.getD_eq_getElem?_getD]
theorem ln_snoc (T : List Nat) (b : Nat) : (T ++ [b]).length = T.length + 1 := by simp
theorem cb_put1 {N : Nat} {h0 h : ss_Hp} {T : List Nat} {a : List Int32} {fo x : Int32} {RS : List (List ru_C)} {US : List (List Int32)} {I : Nat → Option (List Int32 × Int32 × Int32)} {Z : Nat → List Int32} {y : Int32} {s : Nat} (hc : cb_h h0 h T a fo x RS US I Z) (hT : T.length < 400) (hs : s < 32) : ∃ h', mm_T_put_b3 N (some 1) y (nI s, h) = some (.inl (nI s + -nI 8, h')) ∧ cb_h h0 h' (T ++ [by8 y s]) a fo x RS US I Z := by
  obtain ⟨n, g, rc, ti, tb, vt, ri, cd, sx, rl, wi, wv, gi, gs, gw, nd, ns, nw, il, ai, yv, yr, yi, ys, yw, yt, yh, yf, yo, yk, fr, fg, pl, pc, pg, rfl, F, hg, z⟩ := hc
  obtain ⟨Fn, Frc, ⟨Ft1, Ft2, Ft3, Ft4⟩, Fr, Fl, ⟨Fw, ⟨v, Fv, Fq⟩, Fg, Fs, Fwl, Fno⟩, Fi, ⟨nx, Fa, Fu⟩, Fy, Ff⟩ := F
  obtain ⟨b1, b2, b3⟩ := by8_s y s
  have n0 : ¬ nI s < nI 0 := nI_nlt (by omega) (by omega)
  have n1 : ¬ nI 400 ≤ nI T.length := nI_ge hT (by omega)
  have e0 : ∀ w, ss_gi (pk_C n g rc ti w vt ri cd sx rl wi wv gi gs gw nd ns nw il ai yv yr yi ys yw yt yh yf yo yk fr fg pl pc pg) (some 1) 2 0 = some (nI T.length) := fun w => by rw [pk_i1 (by omega), Ft2]
  refine ⟨(pk_C n g rc (ti.set 0 (nI (T.length + 1))) (tb.set T.length (nI (by8 y s))) vt ri cd sx rl wi wv gi gs gw nd ns nw il ai yv yr yi ys yw yt yh yf yo yk fr fg pl pc pg), ?_, n, g, rc, _, _, vt, ri, cd, sx, rl, wi, wv, gi, gs, gw, nd, ns, nw, il, ai, yv, yr, yi, ys, yw, yt, yh, yf, yo, yk, fr, fg, pl, pc, pg, rfl, ⟨Fn, Frc, ⟨by rw [List.length_set]; exact Ft1, by rw [ln_snoc]; exact pv_eq (by omega), by rw [List.length_set]; exact Ft3, fun i hi => ?_⟩, Fr, Fl, ⟨Fw, ⟨v, Fv, Fq⟩, Fg, Fs, Fwl, Fno⟩, Fi, ⟨nx, Fa, Fu⟩, Fy, Ff⟩, hg, z⟩
  · unfold mm_T_put_b3
    simp (disch := omega) only [pb_its, pb_l2, pb_ll, nI_add, pb_mul, if_true, if_false, pb_bs, pb_b2n, pb_bz0, pb_bz1, pb_10, pb_01, pb_i31, n0, e0, n1, pk_r1_0, pk_u2, b2, pk_q1]
  · rw [ln_snoc] at hi
    rw [gd_snoc hi, pv_set (by omega)]
    by_cases e : i = T.length
    · rw [if_pos e, if_pos e]
    · rw [if_neg e, if_neg e]
      exact Ft4 i (by omega)
theorem mb_four1 {N : Nat} {h0 h : ss_Hp} {T : List Nat} {a : List Int32} {fo x : Int32} {RS : List (List ru_C)} {US : List (List Int32)} {I : Nat → Option (List Int32 × Int32 × Int32)} {fo2 : Int32} {b th2 fa2 kp2 : List Int32} {dx2 : Int64} {Z : Nat → List Int32} {y : Int32} {s : Nat} (hc : mb_h h0 h T a fo x RS US I fo2 b th2 fa2 kp2 dx2 Z) (hT : T.length < 400) (hs : s < 32) : ∃ h', mm_M_four_b3 N (some 118) y (nI s, h) = some (.inl (nI s + -nI 8, h')) ∧ mb_h h0 h' (T ++ [by8 y s]) a fo x RS US I fo2 b th2 fa2 kp2 dx2 Z := by
  obtain ⟨n, f, mi, dx, tp, sg, lg, cl, cs, rd, op, sk, wd, sd, th, fa, ws, kp, li, pr, hb, fi, st, im, jf, jx, mk, rfl, F, hfo, ⟨w1, w2, w3, w4, w5⟩, z, hn, hf⟩ := hc
  subst w1 w2 w3 w4 w5
  obtain ⟨⟨Lmi, Ltp, Lsg, Llg, Lcl, Lcs, Lrd, Lop, Lsk, Lwd, Lth, Lfa⟩, ⟨Lws, Lkp, Lli, Lpr, Lhb, Lfi, Lst, Lim, Ljf, Ljx, Lmk⟩, ⟨Mt1, Mt2⟩, ⟨Mr1, Mr2⟩, ⟨M13, M14, Ma⟩, ⟨M15, Mu⟩, Mim⟩ := id F
  rw [List.length_set] at Lmi
  rw [pv_ne (by omega)] at Mt1 Mr1 M14 M15
  obtain ⟨b1, b2, b3⟩ := by8_s y s
  have n0 : ¬ nI s < nI 0 := nI_nlt (by omega) (by omega)
  have e0 : ∀ w, ss_gi (pm_M n f mi dx w sg lg cl cs rd op sk wd sd th fa ws kp li pr hb fi st im jf jx mk) (some 118) 12 0 = some (nI T.length) := fun w => by rw [pn_gi (by omega), Mt1]
  refine ⟨(pm_M n f (mi.set 0 (nI (T.length + 1))) dx (tp.set T.length (mb_8 (by8 y s))) sg lg cl cs rd op sk wd sd th fa ws kp li pr hb fi st im jf jx mk), ?_, n, f, _, dx, _, sg, lg, cl, cs, rd, op, sk, wd, sd, th, fa, ws, kp, li, pr, hb, fi, st, im, jf, jx, mk, rfl, ⟨⟨by rw [List.length_set, List.length_set]; exact Lmi, by rw [List.length_set]; exact Ltp, Lsg, Llg, Lcl, Lcs, Lrd, Lop, Lsk, Lwd, Lth, Lfa⟩, ⟨Lws, Lkp, Lli, Lpr, Lhb, Lfi, Lst, Lim, Ljf, Ljx, Lmk⟩, ⟨by rw [pv_ne (by omega), ln_snoc]; exact pv_eq (by omega), fun i hi => ?_⟩, ⟨by rw [pv_ne (by omega), pv_ne (by omega)]; exact Mr1, Mr2⟩, ⟨pv_eq (by rw [List.length_set]; omega), by rw [pv_ne (by omega), pv_ne (by omega)]; exact M14, rfl⟩, ⟨by rw [pv_ne (by omega), pv_ne (by omega)]; exact M15, Mu⟩, Mim⟩, by rw [pv_ne (by omega)]; exact hfo, ⟨rfl, rfl, rfl, rfl, rfl⟩, z, hn, hf⟩
  · unfold mm_M_four_b3
    simp (disch := omega) only [pb_its, pb_l2, pb_ll, nI_add, pb_mul, if_true, if_false, pb_bs, pb_b2n, pb_bz0, pb_bz1, pb_10, pb_01, pb_i31, pn_g0, n0, e0, pn_u0, b3, pn_pi]
  · rw [ln_snoc] at hi
    rw [gd_snoc hi, pv_set (by omega)]
    by_cases e : i = T.length
    · rw [if_pos e, if_pos e]
    · rw [if_neg e, if_neg e]
      exact Mt2 i (by omega)
noncomputable def tp4 (T : List Nat) (y : Int32) : List Nat := T ++ [by8 y 24] ++ [by8 y 16] ++ [by8 y 8] ++ [by8 y 0]
theorem tp4_len (T : List Nat) (y : Int32) : (tp4 T y).length = T.length + 4 := by simp [tp4]
theorem tp4_ok {T : List Nat} (y : Int32) (h : ∀ i, i < T.length → T.getD i 0 < 256) : ∀ i, i < (tp4 T y).length → (tp4 T y).getD i 0 < 256 := by
  have key : ∀ (T : List Nat) (b : Nat), b < 256 → (∀ i, i < T.length → T.getD i 0 < 256) → ∀ i, i < (T ++ [b]).length → (T ++ [b]).getD i 0 < 256 := fun T b hb hT i hi => by
    rw [ln_snoc] at hi
    rw [gd_snoc hi]
    split
    · exact hb
    · exact hT i (by omega)
  exact key _ _ (by8_s y 0).1 (key _ _ (by8_s y 8).1 (key _ _ (by8_s y 16).1 (key _ _ (by8_s y 24).1 h)))
theorem pb_248 : nI 24 + -nI 8 = nI 16 ∧ nI 16 + -nI 8 = nI 8 ∧ nI 8 + -nI 8 = nI 0 ∧ nI 0 + -nI 8 < nI 0 := by decide
theorem cb_put {N : Nat} {h0 h : ss_Hp} {T : List Nat} {a : List Int32} {fo x : Int32} {RS : List (List ru_C)} {US : List (List Int32)} {I : Nat → Option (List Int32 × Int32 × Int32)} {Z : Nat → List Int32} {y : Int32} (hc : cb_h h0 h T a fo x RS US I Z) (hT : T.length + 4 ≤ 400) (hN : 10 < N) : ∃ h', mm_T_put N (some 1) y h = some h' ∧ cb_h h0 h' (tp4 T y) a fo x RS US I Z := by
  obtain ⟨p1, p2, p3, p4⟩ := pb_248
  obtain ⟨h1, e1, c1⟩ := cb_put1 (N := N) (y := y) (s := 24) hc (by omega) (by omega)
  obtain ⟨h2, e2, c2⟩ := cb_put1 (N := N) (y := y) (s := 16) c1 (by simp; omega) (by omega)
  obtain ⟨h3, e3, c3⟩ := cb_put1 (N := N) (y := y) (s := 8) c2 (by simp; omega) (by omega)
  obtain ⟨h4, e4, c4⟩ := cb_put1 (N := N) (y := y) (s := 0) c3 (by simp; omega) (by omega)
  refine ⟨h4, ?_, c4⟩
  rw [p1] at e1
  rw [p2] at e2
  rw [p3] at e3
  have e5 : mm_T_put_b3 N (some 1) y (nI 0 + -nI 8, h4) = some (.inr h4) := by
    unfold mm_T_put_b3
    simp (disch := omega) only [pb_its, pb_l2, pb_ll, nI_add, pb_mul, if_true, if_false, pb_bs, pb_b2n, pb_bz0, pb_bz1, pb_10, pb_01, pb_i31, p4]
  have l : ss_lp (mm_T_put_b3 N (some 1) y) N (nI 24, h) = some h4 := pb_mono 5 N _ _ (pb_step e1 (pb_step e2 (pb_step e3 (pb_step e4 (pb_stop e5))))) (by omega)
  have hk := cb_ck hc
  unfold mm_T_put
  simp (disch := omega) only [pb_its, pb_l2, pb_ll, nI_add, pb_mul, if_true, if_false, pb_bs, pb_b2n, pb_bz0, pb_bz1, pb_10, pb_01, pb_i31, ck_is0 hk, ck_r0_0 hk, ck_r0_1 hk, ck_r0_2 hk, ck_r0_3 hk, ck_r0_4 hk, ck_r0_5 hk, ck_r0_6 hk, ck_r0_7 hk, ck_r0_8 hk, ck_r0_9 hk, ck_is1 hk, ck_r1_0 hk, ck_is3 hk, ck_r3_0 hk, ck_r3_1 hk, ck_is20 hk, ck_r20_0 hk, ck_r20_1 hk, ck_r20_2 hk, ck_is24 hk, ck_r24_1 hk, ck_r24_2 hk, ck_r24_3 hk, ck_r24_4 hk, ck_is33 hk, ck_r33_0 hk, ck_r33_1 hk, ck_is40 hk, ck_r40_0 hk, ck_is102 hk, ck_r102_0 hk, ck_r102_1 hk, ck_r102_2 hk, ck_r102_3 hk, ck_r102_4 hk, ck_r102_5 hk, ck_is103 hk, ck_r103_0 hk, ck_r103_1 hk, ck_is111 hk, ck_r111_0 hk, ck_r111_1 hk, ck_r111_2 hk, ck_r111_3 hk, ck_r111_4 hk, ck_is114 hk, ck_r114_0 hk, ck_r114_1 hk, ck_r114_2 hk, ck_r114_3 hk, ck_r114_4 hk, l]
theorem mb_four {N : Nat} {h0 h : ss_Hp} {T : List Nat} {a : List Int32} {fo x : Int32} {RS : List (List ru_C)} {US : List (List Int32)} {I : Nat → Option (List Int32 × Int32 × Int32)} {fo2 : Int32} {b th2 fa2 kp2 : List Int32} {dx2 : Int64} {Z : Nat → List Int32} {y : Int32} (hc : mb_h h0 h T a fo x RS US I fo2 b th2 fa2 kp2 dx2 Z) (hT : T.length + 4 ≤ 400) (hN : 10 < N) : ∃ h', mm_M_four N (some 118) y h = some h' ∧ mb_h h0 h' (tp4 T y) a fo x RS US I fo2 b th2 fa2 kp2 dx2 Z := by
  obtain ⟨p1, p2, p3, p4⟩ := pb_248
  obtain ⟨h1, e1, c1⟩ := mb_four1 (N := N) (y := y) (s := 24) hc (by omega) (by omega)
  obtain ⟨h2, e2, c2⟩ := mb_four1 (N := N) (y := y) (s := 16) c1 (by simp; omega) (by omega)
  obtain ⟨h3, e3, c3⟩ := mb_four1 (N := N) (y := y) (s := 8) c2 (by simp; omega) (by omega)
  obtain ⟨h4, e4, c4⟩ := mb_four1 (N := N) (y := y) (s := 0) c3 (by simp; omega) (by omega)
  refine ⟨h4, ?_, c4⟩
  rw [p1] at e1
  rw [p2] at e2
  rw [p3] at e3
  have e5 : mm_M_four_b3 N (some 118) y (nI 0 + -nI 8, h4) = some (.inr h4) := by
    unfold mm_M_four_b3
    simp (disch := omega) only [pb_its, pb_l2, pb_ll, nI_add, pb_mul, if_true, if_false, pb_bs, pb_b2n, pb_bz0, pb_bz1, pb_10, pb_01, pb_i31, p4]
  have l : ss_lp (mm_M_four_b3 N (some 118) y) N (nI 24, h) = some h4 := pb_mono 5 N _ _ (pb_step e1 (pb_step e2 (pb_step e3 (pb_step e4 (pb_stop e5))))) (by omega)
  have hk := mb_mk hc
  unfold mm_M_four
  simp (disch := omega) only [pb_its, pb_l2, pb_ll, nI_add, pb_mul, if_true, if_false, pb_bs, pb_b2n, pb_bz0, pb_bz1, pb_10, pb_01, pb_i31, mk_is hk, mk_g0 hk, mk_g1 hk, mk_g2 hk, mk_g3 hk, mk_g4 hk, mk_g5 hk, mk_g6 hk, mk_g7 hk, mk_g8 hk, mk_g9 hk, mk_g10 hk, mk_g11 hk, mk_g12 hk, mk_g13 hk, mk_g14 hk, mk_g15 hk, mk_g16 hk, mk_g17 hk, mk_g18 hk, mk_g19 hk, mk_g20 hk, mk_g21 hk, mk_g22 hk, l]
theorem jx_feed {N : Nat} {h h2 : ss_Hp} {y1 y2 y3 y4 y5 : Int32} {T : List Nat} {a : List Int32} {fo x : Int32} {RS : List (List ru_C)} {US : List (List Int32)} {I : Nat → Option (List Int32 × Int32 × Int32)} (hc : cl_h h T a fo x RS US I) (hm : mo_h h2 T a fo x RS US I) (ha : as_ok T a fo x RS US I) (hN : 5000 < N) : jo (mm_S_feed N (some 0) y1 y2 y3 y4 y5 h) (mm_M_feed N (some 118) y1 y2 y3 y4 y5 h2) h h2 := by
  obtain ⟨Z, hb⟩ := cb_of hc
  obtain ⟨v, ⟨⟨bV, bI, bT, bF, bD, bS, bH⟩, ⟨bR0, bR1, bR2, bR3, bR4⟩, ⟨bFo, bX, bNo⟩, ⟨bG0, bG1, bG2, bG3⟩, bOwn, bStr, bBes, bSn, bWl, bNd, bCl⟩⟩ := cb_r hb
  have hk := cb_ck hb
  obtain ⟨th, fa, kp, dx, Y, hm1⟩ := mb_of hm
  have hk2 := mb_mk hm1
  have ha0 := ha
  obtain ⟨⟨Ht1, Ht2⟩, ⟨k, m, d, Hsd, Hul, Hu⟩, HRS, Hfo, Hx, HI⟩ := ha
  have Hok := Hsd.1
  obtain ⟨Hl, ⟨Hk, H2⟩, ⟨Hm, H3⟩, ⟨Hd, H10⟩, Hwl, Hbe, How⟩ := Hok
  obtain ⟨r1, r2, r3, r4⟩ := cb_more hb
  obtain ⟨q1, q2, q3, q4, q5⟩ := mb_gi hm1
  by_cases c : 380 < T.length
  · have n0 : ¬ nI T.length ≤ nI 380 := nI_ge c (by omega)
    have n1 : ¬ nI (T.length + 20) ≤ nI 400 := nI_ge (by omega) (by omega)
    refine jo_no hc hm ha0 (r := -nI 1) ?_ ?_
    · unfold mm_S_feed
      simp (disch := omega) only [pb_its, pb_l2, pb_ll, nI_add, pb_mul, if_true, if_false, pb_bs, pb_b2n, pb_bz0, pb_bz1, pb_10, pb_01, pb_i31, ck_is0 hk, ck_r0_0 hk, ck_r0_1 hk, ck_r0_2 hk, ck_r0_3 hk, ck_r0_4 hk, ck_r0_5 hk, ck_r0_6 hk, ck_r0_7 hk, ck_r0_8 hk, ck_r0_9 hk, ck_is1 hk, ck_r1_0 hk, ck_is3 hk, ck_r3_0 hk, ck_r3_1 hk, ck_is20 hk, ck_r20_0 hk, ck_r20_1 hk, ck_r20_2 hk, ck_is24 hk, ck_r24_1 hk, ck_r24_2 hk, ck_r24_3 hk, ck_r24_4 hk, ck_is33 hk, ck_r33_0 hk, ck_r33_1 hk, ck_is40 hk, ck_r40_0 hk, ck_is102 hk, ck_r102_0 hk, ck_r102_1 hk, ck_r102_2 hk, ck_r102_3 hk, ck_r102_4 hk, ck_r102_5 hk, ck_is103 hk, ck_r103_0 hk, ck_r103_1 hk, ck_is111 hk, ck_r111_0 hk, ck_r111_1 hk, ck_r111_2 hk, ck_r111_3 hk, ck_r111_4 hk, ck_is114 hk, ck_r114_0 hk, ck_r114_1 hk, ck_r114_2 hk, ck_r114_3 hk, ck_r114_4 hk, bV, bI, bT, bF, bD, bS, bH, bR0, bR1, bR2, bR3, bR4, bFo, bX, bNo, bG0, bG1, bG2, bG3, r2, n0]
    · unfold mm_M_feed
      simp (disch := omega) only [pb_its, pb_l2, pb_ll, nI_add, pb_mul, if_true, if_false, pb_bs, pb_b2n, pb_bz0, pb_bz1, pb_10, pb_01, pb_i31, mk_is hk2, mk_g0 hk2, mk_g1 hk2, mk_g2 hk2, mk_g3 hk2, mk_g4 hk2, mk_g5 hk2, mk_g6 hk2, mk_g7 hk2, mk_g8 hk2, mk_g9 hk2, mk_g10 hk2, mk_g11 hk2, mk_g12 hk2, mk_g13 hk2, mk_g14 hk2, mk_g15 hk2, mk_g16 hk2, mk_g17 hk2, mk_g18 hk2, mk_g19 hk2, mk_g20 hk2, mk_g21 hk2, mk_g22 hk2, q1, n1]
  · have n0 : nI T.length ≤ nI 380 := nI_le (by omega) (by omega)
    have n1 : nI (T.length + 20) ≤ nI 400 := nI_le (by omega) (by omega)
    obtain ⟨h1, e1, c1⟩ := cb_put (N := N) (y := y1) hb (by omega) (by omega)
    obtain ⟨h3, e2, c2⟩ := cb_put (N := N) (y := y2) c1 (by simp only [tp4_len]; omega) (by omega)
    obtain ⟨h4, e3, c3⟩ := cb_put (N := N) (y := y3) c2 (by simp only [tp4_len]; omega) (by omega)
    obtain ⟨h5, e4, c4⟩ := cb_put (N := N) (y := y4) c3 (by simp only [tp4_len]; omega) (by omega)
    obtain ⟨h6, e5, c5⟩ := cb_put (N := N) (y := y5) c4 (by simp only [tp4_len]; omega) (by omega)
    obtain ⟨g1, f1, m1⟩ := mb_four (N := N) (y := y1) hm1 (by omega) (by omega)
    obtain ⟨g3, f2, m2⟩ := mb_four (N := N) (y := y2) m1 (by simp only [tp4_len]; omega) (by omega)
    obtain ⟨g4, f3, m3⟩ := mb_four (N := N) (y := y3) m2 (by simp only [tp4_len]; omega) (by omega)
    obtain ⟨g5, f4, m4⟩ := mb_four (N := N) (y := y4) m3 (by simp only [tp4_len]; omega) (by omega)
    obtain ⟨g6, f5, m5⟩ := mb_four (N := N) (y := y5) m4 (by simp only [tp4_len]; omega) (by omega)
    have k1 := cb_ck c1
    have k2 := cb_ck c2
    have k3 := cb_ck c3
    have k4 := cb_ck c4
    have k5 := cb_ck c5
    have t1 := (cb_more c5).2.1
    have t2 := (mb_gi m5).1
    refine jo_st ⟨⟨by simp only [tp4_len]; omega, tp4_ok _ (tp4_ok _ (tp4_ok _ (tp4_ok _ (tp4_ok _ Ht2))))⟩, ⟨k, m, d, Hsd, Hul, Hu⟩, HRS, Hfo, Hx, HI⟩ c5 m5 (r := nI (tp4 (tp4 (tp4 (tp4 (tp4 T y1) y2) y3) y4) y5).length) ?_ ?_
    · unfold mm_S_feed
      simp (disch := omega) only [pb_its, pb_l2, pb_ll, nI_add, pb_mul, if_true, if_false, pb_bs, pb_b2n, pb_bz0, pb_bz1, pb_10, pb_01, pb_i31, ck_is0 hk, ck_r0_0 hk, ck_r0_0 k1, ck_r0_0 k2, ck_r0_0 k3, ck_r0_0 k4, ck_r0_0 k5, r2, n0, e1, e2, e3, e4, e5, t1]
    · unfold mm_M_feed
      simp (disch := omega) only [pb_its, pb_l2, pb_ll, nI_add, pb_mul, if_true, if_false, pb_bs, pb_b2n, pb_bz0, pb_bz1, pb_10, pb_01, pb_i31, mk_is hk2, mk_g0 hk2, mk_g1 hk2, mk_g2 hk2, mk_g3 hk2, mk_g4 hk2, mk_g5 hk2, mk_g6 hk2, mk_g7 hk2, mk_g8 hk2, mk_g9 hk2, mk_g10 hk2, mk_g11 hk2, mk_g12 hk2, mk_g13 hk2, mk_g14 hk2, mk_g15 hk2, mk_g16 hk2, mk_g17 hk2, mk_g18 hk2, mk_g19 hk2, mk_g20 hk2, mk_g21 hk2, mk_g22 hk2, q1, n1, f1, f2, f3, f4, f5, t2]
