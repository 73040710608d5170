/-! ===== notes; acts kept and taken back ===== -/
def sa_note (a : List Int32) (q : Nat) (y1 y2 y3 : Int32) : List Int32 := (((a.set (93 + 3 * q) y1).set (93 + 3 * q + 1) y2).set (93 + 3 * q + 2) y3).set 123 (nI (q + 1))
theorem sa_note_pv {a : List Int32} {q j : Nat} {y1 y2 y3 : Int32} (hl : a.length = 124) (hq : q < 10) : pv (sa_note a q y1 y2 y3) j = if j = 123 then nI (q + 1) else if j = 93 + 3 * q + 2 then y3 else if j = 93 + 3 * q + 1 then y2 else if j = 93 + 3 * q then y1 else pv a j := by
  unfold sa_note
  rw [pv_set (by simp only [List.length_set]; omega), pv_set (by simp only [List.length_set]; omega), pv_set (by simp only [List.length_set]; omega), pv_set (by omega)]
theorem sa_note_len {a : List Int32} {q : Nat} {y1 y2 y3 : Int32} : (sa_note a q y1 y2 y3).length = a.length := by
  unfold sa_note
  simp only [List.length_set]
theorem sa_note_low {a : List Int32} {q j : Nat} {y1 y2 y3 : Int32} (hl : a.length = 124) (hq : q < 10) (hj : j < 93) : pv (sa_note a q y1 y2 y3) j = pv a j := by
  rw [sa_note_pv hl hq, if_neg (by omega), if_neg (by omega), if_neg (by omega), if_neg (by omega)]
theorem cb_zn {h0 h : ss_Hp} {T : List Nat} {a : List Int32} {fo x : Int32} {RS : List (List ru_C)} {US : List (List Int32)} {I : Nat → Option (List Int32 × Int32 × Int32)} {Z : Nat → List Int32} (hc : cb_h h0 h T a fo x RS US I Z) (hl : a.length = 124) : ∃ h', ss_pi h (some 24) 8 2 (nI 0) = some h' ∧ cb_h h0 h' T (a.set 123 (nI 0)) fo x RS US I Z := by
  obtain ⟨n, g, rc, ti, tb, vt, ri, cd, sx, rl, wi, wv, gi, gs, gw, nd, ns, nw, il, ai, yv, yr, yi, ys, yw, yt, yh, yf, yo, yk, fr, fg, pl, pc, pg, rfl, F, hg, z⟩ := hc
  obtain ⟨Fn, Frc, ⟨Ft1, Ft2, Ft3, Ft4⟩, Fr, Fl, ⟨Fw, ⟨v, Fv, Fq⟩, Fg, Fs, Fwl, Fno⟩, Fi, ⟨nx, Fa, Fu⟩, Fy, Ff⟩ := F
  subst Fw
  have e : ∀ j, j < 123 → pv (a.set 123 (nI 0)) j = pv a j := fun j hj => pv_ne (by omega)
  refine ⟨_, pk_y24_2, n, g, rc, ti, tb, vt, ri, cd, sx, rl, _, _, _, _, _, nd, ns, nw, il, _, _, _, _, _, _, _, _, _, _, _, fr, fg, pl, pc, pg, rfl, ⟨Fn, Frc, ⟨Ft1, Ft2, Ft3, Ft4⟩, Fr, Fl, ⟨by rw [pv_eq (by omega)], ⟨v, Fv, qv_R_of Fq (fun j hj => e j (by omega))⟩, by rw [e 10 (by omega), e 11 (by omega), e 12 (by omega), e 13 (by omega)]; exact Fg, by rw [sl_ne (by omega)]; exact Fs, ⟨Fwl.1, fun ht => by rw [sl_ne (by omega)]; rw [e 0 (by omega)] at ht; exact Fwl.2 ht⟩, ⟨Fno.1, Fno.2.1, Fno.2.2.1, fun q hq h i hi => ?_⟩⟩, Fi, ⟨nx, Fa, Fu⟩, Fy, Ff⟩, hg, z⟩
  rw [pv_eq (by omega)] at h
  have := (nI_eq (by omega) (by omega)).mp h
  omega
theorem cb_note {N : Nat} {h0 h : ss_Hp} {T : List Nat} {a : List Int32} {fo x : Int32} {RS : List (List ru_C)} {US : List (List Int32)} {I : Nat → Option (List Int32 × Int32 × Int32)} {Z : Nat → List Int32} {q : Nat} {y1 y2 y3 : Int32} (hc : cb_h h0 h T a fo x RS US I Z) (hl : a.length = 124) (hq : q < 10) (h123 : pv a 123 = nI q) : ∃ h', mm_Wo_addNote N (some 24) y1 y2 y3 h = some (nI (q + 1), h') ∧ cb_h h0 h' T (sa_note a q y1 y2 y3) fo x RS US I Z := by
  obtain ⟨n, g, rc, ti, tb, vt, ri, cd, sx, rl, wi, wv, gi, gs, gw, nd, ns, nw, il, ai, yv, yr, yi, ys, yw, yt, yh, yf, yo, yk, fr, fg, pl, pc, pg, rfl, F, hg, z⟩ := hc
  obtain ⟨Fn, Frc, ⟨Ft1, Ft2, Ft3, Ft4⟩, Fr, Fl, ⟨Fw, ⟨v, Fv, Fq⟩, Fg, Fs, Fwl, Fno⟩, Fi, ⟨nx, Fa, Fu⟩, Fy, Ff⟩ := F
  rw [h123] at Fw
  subst Fw
  obtain ⟨N1, N2, N3, N4⟩ := Fno
  have n0 : ¬ nI 10 ≤ nI q := nI_ge hq (by omega)
  have e : ∀ j, j < 93 → pv (sa_note a q y1 y2 y3) j = pv a j := fun j hj => sa_note_low hl hq hj
  have e123 : pv (sa_note a q y1 y2 y3) 123 = nI (q + 1) := by rw [sa_note_pv hl hq, if_pos rfl]
  refine ⟨(pk_C n g rc ti tb vt ri cd sx rl [fo, x, nI (q + 1)] wv gi gs gw (nd.set q y1) (ns.set q y2) (nw.set q y3) il ai yv yr yi ys yw yt yh yf yo yk fr fg pl pc pg), ?_, n, g, rc, ti, tb, vt, ri, cd, sx, rl, _, wv, gi, gs, gw, _, _, _, il, ai, yv, yr, yi, ys, yw, yt, yh, yf, yo, yk, fr, fg, pl, pc, pg, rfl, ⟨Fn, Frc, ⟨Ft1, Ft2, Ft3, Ft4⟩, Fr, Fl, ⟨by rw [e123], ⟨v, Fv, qv_R_of Fq (fun j hj => e j (by omega))⟩, by rw [e 10 (by omega), e 11 (by omega), e 12 (by omega), e 13 (by omega)]; exact Fg, by rw [sl_of (b := sa_note a q y1 y2 y3) (a := a) (fun i hi => e _ (by omega))]; exact Fs, ⟨Fwl.1, fun ht => by rw [sl_of (b := sa_note a q y1 y2 y3) (a := a) (fun i hi => e _ (by omega))]; rw [e 0 (by omega)] at ht; exact Fwl.2 ht⟩, ⟨by rw [List.length_set]; exact N1, by rw [List.length_set]; exact N2, by rw [List.length_set]; exact N3, fun q' hq' h i hi => ?_⟩⟩, Fi, ⟨nx, Fa, Fu⟩, Fy, Ff⟩, hg, z⟩
  · unfold mm_Wo_addNote mm_Wo_addNote_j49
    simp (disch := omega) only [pb_its, pb_l2, pb_ll, nI_add, pb_mul, if_true, if_false, pb_bs, pb_b2n, pb_bz0, pb_bz1, pb_10, pb_01, pb_i31, pk_is24, pk_x24_2, n0, pk_r24_2, pk_r24_3, pk_r24_4, pk_u36, pk_u37, pk_u38, pk_y24_2]
  · rw [e123] at h
    have hq2 := (nI_eq (by omega) (by omega)).mp h
    rw [sa_note_pv hl hq, sa_note_pv hl hq, sa_note_pv hl hq, pv_set (by omega), pv_set (by omega), pv_set (by omega)]
    by_cases c : i = q
    · subst c
      rw [if_pos rfl, if_pos rfl, if_pos rfl, if_neg (by omega), if_neg (by omega), if_neg (by omega), if_pos rfl, if_neg (by omega), if_neg (by omega), if_pos (by omega), if_neg (by omega), if_pos (by omega)]
      exact ⟨rfl, rfl, rfl⟩
    · rw [if_neg c, if_neg c, if_neg c, if_neg (by omega), if_neg (by omega), if_neg (by omega), if_neg (by omega), if_neg (by omega), if_neg (by omega), if_neg (by omega), if_neg (by omega), if_neg (by omega), if_neg (by omega), if_neg (by omega), if_neg (by omega)]
      exact N4 q (by omega) h123 i (by omega)
theorem sd_ok_nt {a b : List Int32} {k m d : Nat} (h : sd_ok a k m d) (hl : b.length = 124) (e : ∀ j, j < 93 → pv b j = pv a j) (hn : ∃ q, q ≤ 10 ∧ pv b 123 = nI q ∧ ∀ i, i < q → (∃ t, t ≤ 60 ∧ pv b (93 + 3 * i) = nI t) ∧ ∃ s, s < k ∧ pv b (94 + 3 * i) = nI s) : sd_ok b k m d := by
  obtain ⟨⟨g1, ⟨g2, g3⟩, ⟨g4, g5⟩, ⟨g6, g7⟩, g8, g9, g10⟩, h2, h3, h4, h5, h6, h7, ⟨h8, h8'⟩, h9, h10⟩ := h
  refine ⟨⟨hl, ⟨g2, by rw [e 2 (by omega)]; exact g3⟩, ⟨g4, by rw [e 3 (by omega)]; exact g5⟩, ⟨g6, by rw [e 10 (by omega)]; exact g7⟩, fun s hs => by rw [e _ (by omega)]; exact g8 s hs, fun s hs => by rw [e _ (by omega)]; exact g9 s hs, fun i hi => by rw [e _ (by omega)]; exact g10 i hi⟩, fun s hs => by rw [e _ (by omega)]; exact h2 s hs, fun i hi => by rw [e _ (by omega)]; exact h3 i hi, by rw [e _ (by omega)]; exact h4, h5, fun s hs => by rw [e _ (by omega)]; exact h6 s hs, hn, ⟨fun s hs => by rw [e _ (by omega)]; exact h8 s hs, fun s hs => by rw [e _ (by omega)]; exact h8' s hs⟩, fun q hq => by rw [e _ (by omega)]; exact h9 q hq, by rw [e 0 (by omega), e 1 (by omega)]; exact h10⟩
theorem as_nt {T : List Nat} {a : List Int32} {fo x : Int32} {RS : List (List ru_C)} {US : List (List Int32)} {I : Nat → Option (List Int32 × Int32 × Int32)} {b : List Int32} {k m d : Nat} (ha : as_ok T a fo x RS US I) (hs : sd_ok a k m d) (hl : b.length = 124) (e : ∀ j, j < 93 → pv b j = pv a j) (hn : ∃ q, q ≤ 10 ∧ pv b 123 = nI q ∧ ∀ i, i < q → (∃ t, t ≤ 60 ∧ pv b (93 + 3 * i) = nI t) ∧ ∃ s, s < k ∧ pv b (94 + 3 * i) = nI s) : as_ok T b fo x RS US I := by
  obtain ⟨ht1, ⟨k', m', d', h1, h2, h3⟩, h4⟩ := ha
  have hk : k' = k := (nI_eq (by have := h1.1.2.1.1; omega) (by have := hs.1.2.1.1; omega)).mp (h1.1.2.1.2.symm.trans hs.1.2.1.2)
  subst hk
  refine ⟨ht1, ⟨k', m', d', sd_ok_nt h1 hl e hn, h2, fun j hj => ?_⟩, h4⟩
  obtain ⟨g1, g2, d2, g3⟩ := h3 j hj
  refine ⟨g1, by rw [e 0 (by omega)]; exact g2, d2, sd_ok_nt g3 (sa_lay_len hl g1) (fun i hi => ?_) ?_⟩
  · rw [sa_lay_pv hl g1, sa_lay_pv h1.1.1 g1]
    split
    · exact e i hi
    · rfl
  · obtain ⟨q, q1, q2, q3⟩ := hn
    have hp : ∀ i, 30 ≤ i → pv (sa_lay b (US.getD j [])) i = pv b i := fun i hi => by rw [sa_lay_pv hl g1, if_pos (by omega)]
    exact ⟨q, q1, by rw [hp 123 (by omega)]; exact q2, fun i hi => ⟨by rw [hp _ (by omega)]; exact (q3 i hi).1, by rw [hp _ (by omega)]; exact (q3 i hi).2⟩⟩
theorem jx_note {N : Nat} {h h2 : ss_Hp} {z y w : Int32} {T : List Nat} {a : List Int32} {fo x : Int32} {RS : List (List ru_C)} {US : List (List Int32)} {I : Nat → Option (List Int32 × Int32 × Int32)} (hc : cl_h h T a fo x RS US I) (hm : mo_h h2 T a fo x RS US I) (ha : as_ok T a fo x RS US I) (hN : 5000 < N) : jo (mm_S_note N (some 0) z y w h) (mm_M_note N (some 118) z y w h2) h h2 := by
  obtain ⟨Z, hb⟩ := cb_of hc
  obtain ⟨v, ⟨⟨bV, bI, bT, bF, bD, bS, bH⟩, ⟨bR0, bR1, bR2, bR3, bR4⟩, ⟨bFo, bX, bNo⟩, ⟨bG0, bG1, bG2, bG3⟩, bOwn, bStr, bBes, bSn, bWl, bNd, bCl⟩⟩ := cb_r hb
  have hk := cb_ck hb
  obtain ⟨th, fa, kp, dx, Y, hm1⟩ := mb_of hm
  have hk2 := mb_mk hm1
  have ha0 := ha
  obtain ⟨⟨Ht1, Ht2⟩, ⟨k, m, d, Hsd, Hul, Hu⟩, HRS, Hfo, Hx, HI⟩ := ha
  have Hok := Hsd.1
  obtain ⟨Hl, ⟨Hk, H2⟩, ⟨Hm, H3⟩, ⟨Hd, H10⟩, Hwl, Hbe, How⟩ := Hok
  obtain ⟨Nq, Nq1, Nq2, Nq3⟩ := Hsd.2.2.2.2.2.2.1
  by_cases cz : z = -nI 1
  · subst cz
    obtain ⟨h', e1, c1⟩ := cb_zn hb Hl
    obtain ⟨g', f1, m1⟩ := mb_set (i := 123) (y := nI 0) hm1 Hl (by omega)
    have m2 := mb_to m1
    refine jo_st (T := T) (a := a.set 123 (nI 0)) (fo := fo) (x := x) (RS := RS) (US := US) (I := I) (as_nt ha0 Hsd (by rw [List.length_set]; exact Hl) (fun j hj => pv_ne (by omega)) ⟨0, by omega, pv_eq (by omega), fun i hi => by omega⟩) c1 m2 (r := nI 0) ?_ ?_
    · unfold mm_S_note
      simp (disch := omega) only [pb_its, pb_l2, pb_ll, nI_add, pb_mul, if_true, if_false, pb_bs, pb_b2n, pb_bz0, pb_bz1, pb_10, pb_01, pb_i31, ck_is0 hk, ck_r0_0 hk, ck_r0_1 hk, ck_r0_2 hk, ck_r0_3 hk, ck_r0_4 hk, ck_r0_5 hk, ck_r0_6 hk, ck_r0_7 hk, ck_r0_8 hk, ck_r0_9 hk, ck_is1 hk, ck_r1_0 hk, ck_is3 hk, ck_r3_0 hk, ck_r3_1 hk, ck_is20 hk, ck_r20_0 hk, ck_r20_1 hk, ck_r20_2 hk, ck_is24 hk, ck_r24_1 hk, ck_r24_2 hk, ck_r24_3 hk, ck_r24_4 hk, ck_is33 hk, ck_r33_0 hk, ck_r33_1 hk, ck_is40 hk, ck_r40_0 hk, ck_is102 hk, ck_r102_0 hk, ck_r102_1 hk, ck_r102_2 hk, ck_r102_3 hk, ck_r102_4 hk, ck_r102_5 hk, ck_is103 hk, ck_r103_0 hk, ck_r103_1 hk, ck_is111 hk, ck_r111_0 hk, ck_r111_1 hk, ck_r111_2 hk, ck_r111_3 hk, ck_r111_4 hk, ck_is114 hk, ck_r114_0 hk, ck_r114_1 hk, ck_r114_2 hk, ck_r114_3 hk, ck_r114_4 hk, bV, bI, bT, bF, bD, bS, bH, bR0, bR1, bR2, bR3, bR4, bFo, bX, bNo, bG0, bG1, bG2, bG3, e1]
    · unfold mm_M_note
      simp (disch := omega) only [pb_its, pb_l2, pb_ll, nI_add, pb_mul, if_true, if_false, pb_bs, pb_b2n, pb_bz0, pb_bz1, pb_10, pb_01, pb_i31, mk_is hk2, mk_g0 hk2, mk_g1 hk2, mk_g2 hk2, mk_g3 hk2, mk_g4 hk2, mk_g5 hk2, mk_g6 hk2, mk_g7 hk2, mk_g8 hk2, mk_g9 hk2, mk_g10 hk2, mk_g11 hk2, mk_g12 hk2, mk_g13 hk2, mk_g14 hk2, mk_g15 hk2, mk_g16 hk2, mk_g17 hk2, mk_g18 hk2, mk_g19 hk2, mk_g20 hk2, mk_g21 hk2, mk_g22 hk2, f1]
  by_cases cy : ¬ sp_in z 0 60
  · refine jo_no hc hm ha0 (r := -nI 2) ?_ ?_
    · unfold mm_S_note mm_S_note_j56
      simp (disch := omega) only [pb_its, pb_l2, pb_ll, nI_add, pb_mul, if_true, if_false, pb_bs, pb_b2n, pb_bz0, pb_bz1, pb_10, pb_01, pb_i31, ck_is0 hk, ck_r0_0 hk, ck_r0_1 hk, ck_r0_2 hk, ck_r0_3 hk, ck_r0_4 hk, ck_r0_5 hk, ck_r0_6 hk, ck_r0_7 hk, ck_r0_8 hk, ck_r0_9 hk, ck_is1 hk, ck_r1_0 hk, ck_is3 hk, ck_r3_0 hk, ck_r3_1 hk, ck_is20 hk, ck_r20_0 hk, ck_r20_1 hk, ck_r20_2 hk, ck_is24 hk, ck_r24_1 hk, ck_r24_2 hk, ck_r24_3 hk, ck_r24_4 hk, ck_is33 hk, ck_r33_0 hk, ck_r33_1 hk, ck_is40 hk, ck_r40_0 hk, ck_is102 hk, ck_r102_0 hk, ck_r102_1 hk, ck_r102_2 hk, ck_r102_3 hk, ck_r102_4 hk, ck_r102_5 hk, ck_is103 hk, ck_r103_0 hk, ck_r103_1 hk, ck_is111 hk, ck_r111_0 hk, ck_r111_1 hk, ck_r111_2 hk, ck_r111_3 hk, ck_r111_4 hk, ck_is114 hk, ck_r114_0 hk, ck_r114_1 hk, ck_r114_2 hk, ck_r114_3 hk, ck_r114_4 hk, bV, bI, bT, bF, bD, bS, bH, bR0, bR1, bR2, bR3, bR4, bFo, bX, bNo, bG0, bG1, bG2, bG3, cz, pq_withinC, pb_cf cy]
    · unfold mm_M_note mm_M_note_j59
      simp (disch := omega) only [pb_its, pb_l2, pb_ll, nI_add, pb_mul, if_true, if_false, pb_bs, pb_b2n, pb_bz0, pb_bz1, pb_10, pb_01, pb_i31, mk_is hk2, mk_g0 hk2, mk_g1 hk2, mk_g2 hk2, mk_g3 hk2, mk_g4 hk2, mk_g5 hk2, mk_g6 hk2, mk_g7 hk2, mk_g8 hk2, mk_g9 hk2, mk_g10 hk2, mk_g11 hk2, mk_g12 hk2, mk_g13 hk2, mk_g14 hk2, mk_g15 hk2, mk_g16 hk2, mk_g17 hk2, mk_g18 hk2, mk_g19 hk2, mk_g20 hk2, mk_g21 hk2, mk_g22 hk2, cz, po_inC, pb_cf cy]
  replace cy := Classical.not_not.mp cy
  by_cases cs : ¬ sp_st a y
  · refine jo_no hc hm ha0 (r := -nI 2) ?_ ?_
    · unfold mm_S_note mm_S_note_j56
      simp (disch := omega) only [pb_its, pb_l2, pb_ll, nI_add, pb_mul, if_true, if_false, pb_bs, pb_b2n, pb_bz0, pb_bz1, pb_10, pb_01, pb_i31, ck_is0 hk, ck_r0_0 hk, ck_r0_1 hk, ck_r0_2 hk, ck_r0_3 hk, ck_r0_4 hk, ck_r0_5 hk, ck_r0_6 hk, ck_r0_7 hk, ck_r0_8 hk, ck_r0_9 hk, ck_is1 hk, ck_r1_0 hk, ck_is3 hk, ck_r3_0 hk, ck_r3_1 hk, ck_is20 hk, ck_r20_0 hk, ck_r20_1 hk, ck_r20_2 hk, ck_is24 hk, ck_r24_1 hk, ck_r24_2 hk, ck_r24_3 hk, ck_r24_4 hk, ck_is33 hk, ck_r33_0 hk, ck_r33_1 hk, ck_is40 hk, ck_r40_0 hk, ck_is102 hk, ck_r102_0 hk, ck_r102_1 hk, ck_r102_2 hk, ck_r102_3 hk, ck_r102_4 hk, ck_r102_5 hk, ck_is103 hk, ck_r103_0 hk, ck_r103_1 hk, ck_is111 hk, ck_r111_0 hk, ck_r111_1 hk, ck_r111_2 hk, ck_r111_3 hk, ck_r111_4 hk, ck_is114 hk, ck_r114_0 hk, ck_r114_1 hk, ck_r114_2 hk, ck_r114_3 hk, ck_r114_4 hk, bV, bI, bT, bF, bD, bS, bH, bR0, bR1, bR2, bR3, bR4, bFo, bX, bNo, bG0, bG1, bG2, bG3, cz, pq_withinC, pb_ct cy, cb_isStep hb, pb_cf cs]
    · unfold mm_M_note mm_M_note_j59
      simp (disch := omega) only [pb_its, pb_l2, pb_ll, nI_add, pb_mul, if_true, if_false, pb_bs, pb_b2n, pb_bz0, pb_bz1, pb_10, pb_01, pb_i31, mk_is hk2, mk_g0 hk2, mk_g1 hk2, mk_g2 hk2, mk_g3 hk2, mk_g4 hk2, mk_g5 hk2, mk_g6 hk2, mk_g7 hk2, mk_g8 hk2, mk_g9 hk2, mk_g10 hk2, mk_g11 hk2, mk_g12 hk2, mk_g13 hk2, mk_g14 hk2, mk_g15 hk2, mk_g16 hk2, mk_g17 hk2, mk_g18 hk2, mk_g19 hk2, mk_g20 hk2, mk_g21 hk2, mk_g22 hk2, cz, po_inC, pb_ct cy, mb_isStepC hm1 Hl, pb_cf cs]
  replace cs := Classical.not_not.mp cs
  by_cases cw : ¬ sp_in w 0 999
  · refine jo_no hc hm ha0 (r := -nI 2) ?_ ?_
    · unfold mm_S_note mm_S_note_j56
      simp (disch := omega) only [pb_its, pb_l2, pb_ll, nI_add, pb_mul, if_true, if_false, pb_bs, pb_b2n, pb_bz0, pb_bz1, pb_10, pb_01, pb_i31, ck_is0 hk, ck_r0_0 hk, ck_r0_1 hk, ck_r0_2 hk, ck_r0_3 hk, ck_r0_4 hk, ck_r0_5 hk, ck_r0_6 hk, ck_r0_7 hk, ck_r0_8 hk, ck_r0_9 hk, ck_is1 hk, ck_r1_0 hk, ck_is3 hk, ck_r3_0 hk, ck_r3_1 hk, ck_is20 hk, ck_r20_0 hk, ck_r20_1 hk, ck_r20_2 hk, ck_is24 hk, ck_r24_1 hk, ck_r24_2 hk, ck_r24_3 hk, ck_r24_4 hk, ck_is33 hk, ck_r33_0 hk, ck_r33_1 hk, ck_is40 hk, ck_r40_0 hk, ck_is102 hk, ck_r102_0 hk, ck_r102_1 hk, ck_r102_2 hk, ck_r102_3 hk, ck_r102_4 hk, ck_r102_5 hk, ck_is103 hk, ck_r103_0 hk, ck_r103_1 hk, ck_is111 hk, ck_r111_0 hk, ck_r111_1 hk, ck_r111_2 hk, ck_r111_3 hk, ck_r111_4 hk, ck_is114 hk, ck_r114_0 hk, ck_r114_1 hk, ck_r114_2 hk, ck_r114_3 hk, ck_r114_4 hk, bV, bI, bT, bF, bD, bS, bH, bR0, bR1, bR2, bR3, bR4, bFo, bX, bNo, bG0, bG1, bG2, bG3, cz, pq_withinC, pb_ct cy, cb_isStep hb, pb_ct cs, pb_cf cw]
    · unfold mm_M_note mm_M_note_j59
      simp (disch := omega) only [pb_its, pb_l2, pb_ll, nI_add, pb_mul, if_true, if_false, pb_bs, pb_b2n, pb_bz0, pb_bz1, pb_10, pb_01, pb_i31, mk_is hk2, mk_g0 hk2, mk_g1 hk2, mk_g2 hk2, mk_g3 hk2, mk_g4 hk2, mk_g5 hk2, mk_g6 hk2, mk_g7 hk2, mk_g8 hk2, mk_g9 hk2, mk_g10 hk2, mk_g11 hk2, mk_g12 hk2, mk_g13 hk2, mk_g14 hk2, mk_g15 hk2, mk_g16 hk2, mk_g17 hk2, mk_g18 hk2, mk_g19 hk2, mk_g20 hk2, mk_g21 hk2, mk_g22 hk2, cz, po_inC, pb_ct cy, mb_isStepC hm1 Hl, pb_ct cs, pb_cf cw]
  replace cw := Classical.not_not.mp cw
  by_cases c10 : Nq = 10
  · subst c10
    have n1 : ¬ nI 10 < nI 10 := Int32.lt_irrefl
    refine jo_no hc hm ha0 (r := -nI 2) ?_ ?_
    · unfold mm_S_note mm_S_note_j56
      simp (disch := omega) only [pb_its, pb_l2, pb_ll, nI_add, pb_mul, if_true, if_false, pb_bs, pb_b2n, pb_bz0, pb_bz1, pb_10, pb_01, pb_i31, ck_is0 hk, ck_r0_0 hk, ck_r0_1 hk, ck_r0_2 hk, ck_r0_3 hk, ck_r0_4 hk, ck_r0_5 hk, ck_r0_6 hk, ck_r0_7 hk, ck_r0_8 hk, ck_r0_9 hk, ck_is1 hk, ck_r1_0 hk, ck_is3 hk, ck_r3_0 hk, ck_r3_1 hk, ck_is20 hk, ck_r20_0 hk, ck_r20_1 hk, ck_r20_2 hk, ck_is24 hk, ck_r24_1 hk, ck_r24_2 hk, ck_r24_3 hk, ck_r24_4 hk, ck_is33 hk, ck_r33_0 hk, ck_r33_1 hk, ck_is40 hk, ck_r40_0 hk, ck_is102 hk, ck_r102_0 hk, ck_r102_1 hk, ck_r102_2 hk, ck_r102_3 hk, ck_r102_4 hk, ck_r102_5 hk, ck_is103 hk, ck_r103_0 hk, ck_r103_1 hk, ck_is111 hk, ck_r111_0 hk, ck_r111_1 hk, ck_r111_2 hk, ck_r111_3 hk, ck_r111_4 hk, ck_is114 hk, ck_r114_0 hk, ck_r114_1 hk, ck_r114_2 hk, ck_r114_3 hk, ck_r114_4 hk, bV, bI, bT, bF, bD, bS, bH, bR0, bR1, bR2, bR3, bR4, bFo, bX, bNo, bG0, bG1, bG2, bG3, cz, pq_withinC, pb_ct cy, cb_isStep hb, pb_ct cs, pb_ct cw, Nq2, n1]
    · unfold mm_M_note mm_M_note_j59
      simp (disch := omega) only [pb_its, pb_l2, pb_ll, nI_add, pb_mul, if_true, if_false, pb_bs, pb_b2n, pb_bz0, pb_bz1, pb_10, pb_01, pb_i31, mk_is hk2, mk_g0 hk2, mk_g1 hk2, mk_g2 hk2, mk_g3 hk2, mk_g4 hk2, mk_g5 hk2, mk_g6 hk2, mk_g7 hk2, mk_g8 hk2, mk_g9 hk2, mk_g10 hk2, mk_g11 hk2, mk_g12 hk2, mk_g13 hk2, mk_g14 hk2, mk_g15 hk2, mk_g16 hk2, mk_g17 hk2, mk_g18 hk2, mk_g19 hk2, mk_g20 hk2, mk_g21 hk2, mk_g22 hk2, cz, po_inC, pb_ct cy, mb_isStepC hm1 Hl, pb_ct cs, pb_ct cw, mb_said hm1 Hl (show 123 < 124 by omega), Nq2]
  have n1 : nI Nq < nI 10 := nI_lt (by omega) (by omega)
  have n2 : ¬ nI Nq = nI 10 := fun e => c10 ((nI_eq (by omega) (by omega)).mp e)
  obtain ⟨t, -, ht, hzt⟩ := sp_in_n cy (by omega) (by omega)
  obtain ⟨s, hs, hys⟩ := sp_st_n Hk H2 cs
  obtain ⟨h', e1, c1⟩ := cb_note (N := N) (y1 := z) (y2 := y) (y3 := w) hb Hl (show Nq < 10 by omega) Nq2
  obtain ⟨g1, f1, m1⟩ := mb_set (i := 93 + 3 * Nq) (y := z) hm1 Hl (by omega)
  obtain ⟨g2, f2, m2⟩ := mb_set (i := 93 + 3 * Nq + 1) (y := y) m1 (by rw [List.length_set]; exact Hl) (by omega)
  obtain ⟨g3, f3, m3⟩ := mb_set (i := 93 + 3 * Nq + 2) (y := w) m2 (by rw [List.length_set, List.length_set]; exact Hl) (by omega)
  have s3 := mb_said (i := 123) m3 (by rw [List.length_set, List.length_set, List.length_set]; exact Hl) (by omega)
  rw [pv_ne (by omega), pv_ne (by omega), pv_ne (by omega), Nq2] at s3
  obtain ⟨g4, f4, m4⟩ := mb_set (i := 123) (y := nI (Nq + 1)) m3 (by rw [List.length_set, List.length_set, List.length_set]; exact Hl) (by omega)
  have s4 := mb_said (i := 123) m4 (by rw [List.length_set, List.length_set, List.length_set, List.length_set]; exact Hl) (by omega)
  rw [pv_eq (by rw [List.length_set, List.length_set, List.length_set]; omega)] at s4
  have m5 := mb_to m4
  have k1 := mb_mk m1
  have k2 := mb_mk m2
  have k3 := mb_mk m3
  have k4 := mb_mk m4
  refine jo_st (T := T) (a := sa_note a Nq z y w) (fo := fo) (x := x) (RS := RS) (US := US) (I := I) (as_nt ha0 Hsd (by rw [sa_note_len]; exact Hl) (fun j hj => sa_note_low Hl (by omega) hj) ⟨Nq + 1, by omega, by rw [sa_note_pv Hl (by omega), if_pos rfl], fun i hi => ?_⟩) c1 m5 (r := nI (Nq + 1)) ?_ ?_
  · rw [sa_note_pv Hl (by omega), sa_note_pv Hl (by omega)]
    by_cases c : i = Nq
    · subst c
      rw [if_neg (by omega), if_neg (by omega), if_neg (by omega), if_pos rfl, if_neg (by omega), if_neg (by omega), if_pos (by omega)]
      exact ⟨⟨t, ht, hzt⟩, s, hs, hys⟩
    · rw [if_neg (by omega), if_neg (by omega), if_neg (by omega), if_neg (by omega), if_neg (by omega), if_neg (by omega), if_neg (by omega), if_neg (by omega)]
      exact Nq3 i (by omega)
  · unfold mm_S_note
    simp (disch := omega) only [pb_its, pb_l2, pb_ll, nI_add, pb_mul, if_true, if_false, pb_bs, pb_b2n, pb_bz0, pb_bz1, pb_10, pb_01, pb_i31, ck_is0 hk, ck_r0_0 hk, ck_r0_1 hk, ck_r0_2 hk, ck_r0_3 hk, ck_r0_4 hk, ck_r0_5 hk, ck_r0_6 hk, ck_r0_7 hk, ck_r0_8 hk, ck_r0_9 hk, ck_is1 hk, ck_r1_0 hk, ck_is3 hk, ck_r3_0 hk, ck_r3_1 hk, ck_is20 hk, ck_r20_0 hk, ck_r20_1 hk, ck_r20_2 hk, ck_is24 hk, ck_r24_1 hk, ck_r24_2 hk, ck_r24_3 hk, ck_r24_4 hk, ck_is33 hk, ck_r33_0 hk, ck_r33_1 hk, ck_is40 hk, ck_r40_0 hk, ck_is102 hk, ck_r102_0 hk, ck_r102_1 hk, ck_r102_2 hk, ck_r102_3 hk, ck_r102_4 hk, ck_r102_5 hk, ck_is103 hk, ck_r103_0 hk, ck_r103_1 hk, ck_is111 hk, ck_r111_0 hk, ck_r111_1 hk, ck_r111_2 hk, ck_r111_3 hk, ck_r111_4 hk, ck_is114 hk, ck_r114_0 hk, ck_r114_1 hk, ck_r114_2 hk, ck_r114_3 hk, ck_r114_4 hk, bV, bI, bT, bF, bD, bS, bH, bR0, bR1, bR2, bR3, bR4, bFo, bX, bNo, bG0, bG1, bG2, bG3, cz, pq_withinC, pb_ct cy, cb_isStep hb, pb_ct cs, pb_ct cw, Nq2, n1, e1]
  · unfold mm_M_note
    simp (disch := omega) only [pb_its, pb_l2, pb_ll, nI_add, pb_mul, if_true, if_false, pb_bs, pb_b2n, pb_bz0, pb_bz1, pb_10, pb_01, pb_i31, mk_is hk2, mk_g0 hk2, mk_g1 hk2, mk_g2 hk2, mk_g3 hk2, mk_g4 hk2, mk_g5 hk2, mk_g6 hk2, mk_g7 hk2, mk_g8 hk2, mk_g9 hk2, mk_g10 hk2, mk_g11 hk2, mk_g12 hk2, mk_g13 hk2, mk_g14 hk2, mk_g15 hk2, mk_g16 hk2, mk_g17 hk2, mk_g18 hk2, mk_g19 hk2, mk_g20 hk2, mk_g21 hk2, mk_g22 hk2, cz, po_inC, pb_ct cy, mb_isStepC hm1 Hl, pb_ct cs, pb_ct cw, mb_said hm1 Hl (show 123 < 124 by omega), Nq2, n2, f1, mk_g9 k1, f2, mk_g9 k2, f3, mk_g9 k3, s3, f4, mk_g9 k4, s4]
/-! ground copied into a row of kept ones -/
def qf2_eq (g g' : Nat → ss_Cl) : Prop := ∀ p, (4 ≤ p ∧ p < 20) ∨ (25 ≤ p ∧ p < 33) ∨ 142 ≤ p → g' p = g p
theorem qv_S_f2 {g g' : Nat → ss_Cl} (e : qf2_eq g g') {v : Nat} {a : List Int32} (h : qv_S g v a) : qv_S g' v a := by
  obtain ⟨h0, tl, nds, g0, g1, g3, g4, gn⟩ := h
  exact ⟨h0, tl, nds, by rw [e v (by omega), g0], by rw [e (v + 1) (by omega), g1], by rw [e (v + 3) (by omega), g3], by rw [e (v + 4) (by omega), g4], gn⟩
theorem qv_R_f2 {g g' : Nat → ss_Cl} (e : qf2_eq g g') {v : Nat} {a : List Int32} (h : qv_R g v a) : qv_R g' v a := by
  obtain ⟨h0, h1, h2, h3, h4, w, h5, h6, h7⟩ := h
  have hv := h0.1
  exact ⟨qv_S_f2 e h0, by rw [e v (by omega)]; exact h1, by rw [e (v + 2) (by omega)]; exact h2, by rw [e (v + 5) (by omega)]; exact h3, by rw [e (v + 6) (by omega)]; exact h4, w, h5, by rw [e (v + 7) (by omega)]; exact h6, h7⟩
theorem rc_R_f2 {g g' : Nat → ss_Cl} (e : qf2_eq g g') {r : Nat} {R : List ru_C} (h : rc_R g r R) : rc_R g' r R := by
  obtain ⟨h0, h1, code, starts, h2, h3, h4, h5⟩ := h
  exact ⟨h0, h1, code, starts, by rw [e r (by omega)]; exact h2, by rw [e (r + 1) (by omega)]; exact h3, by rw [e (r + 2) (by omega)]; exact h4, h5⟩
theorem qw_R_f2 {g g' : Nat → ss_Cl} (e : qf2_eq g g') {w : Nat} {a : List Int32} {fo x : Int32} (h : qw_R g w a fo x) : qw_R g' w a fo x := by
  obtain ⟨h0, ⟨h1, h2⟩, ⟨W, h3, h4, h5⟩, nd, ns, nw, h6, h7, h8, h9⟩ := h
  exact ⟨h0, ⟨by rw [e w (by omega)]; exact h1, qv_R_f2 e h2⟩, ⟨W, h3, qg_R_fr (fun j hj => e _ (by omega)) h4, h5⟩, nd, ns, nw, by rw [e _ (by omega)]; exact h6, by rw [e _ (by omega)]; exact h7, by rw [e _ (by omega)]; exact h8, h9⟩
theorem fx_R_f2 {g g' : Nat → ss_Cl} (e : qf2_eq g g') {vt wv yv : Option Nat} (h : fx_R g vt wv yv) : fx_R g' vt wv yv := fx_R_of (fun p h1 h2 => e p (by omega)) h
theorem ql_R_f2 {g g' : Nat → ss_Cl} (e : qf2_eq g g') {rl : List (Option Nat)} {RS : List (List ru_C)} (h : ql_R g rl RS) : ql_R g' rl RS := by
  refine ⟨h.1, fun r hr => ⟨fun h1 => ?_, (h.2 r hr).2⟩⟩
  obtain ⟨p, p1, p2⟩ := (h.2 r hr).1 h1
  exact ⟨p, p1, rc_R_f2 e p2⟩
theorem qi_R_f2 {g g' : Nat → ss_Cl} (e : qf2_eq g g') {il : List (Option Nat)} {I : Nat → Option (List Int32 × Int32 × Int32)} (h : qi_R g il I) : qi_R g' il I := by
  refine ⟨h.1, fun q hq => ?_, h.2.2⟩
  have := h.2.1 q hq
  cases hI : I q with
  | none => rw [hI] at this; exact this
  | some z =>
    obtain ⟨s, f, y⟩ := z
    rw [hI] at this
    obtain ⟨w, w1, w2⟩ := this
    exact ⟨w, w1, qw_R_f2 e w2⟩
theorem cn_R_f2 {g g' : Nat → ss_Cl} (e : qf2_eq g g') {wi : List Int32} {wv : Option Nat} {gi gs gw nd ns nw a : List Int32} {fo x : Int32} (h : cn_R g wi wv gi gs gw nd ns nw a fo x) : cn_R g' wi wv gi gs gw nd ns nw a fo x := by
  obtain ⟨h1, ⟨v, h2, h3⟩, h4⟩ := h
  exact ⟨h1, ⟨v, h2, qv_R_f2 e h3⟩, h4⟩
def g3 (g : Nat → ss_Cl) (p : Nat) (c0 c1 c2 : ss_Cl) : Nat → ss_Cl := fun k => if k = p then c0 else if k = p + 2 then c2 else if k = p + 1 then c1 else g k
theorem g3_0 {g : Nat → ss_Cl} {p : Nat} {c0 c1 c2 : ss_Cl} : g3 g p c0 c1 c2 p = c0 := if_pos rfl
theorem g3_1 {g : Nat → ss_Cl} {p : Nat} {c0 c1 c2 : ss_Cl} : g3 g p c0 c1 c2 (p + 1) = c1 := by
  unfold g3
  rw [if_neg (by omega), if_neg (by omega), if_pos rfl]
theorem g3_2 {g : Nat → ss_Cl} {p : Nat} {c0 c1 c2 : ss_Cl} : g3 g p c0 c1 c2 (p + 2) = c2 := by
  unfold g3
  rw [if_neg (by omega), if_pos rfl]
theorem g3_n {g : Nat → ss_Cl} {p k : Nat} {c0 c1 c2 : ss_Cl} (h : k < p ∨ p + 3 ≤ k) : g3 g p c0 c1 c2 k = g k := by
  unfold g3
  rw [if_neg (by omega), if_neg (by omega), if_neg (by omega)]
theorem sl_sl {a : List Int32} {p n q m : Nat} (h : q + m ≤ n) : sl (sl a p n) q m = sl a (p + q) m := pv_ext (by rw [sl_len, sl_len]) (fun i hi => by
  rw [sl_len] at hi
  rw [sl_pv hi, sl_pv (by omega), sl_pv hi]
  congr 1
  omega)
theorem qu_keep {g : Nat → ss_Cl} {nx : Nat} {US : List (List Int32)} {u : List Int32} (h : qu_R g nx US) : qu_R (g3 g (42 + 3 * nx) (0, [pv u 1, pv u 2, pv u 3, pv u 0], [], [some (42 + 3 * nx + 1), some (42 + 3 * nx + 2)]) (20, sl u 4 8, [], []) (20, sl u 12 8, [], [])) ((nx + 1) % 20) (u :: US.take 19) := by
  obtain ⟨h1, h2, h3⟩ := h
  refine ⟨Nat.mod_lt _ (by omega), fun i hi => ?_, fun j hj => ?_⟩
  · by_cases c : i = nx
    · subst c
      exact ⟨_, _, _, rfl, sl_len _ _ _, sl_len _ _ _, g3_0, g3_1, g3_2⟩
    · obtain ⟨J, S, W, j1, j2, j3, j4⟩ := h2 i hi
      exact ⟨J, S, W, j1, j2, j3, qg_R_fr (fun j hj => g3_n (by omega)) j4⟩
  · cases j with
    | zero =>
      have e : ((nx + 1) % 20 + 19 - 0) % 20 = nx := by omega
      rw [e]
      exact ⟨g3_0, g3_1, g3_2⟩
    | succ j =>
      have hj' : j < US.length ∧ j < 19 := by
        simp only [List.length_cons, List.length_take] at hj
        omega
      have eu : (u :: US.take 19).getD (j + 1) [] = US.getD j [] := by
        rw [List.getD_cons_succ, List.getD_eq_getElem?_getD, List.getD_eq_getElem?_getD, List.getElem?_take_of_lt hj'.2]
      have ei : ((nx + 1) % 20 + 19 - (j + 1)) % 20 = (nx + 19 - j) % 20 := by omega
      rw [eu, ei]
      have hn : (nx + 19 - j) % 20 ≠ nx := by omega
      exact qg_R_fr (fun j hj => g3_n (by omega)) (h3 j hj'.1)
theorem kept_at : ∀ i, i < 20 → ([some 42, some 45, some 48, some 51, some 54, some 57, some 60, some 63, some 66, some 69, some 72, some 75, some 78, some 81, some 84, some 87, some 90, some 93, some 96, some 99] : List (Option Nat))[i]? = some (some (42 + 3 * i)) := by decide
section KP
variable {n : Nat} {g : Nat → ss_Cl} {rc : Int32} {ti : List Int32} {tb : List Int32} {vt : Option Nat} {ri : List Int32} {cd : List Int32} {sx : List Int32} {rl : List (Option Nat)} {wi : List Int32} {wv : Option Nat} {gi : List Int32} {gs : List Int32} {gw : List Int32} {nd : List Int32} {ns : List Int32} {nw : List Int32} {il : List (Option Nat)} {ai : List Int32} {yv : Option Nat} {yr : Option Nat} {yi : List Int32} {ys : List Int32} {yw : List Int32} {yt : List Int32} {yh : List Int32} {yf : List Int32} {yo : List Int64} {yk : List Int64} {fr : List Int32} {fg : List Int32} {pl : List Int32} {pc : List Int32} {pg : List Int32} {N : Nat}
theorem pk_hs3 {p : Nat} {c0 c1 c2 : ss_Cl} (h0 : pk_fr p) (h1 : pk_fr (p + 1)) (h2 : pk_fr (p + 2)) : ss_hs (ss_hs (ss_hs (pk_C n g rc ti tb vt ri cd sx rl wi wv gi gs gw nd ns nw il ai yv yr yi ys yw yt yh yf yo yk fr fg pl pc pg) (p + 1) c1) (p + 2) c2) p c0 = (pk_C n (g3 g p c0 c1 c2) rc ti tb vt ri cd sx rl wi wv gi gs gw nd ns nw il ai yv yr yi ys yw yt yh yf yo yk fr fg pl pc pg) := by
  rw [pk_hsg h1, pk_hsg h2, pk_hsg h0]
  rfl
theorem pk_a41 {i : Nat} (hi : i < 20) : ss_ar (pk_C n g rc ti tb vt ri cd sx rl wi wv gi gs gw nd ns nw il ai yv yr yi ys yw yt yh yf yo yk fr fg pl pc pg) (some 41) 24 (nI i) = some (some (42 + 3 * i)) := by
  rw [pb_ar pk_c41 (by omega : i < 2 ^ 31)]
  exact kept_at i hi
end KP
theorem cb_keep {N : Nat} {h0 h : ss_Hp} {T : List Nat} {a : List Int32} {fo x : Int32} {RS : List (List ru_C)} {US : List (List Int32)} {I : Nat → Option (List Int32 × Int32 × Int32)} {Z : Nat → List Int32} (hc : cb_h h0 h T a fo x RS US I Z) (ht : ¬ pv a 0 ≤ nI 0) (hU : US.length ≤ 20) : ∃ h', mm_A_keep N (some 40) (some 33) h = some h' ∧ cb_h h0 h' T a fo x RS (sl a 10 20 :: US.take 19) I Z := by
  obtain ⟨n, g, rc, ti, tb, vt, ri, cd, sx, rl, wi, wv, gi, gs, gw, nd, ns, nw, il, ai, yv, yr, yi, ys, yw, yt, yh, yf, yo, yk, fr, fg, pl, pc, pg, rfl, F, hg, z⟩ := hc
  obtain ⟨Fn, Frc, ⟨Ft1, Ft2, Ft3, Ft4⟩, Fr, Fl, ⟨Fw, ⟨v, Fv, Fq⟩, Fg, Fs, Fwl, Fno⟩, Fi, ⟨nx, Fa, Fu⟩, Fy, Ff⟩ := F
  have hgw := Fwl.2 ht
  subst Fg Fs hgw Fa
  have Fu0 := Fu
  obtain ⟨U1, U2, U3⟩ := Fu
  obtain ⟨J, S, W, j1, j2, j3, j4, j5, j6⟩ := U2 nx U1
  have p0 : pk_fr (42 + 3 * nx) := by unfold pk_fr; omega
  have p1 : pk_fr (42 + 3 * nx + 1) := by unfold pk_fr; omega
  have p2 : pk_fr (42 + 3 * nx + 2) := by unfold pk_fr; omega
  have c1 : mm_G_copyFrom N (some (42 + 3 * nx)) (some 33) (pk_C n g rc ti tb vt ri cd sx rl wi wv [pv a 11, pv a 12, pv a 13, pv a 10] (sl a 14 8) (sl a 22 8) nd ns nw il [nI nx, nI US.length] yv yr yi ys yw yt yh yf yo yk fr fg pl pc pg) = some (pk_C n ((g3 g (42 + 3 * nx) (0, [pv a 11, pv a 12, pv a 13, pv a 10], [], [some (42 + 3 * nx + 1), some (42 + 3 * nx + 2)]) (20, sl a 14 8, [], []) (20, sl a 22 8, [], []))) rc ti tb vt ri cd sx rl wi wv [pv a 11, pv a 12, pv a 13, pv a 10] (sl a 14 8) (sl a 22 8) nd ns nw il [nI nx, nI US.length] yv yr yi ys yw yt yh yf yo yk fr fg pl pc pg) := by
    rw [pb_copy ((pk_out p0).trans j4) ((pk_out p1).trans j5) ((pk_out p2).trans j6) pk_c33 pk_c34 pk_c35 j1 (sl_len _ _ _) (sl_len _ _ _) j2 j3 (by omega) (by omega) (by omega), pk_hs3 p0 p1 p2]
  have QU := qu_keep (u := sl a 10 20) Fu0
  have e1 : pv (sl a 10 20) 1 = pv a 11 ∧ pv (sl a 10 20) 2 = pv a 12 ∧ pv (sl a 10 20) 3 = pv a 13 ∧ pv (sl a 10 20) 0 = pv a 10 := ⟨sl_pv (by omega), sl_pv (by omega), sl_pv (by omega), sl_pv (by omega)⟩
  rw [e1.1, e1.2.1, e1.2.2.1, e1.2.2.2, sl_sl (by omega), sl_sl (by omega)] at QU
  have e2 : qf2_eq g (g3 g (42 + 3 * nx) (0, [pv a 11, pv a 12, pv a 13, pv a 10], [], [some (42 + 3 * nx + 1), some (42 + 3 * nx + 2)]) (20, sl a 14 8, [], []) (20, sl a 22 8, [], [])) := fun p hp => g3_n (by omega)
  have hl : (sl a 10 20 :: US.take 19).length = min 19 US.length + 1 := by rw [List.length_cons, List.length_take]
  have hnx : (nx + 1) % 20 = if nx + 1 < 20 then nx + 1 else 0 := by split <;> omega
  have hcn : (if nI (US.length + 1) < nI 20 then nI (US.length + 1) else nI 20) = nI (min 19 US.length + 1) := by
    by_cases c : US.length < 19
    · rw [if_pos (nI_lt (by omega) (by omega))]
      congr 1
      omega
    · rw [if_neg (nI_nlt (by omega) (by omega))]
      congr 1
      omega
  refine ⟨(pk_C n ((g3 g (42 + 3 * nx) (0, [pv a 11, pv a 12, pv a 13, pv a 10], [], [some (42 + 3 * nx + 1), some (42 + 3 * nx + 2)]) (20, sl a 14 8, [], []) (20, sl a 22 8, [], []))) rc ti tb vt ri cd sx rl wi wv [pv a 11, pv a 12, pv a 13, pv a 10] (sl a 14 8) (sl a 22 8) nd ns nw il [nI ((nx + 1) % 20), nI (sl a 10 20 :: US.take 19).length] yv yr yi ys yw yt yh yf yo yk fr fg pl pc pg), ?_, n, _, rc, ti, tb, vt, ri, cd, sx, rl, wi, wv, _, _, _, nd, ns, nw, il, _, yv, yr, yi, ys, yw, yt, yh, yf, yo, yk, fr, fg, pl, pc, pg, rfl, ⟨Fn, Frc, ⟨Ft1, Ft2, Ft3, Ft4⟩, ⟨Fr.1, Fr.2.1, Fr.2.2.1, Fr.2.2.2.1, fx_R_f2 e2 Fr.2.2.2.2⟩, ql_R_f2 e2 Fl, cn_R_f2 e2 ⟨Fw, ⟨v, Fv, Fq⟩, rfl, rfl, ⟨Fwl.1, fun _ => rfl⟩, Fno⟩, qi_R_f2 e2 Fi, ⟨_, rfl, QU⟩, Fy, Ff⟩, fun p hp => by rw [g3_n (by omega)]; exact hg p hp, z⟩
  rw [hnx, hl]
  unfold mm_A_keep mm_A_keep_j35
  by_cases c : nx + 1 < 20
  · have n1 : ¬ nI 20 ≤ nI (nx + 1) := nI_ge c (by omega)
    simp (disch := omega) only [pb_its, pb_l2, pb_ll, nI_add, pb_mul, if_true, if_false, pb_bs, pb_b2n, pb_bz0, pb_bz1, pb_10, pb_01, pb_i31, pk_is40, pk_r40_0, pk_x40_0, pk_a41 U1, c1, n1, pk_y40_0, pk_x40_1, pk_y40_1, hcn, c]
  · have n1 : nI 20 ≤ nI (nx + 1) := nI_le (by omega) (by omega)
    simp (disch := omega) only [pb_its, pb_l2, pb_ll, nI_add, pb_mul, if_true, if_false, pb_bs, pb_b2n, pb_bz0, pb_bz1, pb_10, pb_01, pb_i31, pk_is40, pk_r40_0, pk_x40_0, pk_a41 U1, c1, n1, pk_y40_0, pk_x40_1, pk_y40_1, hcn, c]
theorem cb_undo {N : Nat} {h0 h : ss_Hp} {T : List Nat} {a u : List Int32} {fo x : Int32} {RS : List (List ru_C)} {US : List (List Int32)} {I : Nat → Option (List Int32 × Int32 × Int32)} {Z : Nat → List Int32} (hc : cb_h h0 h T a fo x RS (u :: US) I Z) (hl : a.length = 124) (hu : u.length = 20) (hU : US.length < 20) : ∃ h', mm_A_takeBack N (some 40) (some 33) h = some (nI US.length, h') ∧ cb_h h0 h' T (sa_lay a u) fo x RS US I Z := by
  obtain ⟨n, g, rc, ti, tb, vt, ri, cd, sx, rl, wi, wv, gi, gs, gw, nd, ns, nw, il, ai, yv, yr, yi, ys, yw, yt, yh, yf, yo, yk, fr, fg, pl, pc, pg, rfl, F, hg, z⟩ := hc
  obtain ⟨Fn, Frc, ⟨Ft1, Ft2, Ft3, Ft4⟩, Fr, Fl, ⟨Fw, ⟨v, Fv, Fq⟩, Fg, Fs, Fwl, Fno⟩, Fi, ⟨nx, Fa, Fu⟩, Fy, Ff⟩ := F
  subst Fg Fs Fa
  obtain ⟨U1, U2, U3⟩ := Fu
  obtain ⟨j4, j5, j6⟩ := U3 0 (by rw [List.length_cons]; omega)
  have eu : (u :: US).getD 0 [] = u := rfl
  rw [eu, Nat.sub_zero] at j4 j5 j6
  have hm20 : (nx + 19) % 20 < 20 := Nat.mod_lt _ (by omega)
  have p0 : pk_fr (42 + 3 * ((nx + 19) % 20)) := by unfold pk_fr; omega
  have p1 : pk_fr (42 + 3 * ((nx + 19) % 20) + 1) := by unfold pk_fr; omega
  have p2 : pk_fr (42 + 3 * ((nx + 19) % 20) + 2) := by unfold pk_fr; omega
  have hp : ∀ j, pv (sa_lay a u) j = if j < 10 ∨ 30 ≤ j then pv a j else pv u (j - 10) := fun j => sa_lay_pv hl hu
  have c1 : mm_G_copyFrom N (some 33) (some (42 + 3 * ((nx + 19) % 20))) (pk_C n g rc ti tb vt ri cd sx rl wi wv [pv a 11, pv a 12, pv a 13, pv a 10] (sl a 14 8) gw nd ns nw il [nI ((nx + 19) % 20), nI (u :: US).length] yv yr yi ys yw yt yh yf yo yk fr fg pl pc pg) = some (pk_C n g rc ti tb vt ri cd sx rl wi wv [pv u 1, pv u 2, pv u 3, pv u 0] (sl u 4 8) (sl u 12 8) nd ns nw il [nI ((nx + 19) % 20), nI (u :: US).length] yv yr yi ys yw yt yh yf yo yk fr fg pl pc pg) := by
    rw [pb_copy pk_c33 pk_c34 pk_c35 ((pk_out p0).trans j4) ((pk_out p1).trans j5) ((pk_out p2).trans j6) rfl (sl_len _ _ _) (sl_len _ _ _) (sl_len _ _ _) Fwl.1 (by omega) (by omega) (by omega), pk_s34, pk_s35, pk_s33]
  have es : ∀ q n, q + n ≤ 20 → sl (sa_lay a u) (10 + q) n = sl u q n := fun q n hq => pv_ext (by rw [sl_len, sl_len]) (fun i hi => by
    rw [sl_len] at hi
    rw [sl_pv hi, sl_pv hi, hp, if_neg (by omega)]
    congr 1
    omega)
  refine ⟨(pk_C n g rc ti tb vt ri cd sx rl wi wv [pv u 1, pv u 2, pv u 3, pv u 0] (sl u 4 8) (sl u 12 8) nd ns nw il [nI ((nx + 19) % 20), nI US.length] yv yr yi ys yw yt yh yf yo yk fr fg pl pc pg), ?_, n, _, rc, ti, tb, vt, ri, cd, sx, rl, wi, wv, _, _, _, nd, ns, nw, il, _, yv, yr, yi, ys, yw, yt, yh, yf, yo, yk, fr, fg, pl, pc, pg, rfl, ⟨Fn, Frc, ⟨Ft1, Ft2, Ft3, Ft4⟩, Fr, Fl, ⟨?_, ⟨v, Fv, qv_R_of Fq (fun j hj => by rw [hp, if_pos (by omega)])⟩, ?_, (es 4 8 (by omega)).symm, ⟨sl_len _ _ _, fun _ => (es 12 8 (by omega)).symm⟩, note_R_of Fno (fun j hj => by rw [hp, if_pos (by omega)])⟩, Fi, ⟨_, rfl, hm20, U2, fun j hj => ?_⟩, Fy, Ff⟩, hg, z⟩
  · have n1 : ¬ nI (u :: US).length = nI 0 := fun e => by
      have := (nI_eq (by rw [List.length_cons]; omega) (by omega)).mp e
      rw [List.length_cons] at this
      omega
    have n3 : nI (u :: US).length - nI 1 = nI US.length := nI_pred US.length
    unfold mm_A_takeBack mm_A_takeBack_j28
    by_cases c : nx = 0
    · subst c
      have n2 : nI 0 ≤ nI 0 := Int32.le_refl _
      have e19 : (nI 19) = nI ((0 + 19) % 20) := rfl
      simp (disch := omega) only [pb_its, pb_l2, pb_ll, nI_add, pb_mul, if_true, if_false, pb_bs, pb_b2n, pb_bz0, pb_bz1, pb_10, pb_01, pb_i31, pk_is40, pk_r40_0, pk_x40_1, pk_x40_0, n1, n2, pk_y40_0, e19, pk_a41 hm20, c1, pk_y40_1, n3]
    · have n2 : ¬ nI nx ≤ nI 0 := nI_ge (by omega) (by omega)
      have e19 : nI nx - nI 1 = nI ((nx + 19) % 20) := by
        have : nx = (nx + 19) % 20 + 1 := by omega
        rw [this]
        have e2 : ((nx + 19) % 20 + 1 + 19) % 20 = (nx + 19) % 20 := by omega
        rw [e2]
        exact nI_pred _
      simp (disch := omega) only [pb_its, pb_l2, pb_ll, nI_add, pb_mul, if_true, if_false, pb_bs, pb_b2n, pb_bz0, pb_bz1, pb_10, pb_01, pb_i31, pk_is40, pk_r40_0, pk_x40_1, pk_x40_0, n1, n2, pk_y40_0, e19, pk_a41 hm20, c1, pk_y40_1, n3]
  · rw [hp, if_pos (by omega)]
    exact Fw
  · rw [hp, hp, hp, hp, if_neg (by omega), if_neg (by omega), if_neg (by omega), if_neg (by omega)]
  · have := U3 (j + 1) (by rw [List.length_cons]; omega)
    have ei : ((nx + 19) % 20 + 19 - j) % 20 = (nx + 19 - (j + 1)) % 20 := by omega
    have eg : (u :: US).getD (j + 1) [] = US.getD j [] := List.getD_cons_succ
    rw [ei, ← eg]
    exact this
