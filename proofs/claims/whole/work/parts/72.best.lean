/-! ===== best ===== -/
theorem cw_bu {h0 h : ss_Hp} {T : List Nat} {a : List Int32} {fo x : Int32} {RS : List (List ru_C)} {US : List (List Int32)} {I : Nat → Option (List Int32 × Int32 × Int32)} {Z : Nat → List Int32} {ro : Option (List ru_C)} {b : List Int32} {bu : Int32} {th fa : List Int32} (hc : cw_h h0 h T a fo x RS US I Z ro b bu th fa) (hl : b.length = 124) : cw_h h0 h T a fo x RS US I Z ro (b.set 13 bu) (pv (b.set 13 bu) 13) th fa := by
  obtain ⟨n, g, rc, ti, tb, vt, ri, cd, sx, rl, wi, wv, gi, gs, gw, nd, ns, nw, il, ai, yv, yr, yi, ys, yw, yt, yh, yf, yo, yk, fr, fg, pl, pc, pg, rfl, F, hg, z, ⟨w1, w2, w3, w4, w5, w6⟩, ⟨v, hv, hwv, hq⟩, hr⟩ := hc
  subst w1 w2 w3 w4 w5 w6 hv hwv
  refine ⟨n, g, rc, ti, tb, vt, ri, cd, sx, rl, _, _, _, _, _, nd, ns, nw, il, _, _, _, _, _, _, _, _, _, _, _, fr, fg, pl, pc, pg, rfl, F, hg, z, ⟨?_, (sl_ne (by omega)).symm, (sl_ne (by omega)).symm, ?_, rfl, rfl⟩, ⟨v, rfl, rfl, qv_of hq (fun j hj => pv_ne (by omega))⟩, hr⟩
  · rw [pv_ne (by omega), pv_ne (by omega), pv_eq (by omega), pv_ne (by omega)]
  · rw [pv_ne (by omega), pv_ne (by omega), pv_ne (by omega), pv_ne (by omega)]
def nB (ro : Option (List ru_C)) (k m n : Nat) (b : List Int32) : Int32 := pc_I (sa_clo (dN ro k m b n) k)
def stB (a : List Int32) (i s : Nat) : List Int32 := (sa_take a i s).set 13 (pv a 13 ||| nI 1 <<< nI i)
theorem stB_R {a : List Int32} {k m d i s : Nat} (h : sa_R a k m d) (hi : i < m) (hs : s < k) : sa_R (stB a i s) k m d ∧ ∀ j, j < 10 ∨ 22 ≤ j → pv (stB a i s) j = pv a j := by
  have hk := h.1.2.1.1
  have hm := h.1.2.2.1.1
  obtain ⟨bq, hbq, h13⟩ := h.2.2.2.2.2
  obtain ⟨bq', hbq', ebq, -⟩ := pb_bu bq hbq i (by omega)
  unfold stB
  rw [h13, ebq]
  refine ⟨sa_R_13 (sa_R_take h hi hs) hbq', fun j hj => ?_⟩
  rw [pv_ne (by omega)]
  rcases h.1.2.2.2.2.1 s hs with hw | ⟨t, ht, hw⟩
  · exact sa_take_pv (t := 0) (by omega) (Or.inl hw) (by omega) (by omega)
  · exact sa_take_pv (t := t) (by omega) (Or.inr ⟨by omega, hw⟩) (by omega) (by omega)
theorem cw_in {N : Nat} {h0 h : ss_Hp} {T : List Nat} {a : List Int32} {fo x : Int32} {RS : List (List ru_C)} {US : List (List Int32)} {I : Nat → Option (List Int32 × Int32 × Int32)} {Z : Nat → List Int32} {ro : Option (List ru_C)} {b : List Int32} {bu : Int32} {th fa : List Int32} {k m d n : Nat} {y1 y2 : Int32} (hc : cw_h h0 h T a fo x RS US I Z ro b bu th fa) (hbu : bu = pv b 13) (hR : sa_R b k m d) (hn : n ≤ 1000) (hd : d < 10000) (hN : 5000 < N) : ∃ h', mm_F_closedBy_j19 N (some 111) y1 y2 (nI n) h = some (nB ro k m n b, h') ∧ cb_h h0 h' T a fo x RS US I Z := by
  subst hbu
  have key := pb_for (body := mm_F_closedBy_b22 N (some 111) (nI n)) n (fun i s => ∃ h', s = (nI i, h') ∧ ∃ th fa, cw_h h0 h' T a fo x RS US I Z ro (dN ro k m b i) (pv (dN ro k m b i) 13) th fa) (fun e => ∃ th fa, cw_h h0 e T a fo x RS US I Z ro (dN ro k m b n) (pv (dN ro k m b n) 13) th fa) (N := N) (s := (nI 0, h)) (by omega) ⟨h, rfl, _, _, hc⟩ (by
    rintro i s hi ⟨h', rfl, th, fa, w⟩
    left
    obtain ⟨h2, p1, p2⟩ := cw_pass (N := N) w rfl (dN_R hR i (by omega)) (by omega) (by omega)
    have ckw := cw_ck w
    have hlt : ¬ nI n ≤ nI i := nI_ge hi (by omega)
    refine ⟨_, ?_, h2, rfl, _, _, p2⟩
    unfold mm_F_closedBy_b22
    simp (disch := omega) only [pb_its, pb_l2, pb_ll, nI_add, pb_mul, if_true, if_false, pb_bs, pb_b2n, pb_bz0, pb_bz1, pb_10, pb_01, pb_i31, ck_is0 ckw, ck_r0_0 ckw, ck_r0_1 ckw, ck_r0_2 ckw, ck_r0_3 ckw, ck_r0_4 ckw, ck_r0_5 ckw, ck_r0_6 ckw, ck_r0_7 ckw, ck_r0_8 ckw, ck_r0_9 ckw, ck_is1 ckw, ck_r1_0 ckw, ck_is3 ckw, ck_r3_0 ckw, ck_r3_1 ckw, ck_is20 ckw, ck_r20_0 ckw, ck_r20_1 ckw, ck_r20_2 ckw, ck_is24 ckw, ck_r24_1 ckw, ck_r24_2 ckw, ck_r24_3 ckw, ck_r24_4 ckw, ck_is33 ckw, ck_r33_0 ckw, ck_r33_1 ckw, ck_is40 ckw, ck_r40_0 ckw, ck_is102 ckw, ck_r102_0 ckw, ck_r102_1 ckw, ck_r102_2 ckw, ck_r102_3 ckw, ck_r102_4 ckw, ck_r102_5 ckw, ck_is103 ckw, ck_r103_0 ckw, ck_r103_1 ckw, ck_is111 ckw, ck_r111_0 ckw, ck_r111_1 ckw, ck_r111_2 ckw, ck_r111_3 ckw, ck_r111_4 ckw, ck_is114 ckw, ck_r114_0 ckw, ck_r114_1 ckw, ck_r114_2 ckw, ck_r114_3 ckw, ck_r114_4 ckw, hlt, p1]) (by
    rintro s ⟨h', rfl, w⟩
    refine ⟨h', ?_, w⟩
    unfold mm_F_closedBy_b22
    simp (disch := omega) only [pb_its, pb_l2, pb_ll, nI_add, pb_mul, if_true, if_false, pb_bs, pb_b2n, pb_bz0, pb_bz1, pb_10, pb_01, pb_i31, nI_le (Nat.le_refl n) (by omega : n < 2 ^ 31)])
  obtain ⟨h', l1, th', fa', w⟩ := key
  have ckw := cw_ck w
  have hRn := dN_R (ro := ro) hR n (by omega)
  have hk8 := hR.1.2.1.1
  obtain ⟨bc1, -⟩ := pb_clo (N := N) hk8 (by omega) (dN ro k m b n)
  refine ⟨h', ?_, cw_cb w⟩
  unfold mm_F_closedBy_j19 nB
  simp (disch := omega) only [pb_its, pb_l2, pb_ll, nI_add, pb_mul, if_true, if_false, pb_bs, pb_b2n, pb_bz0, pb_bz1, pb_10, pb_01, pb_i31, l1, ck_is0 ckw, ck_r0_0 ckw, ck_r0_1 ckw, ck_r0_2 ckw, ck_r0_3 ckw, ck_r0_4 ckw, ck_r0_5 ckw, ck_r0_6 ckw, ck_r0_7 ckw, ck_r0_8 ckw, ck_r0_9 ckw, ck_is1 ckw, ck_r1_0 ckw, ck_is3 ckw, ck_r3_0 ckw, ck_r3_1 ckw, ck_is20 ckw, ck_r20_0 ckw, ck_r20_1 ckw, ck_r20_2 ckw, ck_is24 ckw, ck_r24_1 ckw, ck_r24_2 ckw, ck_r24_3 ckw, ck_r24_4 ckw, ck_is33 ckw, ck_r33_0 ckw, ck_r33_1 ckw, ck_is40 ckw, ck_r40_0 ckw, ck_is102 ckw, ck_r102_0 ckw, ck_r102_1 ckw, ck_r102_2 ckw, ck_r102_3 ckw, ck_r102_4 ckw, ck_r102_5 ckw, ck_is103 ckw, ck_r103_0 ckw, ck_r103_1 ckw, ck_is111 ckw, ck_r111_0 ckw, ck_r111_1 ckw, ck_r111_2 ckw, ck_r111_3 ckw, ck_r111_4 ckw, ck_is114 ckw, ck_r114_0 ckw, ck_r114_1 ckw, ck_r114_2 ckw, ck_r114_3 ckw, ck_r114_4 ckw, cw_closed w hk8 hRn.1.2.1.2 (by omega : 8 < N), bc1]
theorem cb_clby0 {N : Nat} {h0 h : ss_Hp} {T : List Nat} {a : List Int32} {fo x : Int32} {RS : List (List ru_C)} {US : List (List Int32)} {I : Nat → Option (List Int32 × Int32 × Int32)} {Z : Nat → List Int32} {k m d n : Nat} {y1 : Int32} (hc : cb_h h0 h T a fo x RS US I Z) (ht : ¬ pv a 0 ≤ nI 0) (hu : fo = -nI 1 ∨ ∃ r, r < RS.length ∧ fo = nI r) (h6 : RS.length ≤ 6) (hR : sa_R a k m d) (hn : n ≤ 1000) (hd : d < 10000) (hN : 5000 < N) : ∃ h', mm_F_closedBy N (some 111) y1 (-nI 1) (nI n) h = some (nB (ro_of fo RS) k m n a, h') ∧ cb_h h0 h' T a fo x RS US I Z := by
  obtain ⟨h1, e1, w1⟩ := cb_start (N := N) hc ht hu h6 (by omega)
  obtain ⟨h2, e2, c2⟩ := cw_in (N := N) (y1 := y1) (y2 := -nI 1) w1 rfl hR hn hd hN
  have hk := cb_ck hc
  refine ⟨h2, ?_, c2⟩
  unfold mm_F_closedBy
  simp (disch := omega) only [pb_its, pb_l2, pb_ll, nI_add, pb_mul, if_true, if_false, pb_bs, pb_b2n, pb_bz0, pb_bz1, pb_10, pb_01, pb_i31, ck_is0 hk, ck_r0_0 hk, ck_r0_1 hk, ck_r0_2 hk, ck_r0_3 hk, ck_r0_4 hk, ck_r0_5 hk, ck_r0_6 hk, ck_r0_7 hk, ck_r0_8 hk, ck_r0_9 hk, ck_is1 hk, ck_r1_0 hk, ck_is3 hk, ck_r3_0 hk, ck_r3_1 hk, ck_is20 hk, ck_r20_0 hk, ck_r20_1 hk, ck_r20_2 hk, ck_is24 hk, ck_r24_1 hk, ck_r24_2 hk, ck_r24_3 hk, ck_r24_4 hk, ck_is33 hk, ck_r33_0 hk, ck_r33_1 hk, ck_is40 hk, ck_r40_0 hk, ck_is102 hk, ck_r102_0 hk, ck_r102_1 hk, ck_r102_2 hk, ck_r102_3 hk, ck_r102_4 hk, ck_r102_5 hk, ck_is103 hk, ck_r103_0 hk, ck_r103_1 hk, ck_is111 hk, ck_r111_0 hk, ck_r111_1 hk, ck_r111_2 hk, ck_r111_3 hk, ck_r111_4 hk, ck_is114 hk, ck_r114_0 hk, ck_r114_1 hk, ck_r114_2 hk, ck_r114_3 hk, ck_r114_4 hk, e1, e2]
theorem cb_clby {N : Nat} {h0 h : ss_Hp} {T : List Nat} {a : List Int32} {fo x : Int32} {RS : List (List ru_C)} {US : List (List Int32)} {I : Nat → Option (List Int32 × Int32 × Int32)} {Z : Nat → List Int32} {k m d n i s : Nat} (hc : cb_h h0 h T a fo x RS US I Z) (ht : ¬ pv a 0 ≤ nI 0) (hu : fo = -nI 1 ∨ ∃ r, r < RS.length ∧ fo = nI r) (h6 : RS.length ≤ 6) (hR : sa_R a k m d) (hn : n ≤ 1000) (hd : d < 10000) (hi : i < m) (hs : s < k) (h0s : ¬ pv a (14 + s) = nI 0) (hN : 5000 < N) : ∃ h', mm_F_closedBy N (some 111) (nI i) (nI s) (nI n) h = some (nB (ro_of fo RS) k m n (stB a i s), h') ∧ cb_h h0 h' T a fo x RS US I Z := by
  obtain ⟨h1, e1, w1⟩ := cb_start (N := N) hc ht hu h6 (by omega)
  obtain ⟨h3, e3, w3⟩ := cw_sweep (N := N) w1 hR hi hs h0s
  have hRs := (stB_R hR hi hs).1
  have w4 := cw_bu w3 (by rw [sa_take_len]; exact hR.1.1)
  obtain ⟨h2, e2, c2⟩ := cw_in (N := N) (y1 := nI i) (y2 := nI s) w4 rfl hRs hn hd hN
  have hk := cb_ck hc
  have hk1 := cw_ck w1
  have hk8 := hR.1.2.1.1
  have n1 : ¬ nI s = -nI 1 := pb_m1n (by omega)
  refine ⟨h2, ?_, c2⟩
  unfold mm_F_closedBy
  simp (disch := omega) only [pb_its, pb_l2, pb_ll, nI_add, pb_mul, if_true, if_false, pb_bs, pb_b2n, pb_bz0, pb_bz1, pb_10, pb_01, pb_i31, ck_is0 hk, ck_r0_0 hk, ck_r0_1 hk, ck_r0_2 hk, ck_r0_3 hk, ck_r0_4 hk, ck_r0_5 hk, ck_r0_6 hk, ck_r0_7 hk, ck_r0_8 hk, ck_r0_9 hk, ck_is1 hk, ck_r1_0 hk, ck_is3 hk, ck_r3_0 hk, ck_r3_1 hk, ck_is20 hk, ck_r20_0 hk, ck_r20_1 hk, ck_r20_2 hk, ck_is24 hk, ck_r24_1 hk, ck_r24_2 hk, ck_r24_3 hk, ck_r24_4 hk, ck_is33 hk, ck_r33_0 hk, ck_r33_1 hk, ck_is40 hk, ck_r40_0 hk, ck_is102 hk, ck_r102_0 hk, ck_r102_1 hk, ck_r102_2 hk, ck_r102_3 hk, ck_r102_4 hk, ck_r102_5 hk, ck_is103 hk, ck_r103_0 hk, ck_r103_1 hk, ck_is111 hk, ck_r111_0 hk, ck_r111_1 hk, ck_r111_2 hk, ck_r111_3 hk, ck_r111_4 hk, ck_is114 hk, ck_r114_0 hk, ck_r114_1 hk, ck_r114_2 hk, ck_r114_3 hk, ck_r114_4 hk, e1, n1, ck_r111_2 hk1, e3, e2]
  rfl
theorem mb_clin {N : Nat} {h0 h : ss_Hp} {T : List Nat} {a : List Int32} {fo x : Int32} {RS : List (List ru_C)} {US : List (List Int32)} {I : Nat → Option (List Int32 × Int32 × Int32)} {b th2 fa2 : List Int32} {dx2 : Int64} {Z : Nat → List Int32} {k m d n : Nat} (hc : mb_h h0 h T a fo x RS US I fo b th2 fa2 (sl a 10 20) dx2 Z) (hl : a.length = 124) (e : ∀ j, j < 10 ∨ 30 ≤ j → pv b j = pv a j) (hu : fo = -nI 1 ∨ ∃ r, r < RS.length ∧ fo = nI r) (h6 : RS.length ≤ 6) (hR : sa_R b k m d) (hn : n ≤ 1000) (hd : d < 10000) (hN : 5000 < N) : ∃ h' th fa, mm_M_closedIn N (some 118) (nI n) h = some (nB (ro_of fo RS) k m n b, h') ∧ mb_h h0 h' T a fo x RS US I fo a th fa (sl a 10 20) dx2 Z := by
  have hk := mb_mk hc
  have key := pb_for (body := mm_M_closedIn_b2 N (some 118) (nI n)) n (fun i s => ∃ h', s = (nI i, h') ∧ ∃ th fa, mb_h h0 h' T a fo x RS US I fo (dN (ro_of fo RS) k m b i) th fa (sl a 10 20) dx2 Z) (fun e => ∃ th fa, mb_h h0 e T a fo x RS US I fo (dN (ro_of fo RS) k m b n) th fa (sl a 10 20) dx2 Z) (N := N) (s := (nI 0, h)) (by omega) ⟨h, rfl, _, _, hc⟩ (by
    rintro i s hi ⟨h', rfl, th, fa, q⟩
    left
    obtain ⟨h2, p1, p2⟩ := mb_pass (N := N) q (dN_R hR i (by omega)) hu h6 (by omega)
    have hlt : ¬ nI n ≤ nI i := nI_ge hi (by omega)
    refine ⟨_, ?_, h2, rfl, _, _, p2⟩
    unfold mm_M_closedIn_b2
    simp (disch := omega) only [pb_its, pb_l2, pb_ll, nI_add, pb_mul, if_true, if_false, pb_bs, pb_b2n, pb_bz0, pb_bz1, pb_10, pb_01, pb_i31, hlt, p1]) (by
    rintro s ⟨h', rfl, q⟩
    refine ⟨h', ?_, q⟩
    unfold mm_M_closedIn_b2
    simp (disch := omega) only [pb_its, pb_l2, pb_ll, nI_add, pb_mul, if_true, if_false, pb_bs, pb_b2n, pb_bz0, pb_bz1, pb_10, pb_01, pb_i31, nI_le (Nat.le_refl n) (by omega : n < 2 ^ 31)])
  obtain ⟨g2, f2, th', fa', m2⟩ := key
  have hRn := dN_R (ro := ro_of fo RS) hR n (by omega)
  have hk8 := hR.1.2.1.1
  obtain ⟨-, bc2⟩ := pb_clo (N := N) hk8 (by omega) (dN (ro_of fo RS) k m b n)
  obtain ⟨g3, f3, m3⟩ := mb_lays (N := N) m2 hRn.1.1 (by omega)
  rw [sa_back hl hRn.1.1 (fun j hj => by rw [dN_pv hR (by omega) n (by omega)]; exact e j hj)] at m3
  refine ⟨g3, th', fa', ?_, m3⟩
  unfold mm_M_closedIn nB
  simp (disch := omega) only [pb_its, pb_l2, pb_ll, nI_add, pb_mul, if_true, if_false, pb_bs, pb_b2n, pb_bz0, pb_bz1, pb_10, pb_01, pb_i31, mk_is hk, mk_g0 hk, mk_g1 hk, mk_g2 hk, mk_g3 hk, mk_g4 hk, mk_g5 hk, mk_g6 hk, mk_g7 hk, mk_g8 hk, mk_g9 hk, mk_g10 hk, mk_g11 hk, mk_g12 hk, mk_g13 hk, mk_g14 hk, mk_g15 hk, mk_g16 hk, mk_g17 hk, mk_g18 hk, mk_g19 hk, mk_g20 hk, mk_g21 hk, mk_g22 hk, f2, mb_closed m2 hRn.1.1 hk8 hRn.1.2.1.2 (by omega : 8 < N), bc2, f3]
def bw (ro : Option (List ru_C)) (k m n i : Nat) (a : List Int32) : Nat → Int32 × Int32
  | 0 => (-nI 1, nB ro k m n a)
  | s + 1 => if pv a (14 + s) = nI 0 then bw ro k m n i a s else if nB ro k m n (stB a i s) < (bw ro k m n i a s).2 then (nI s, nB ro k m n (stB a i s)) else bw ro k m n i a s
theorem jx_best {N : Nat} {h h2 : ss_Hp} {z y w : Int32} {T : List Nat} {a : List Int32} {fo x : Int32} {RS : List (List ru_C)} {US : List (List Int32)} {I : Nat → Option (List Int32 × Int32 × Int32)} (hc : cl_h h T a fo x RS US I) (hm : mo_h h2 T a fo x RS US I) (ha : as_ok T a fo x RS US I) (hN : 5000 < N) : jo (mm_S_best N (some 0) z y w h) (mm_M_best N (some 118) z y w h2) h h2 := by
  obtain ⟨Z, hb⟩ := cb_of hc
  obtain ⟨v, ⟨⟨bV, bI, bT, bF, bD, bS, bH⟩, ⟨bR0, bR1, bR2, bR3, bR4⟩, ⟨bFo, bX, bNo⟩, ⟨bG0, bG1, bG2, bG3⟩, bOwn, bStr, bBes, bSn, bWl, bNd, bCl⟩⟩ := cb_r hb
  have hk := cb_ck hb
  obtain ⟨th, fa, kp, dx, Y, hm1⟩ := mb_of hm
  have hk2 := mb_mk hm1
  have ha0 := ha
  obtain ⟨⟨Ht1, Ht2⟩, ⟨k, m, d, Hsd, Hul, Hu⟩, HRS, Hfo, Hx, HI⟩ := ha
  have Hok := Hsd.1
  obtain ⟨Hl, ⟨Hk, H2⟩, ⟨Hm, H3⟩, ⟨Hd, H10⟩, Hwl, Hbe, How⟩ := Hok
  by_cases cs : ¬ sp_ho a z
  · refine jo_no hc hm ha0 (r := -nI 2) ?_ ?_
    · unfold mm_S_best mm_S_best_j27
      simp (disch := omega) only [pb_its, pb_l2, pb_ll, nI_add, pb_mul, if_true, if_false, pb_bs, pb_b2n, pb_bz0, pb_bz1, pb_10, pb_01, pb_i31, ck_is0 hk, ck_r0_0 hk, ck_r0_1 hk, ck_r0_2 hk, ck_r0_3 hk, ck_r0_4 hk, ck_r0_5 hk, ck_r0_6 hk, ck_r0_7 hk, ck_r0_8 hk, ck_r0_9 hk, ck_is1 hk, ck_r1_0 hk, ck_is3 hk, ck_r3_0 hk, ck_r3_1 hk, ck_is20 hk, ck_r20_0 hk, ck_r20_1 hk, ck_r20_2 hk, ck_is24 hk, ck_r24_1 hk, ck_r24_2 hk, ck_r24_3 hk, ck_r24_4 hk, ck_is33 hk, ck_r33_0 hk, ck_r33_1 hk, ck_is40 hk, ck_r40_0 hk, ck_is102 hk, ck_r102_0 hk, ck_r102_1 hk, ck_r102_2 hk, ck_r102_3 hk, ck_r102_4 hk, ck_r102_5 hk, ck_is103 hk, ck_r103_0 hk, ck_r103_1 hk, ck_is111 hk, ck_r111_0 hk, ck_r111_1 hk, ck_r111_2 hk, ck_r111_3 hk, ck_r111_4 hk, ck_is114 hk, ck_r114_0 hk, ck_r114_1 hk, ck_r114_2 hk, ck_r114_3 hk, ck_r114_4 hk, bV, bI, bT, bF, bD, bS, bH, bR0, bR1, bR2, bR3, bR4, bFo, bX, bNo, bG0, bG1, bG2, bG3, cb_isFree hb cs]
    · unfold mm_M_best mm_M_best_j44
      simp (disch := omega) only [pb_its, pb_l2, pb_ll, nI_add, pb_mul, if_true, if_false, pb_bs, pb_b2n, pb_bz0, pb_bz1, pb_10, pb_01, pb_i31, mk_is hk2, mk_g0 hk2, mk_g1 hk2, mk_g2 hk2, mk_g3 hk2, mk_g4 hk2, mk_g5 hk2, mk_g6 hk2, mk_g7 hk2, mk_g8 hk2, mk_g9 hk2, mk_g10 hk2, mk_g11 hk2, mk_g12 hk2, mk_g13 hk2, mk_g14 hk2, mk_g15 hk2, mk_g16 hk2, mk_g17 hk2, mk_g18 hk2, mk_g19 hk2, mk_g20 hk2, mk_g21 hk2, mk_g22 hk2, mb_isHouseC hm1 Hl, pb_cf cs]
  replace cs := Classical.not_not.mp cs
  obtain ⟨i, hi, rfl⟩ := sp_ho_n Hm H3 cs
  have fr := cb_isFree2 (N := N) hb cs (by omega)
  have s13 := mb_said hm1 Hl (show 13 < 124 by omega)
  by_cases c : (pv a 13 >>> nI i) &&& nI 1 = nI 1
  · rw [if_pos c] at fr
    refine jo_no hc hm ha0 (r := -nI 2) ?_ ?_
    · unfold mm_S_best mm_S_best_j27
      simp (disch := omega) only [pb_its, pb_l2, pb_ll, nI_add, pb_mul, if_true, if_false, pb_bs, pb_b2n, pb_bz0, pb_bz1, pb_10, pb_01, pb_i31, ck_is0 hk, ck_r0_0 hk, ck_r0_1 hk, ck_r0_2 hk, ck_r0_3 hk, ck_r0_4 hk, ck_r0_5 hk, ck_r0_6 hk, ck_r0_7 hk, ck_r0_8 hk, ck_r0_9 hk, ck_is1 hk, ck_r1_0 hk, ck_is3 hk, ck_r3_0 hk, ck_r3_1 hk, ck_is20 hk, ck_r20_0 hk, ck_r20_1 hk, ck_r20_2 hk, ck_is24 hk, ck_r24_1 hk, ck_r24_2 hk, ck_r24_3 hk, ck_r24_4 hk, ck_is33 hk, ck_r33_0 hk, ck_r33_1 hk, ck_is40 hk, ck_r40_0 hk, ck_is102 hk, ck_r102_0 hk, ck_r102_1 hk, ck_r102_2 hk, ck_r102_3 hk, ck_r102_4 hk, ck_r102_5 hk, ck_is103 hk, ck_r103_0 hk, ck_r103_1 hk, ck_is111 hk, ck_r111_0 hk, ck_r111_1 hk, ck_r111_2 hk, ck_r111_3 hk, ck_r111_4 hk, ck_is114 hk, ck_r114_0 hk, ck_r114_1 hk, ck_r114_2 hk, ck_r114_3 hk, ck_r114_4 hk, bV, bI, bT, bF, bD, bS, bH, bR0, bR1, bR2, bR3, bR4, bFo, bX, bNo, bG0, bG1, bG2, bG3, fr]
    · unfold mm_M_best mm_M_best_j44
      simp (disch := omega) only [pb_its, pb_l2, pb_ll, nI_add, pb_mul, if_true, if_false, pb_bs, pb_b2n, pb_bz0, pb_bz1, pb_10, pb_01, pb_i31, mk_is hk2, mk_g0 hk2, mk_g1 hk2, mk_g2 hk2, mk_g3 hk2, mk_g4 hk2, mk_g5 hk2, mk_g6 hk2, mk_g7 hk2, mk_g8 hk2, mk_g9 hk2, mk_g10 hk2, mk_g11 hk2, mk_g12 hk2, mk_g13 hk2, mk_g14 hk2, mk_g15 hk2, mk_g16 hk2, mk_g17 hk2, mk_g18 hk2, mk_g19 hk2, mk_g20 hk2, mk_g21 hk2, mk_g22 hk2, mb_isHouseC hm1 Hl, pb_ct cs, s13, po_isOf (show i < 32 by omega), c]
  rw [if_neg c] at fr
  by_cases cy : ¬ sp_in y 1 30
  · refine jo_no hc hm ha0 (r := -nI 2) ?_ ?_
    · unfold mm_S_best mm_S_best_j27
      simp (disch := omega) only [pb_its, pb_l2, pb_ll, nI_add, pb_mul, if_true, if_false, pb_bs, pb_b2n, pb_bz0, pb_bz1, pb_10, pb_01, pb_i31, ck_is0 hk, ck_r0_0 hk, ck_r0_1 hk, ck_r0_2 hk, ck_r0_3 hk, ck_r0_4 hk, ck_r0_5 hk, ck_r0_6 hk, ck_r0_7 hk, ck_r0_8 hk, ck_r0_9 hk, ck_is1 hk, ck_r1_0 hk, ck_is3 hk, ck_r3_0 hk, ck_r3_1 hk, ck_is20 hk, ck_r20_0 hk, ck_r20_1 hk, ck_r20_2 hk, ck_is24 hk, ck_r24_1 hk, ck_r24_2 hk, ck_r24_3 hk, ck_r24_4 hk, ck_is33 hk, ck_r33_0 hk, ck_r33_1 hk, ck_is40 hk, ck_r40_0 hk, ck_is102 hk, ck_r102_0 hk, ck_r102_1 hk, ck_r102_2 hk, ck_r102_3 hk, ck_r102_4 hk, ck_r102_5 hk, ck_is103 hk, ck_r103_0 hk, ck_r103_1 hk, ck_is111 hk, ck_r111_0 hk, ck_r111_1 hk, ck_r111_2 hk, ck_r111_3 hk, ck_r111_4 hk, ck_is114 hk, ck_r114_0 hk, ck_r114_1 hk, ck_r114_2 hk, ck_r114_3 hk, ck_r114_4 hk, bV, bI, bT, bF, bD, bS, bH, bR0, bR1, bR2, bR3, bR4, bFo, bX, bNo, bG0, bG1, bG2, bG3, fr, pq_withinC, pb_cf cy]
    · unfold mm_M_best mm_M_best_j44
      simp (disch := omega) only [pb_its, pb_l2, pb_ll, nI_add, pb_mul, if_true, if_false, pb_bs, pb_b2n, pb_bz0, pb_bz1, pb_10, pb_01, pb_i31, mk_is hk2, mk_g0 hk2, mk_g1 hk2, mk_g2 hk2, mk_g3 hk2, mk_g4 hk2, mk_g5 hk2, mk_g6 hk2, mk_g7 hk2, mk_g8 hk2, mk_g9 hk2, mk_g10 hk2, mk_g11 hk2, mk_g12 hk2, mk_g13 hk2, mk_g14 hk2, mk_g15 hk2, mk_g16 hk2, mk_g17 hk2, mk_g18 hk2, mk_g19 hk2, mk_g20 hk2, mk_g21 hk2, mk_g22 hk2, mb_isHouseC hm1 Hl, pb_ct cs, s13, po_isOf (show i < 32 by omega), c, po_inC, pb_cf cy]
  replace cy := Classical.not_not.mp cy
  by_cases cw : ¬ sp_in w 0 1
  · refine jo_no hc hm ha0 (r := -nI 2) ?_ ?_
    · unfold mm_S_best mm_S_best_j27
      simp (disch := omega) only [pb_its, pb_l2, pb_ll, nI_add, pb_mul, if_true, if_false, pb_bs, pb_b2n, pb_bz0, pb_bz1, pb_10, pb_01, pb_i31, ck_is0 hk, ck_r0_0 hk, ck_r0_1 hk, ck_r0_2 hk, ck_r0_3 hk, ck_r0_4 hk, ck_r0_5 hk, ck_r0_6 hk, ck_r0_7 hk, ck_r0_8 hk, ck_r0_9 hk, ck_is1 hk, ck_r1_0 hk, ck_is3 hk, ck_r3_0 hk, ck_r3_1 hk, ck_is20 hk, ck_r20_0 hk, ck_r20_1 hk, ck_r20_2 hk, ck_is24 hk, ck_r24_1 hk, ck_r24_2 hk, ck_r24_3 hk, ck_r24_4 hk, ck_is33 hk, ck_r33_0 hk, ck_r33_1 hk, ck_is40 hk, ck_r40_0 hk, ck_is102 hk, ck_r102_0 hk, ck_r102_1 hk, ck_r102_2 hk, ck_r102_3 hk, ck_r102_4 hk, ck_r102_5 hk, ck_is103 hk, ck_r103_0 hk, ck_r103_1 hk, ck_is111 hk, ck_r111_0 hk, ck_r111_1 hk, ck_r111_2 hk, ck_r111_3 hk, ck_r111_4 hk, ck_is114 hk, ck_r114_0 hk, ck_r114_1 hk, ck_r114_2 hk, ck_r114_3 hk, ck_r114_4 hk, bV, bI, bT, bF, bD, bS, bH, bR0, bR1, bR2, bR3, bR4, bFo, bX, bNo, bG0, bG1, bG2, bG3, fr, pq_withinC, pb_ct cy, pb_cf cw]
    · unfold mm_M_best mm_M_best_j44
      simp (disch := omega) only [pb_its, pb_l2, pb_ll, nI_add, pb_mul, if_true, if_false, pb_bs, pb_b2n, pb_bz0, pb_bz1, pb_10, pb_01, pb_i31, mk_is hk2, mk_g0 hk2, mk_g1 hk2, mk_g2 hk2, mk_g3 hk2, mk_g4 hk2, mk_g5 hk2, mk_g6 hk2, mk_g7 hk2, mk_g8 hk2, mk_g9 hk2, mk_g10 hk2, mk_g11 hk2, mk_g12 hk2, mk_g13 hk2, mk_g14 hk2, mk_g15 hk2, mk_g16 hk2, mk_g17 hk2, mk_g18 hk2, mk_g19 hk2, mk_g20 hk2, mk_g21 hk2, mk_g22 hk2, mb_isHouseC hm1 Hl, pb_ct cs, s13, po_isOf (show i < 32 by omega), c, po_inC, pb_ct cy, pb_cf cw]
  replace cw := Classical.not_not.mp cw
  obtain ⟨n, -, hn, rfl⟩ := sp_in_n cy (by omega) (by omega)
  have ht := sd_step Hsd (Or.inr (by omega))
  have hR := sd_told Hsd ht
  have Hd9 : d ≤ 999 := Hsd.2.2.2.2.1
  obtain ⟨h1, e1, c1⟩ := cb_clby0 (N := N) (n := n) (y1 := nI i) hb ht Hfo HRS hR (by omega) (by omega) hN
  obtain ⟨g1, f1, m1⟩ := mb_keeps (N := N) hm1 Hl (by omega)
  obtain ⟨g2, th2, fa2, f2, m2⟩ := mb_clin (N := N) (n := n) m1 Hl (fun _ _ => rfl) Hfo HRS hR (by omega) (by omega) hN
  have key := fun w : Int32 => pb_for (body := mm_F_bestSweep_b15 N (some 111) (nI i) (nI n) w) k (fun s st => ∃ h', st = ((bw (ro_of fo RS) k m n i a s).1, (bw (ro_of fo RS) k m n i a s).2, nI s, h') ∧ cb_h h h' T a fo x RS US I Z) (fun e => ∃ h', e = ((bw (ro_of fo RS) k m n i a k).1, (bw (ro_of fo RS) k m n i a k).2, h') ∧ cb_h h h' T a fo x RS US I Z) (N := N) (s := (-nI 1, nB (ro_of fo RS) k m n a, nI 0, h1)) (by omega) ⟨h1, rfl, c1⟩ (by
    rintro s st hs ⟨h', rfl, cc⟩
    left
    obtain ⟨v2, ⟨⟨bVx, bIx, bTx, bFx, bDx, bSx, bHx⟩, ⟨bR0x, bR1x, bR2x, bR3x, bR4x⟩, ⟨bFox, bXx, bNox⟩, ⟨bG0x, bG1x, bG2x, bG3x⟩, bOwnx, bStrx, bBesx, bSnx, bWlx, bNdx, bClx⟩⟩ := cb_r cc
    have ck := cb_ck cc
    have hlt : ¬ nI k ≤ nI s := nI_ge hs (by omega)
    obtain ⟨q, q1, q2, q3⟩ := hR.2.1 s (by omega)
    by_cases c0 : q = 0
    · subst c0
      have n0 : nI 0 ≤ nI 0 := Int32.le_refl _
      refine ⟨_, ?_, h', rfl, cc⟩
      unfold mm_F_bestSweep_b15 mm_F_bestSweep_j59 mm_F_bestSweep_j76
      rw [bw, if_pos q2]
      simp (disch := omega) only [pb_its, pb_l2, pb_ll, nI_add, pb_mul, if_true, if_false, pb_bs, pb_b2n, pb_bz0, pb_bz1, pb_10, pb_01, pb_i31, ck_is0 ck, ck_r0_0 ck, ck_r0_1 ck, ck_r0_2 ck, ck_r0_3 ck, ck_r0_4 ck, ck_r0_5 ck, ck_r0_6 ck, ck_r0_7 ck, ck_r0_8 ck, ck_r0_9 ck, ck_is1 ck, ck_r1_0 ck, ck_is3 ck, ck_r3_0 ck, ck_r3_1 ck, ck_is20 ck, ck_r20_0 ck, ck_r20_1 ck, ck_r20_2 ck, ck_is24 ck, ck_r24_1 ck, ck_r24_2 ck, ck_r24_3 ck, ck_r24_4 ck, ck_is33 ck, ck_r33_0 ck, ck_r33_1 ck, ck_is40 ck, ck_r40_0 ck, ck_is102 ck, ck_r102_0 ck, ck_r102_1 ck, ck_r102_2 ck, ck_r102_3 ck, ck_r102_4 ck, ck_r102_5 ck, ck_is103 ck, ck_r103_0 ck, ck_r103_1 ck, ck_is111 ck, ck_r111_0 ck, ck_r111_1 ck, ck_r111_2 ck, ck_r111_3 ck, ck_r111_4 ck, ck_is114 ck, ck_r114_0 ck, ck_r114_1 ck, ck_r114_2 ck, ck_r114_3 ck, ck_r114_4 ck, bVx, bIx, bTx, bFx, bDx, bSx, bHx, bR0x, bR1x, bR2x, bR3x, bR4x, bFox, bXx, bNox, bG0x, bG1x, bG2x, bG3x, H2, hlt, bSnx s (by omega), q2, n0, Int32.le_refl]
    · have n0 : ¬ nI q ≤ nI 0 := nI_ge (by omega) (by omega)
      have n1 : ¬ pv a (14 + s) = nI 0 := fun e => c0 ((nI_eq (by omega) (by omega)).mp (q2.symm.trans e))
      obtain ⟨h3, e3, c3⟩ := cb_clby (N := N) (n := n) cc ht Hfo HRS hR (by omega) (by omega) hi hs n1 hN
      refine ⟨_, ?_, h3, rfl, c3⟩
      unfold mm_F_bestSweep_b15 mm_F_bestSweep_j59 mm_F_bestSweep_j76
      rw [bw, if_neg n1]
      by_cases cl : nB (ro_of fo RS) k m n (stB a i s) < (bw (ro_of fo RS) k m n i a s).2
      · have n2 : ¬ (bw (ro_of fo RS) k m n i a s).2 ≤ nB (ro_of fo RS) k m n (stB a i s) := Int32.not_le.mpr cl
        simp (disch := omega) only [pb_its, pb_l2, pb_ll, nI_add, pb_mul, if_true, if_false, pb_bs, pb_b2n, pb_bz0, pb_bz1, pb_10, pb_01, pb_i31, ck_is0 ck, ck_r0_0 ck, ck_r0_1 ck, ck_r0_2 ck, ck_r0_3 ck, ck_r0_4 ck, ck_r0_5 ck, ck_r0_6 ck, ck_r0_7 ck, ck_r0_8 ck, ck_r0_9 ck, ck_is1 ck, ck_r1_0 ck, ck_is3 ck, ck_r3_0 ck, ck_r3_1 ck, ck_is20 ck, ck_r20_0 ck, ck_r20_1 ck, ck_r20_2 ck, ck_is24 ck, ck_r24_1 ck, ck_r24_2 ck, ck_r24_3 ck, ck_r24_4 ck, ck_is33 ck, ck_r33_0 ck, ck_r33_1 ck, ck_is40 ck, ck_r40_0 ck, ck_is102 ck, ck_r102_0 ck, ck_r102_1 ck, ck_r102_2 ck, ck_r102_3 ck, ck_r102_4 ck, ck_r102_5 ck, ck_is103 ck, ck_r103_0 ck, ck_r103_1 ck, ck_is111 ck, ck_r111_0 ck, ck_r111_1 ck, ck_r111_2 ck, ck_r111_3 ck, ck_r111_4 ck, ck_is114 ck, ck_r114_0 ck, ck_r114_1 ck, ck_r114_2 ck, ck_r114_3 ck, ck_r114_4 ck, bVx, bIx, bTx, bFx, bDx, bSx, bHx, bR0x, bR1x, bR2x, bR3x, bR4x, bFox, bXx, bNox, bG0x, bG1x, bG2x, bG3x, H2, hlt, bSnx s (by omega), q2, n0, e3, cl, n2]
      · have n2 : (bw (ro_of fo RS) k m n i a s).2 ≤ nB (ro_of fo RS) k m n (stB a i s) := Int32.not_lt.mp cl
        simp (disch := omega) only [pb_its, pb_l2, pb_ll, nI_add, pb_mul, if_true, if_false, pb_bs, pb_b2n, pb_bz0, pb_bz1, pb_10, pb_01, pb_i31, ck_is0 ck, ck_r0_0 ck, ck_r0_1 ck, ck_r0_2 ck, ck_r0_3 ck, ck_r0_4 ck, ck_r0_5 ck, ck_r0_6 ck, ck_r0_7 ck, ck_r0_8 ck, ck_r0_9 ck, ck_is1 ck, ck_r1_0 ck, ck_is3 ck, ck_r3_0 ck, ck_r3_1 ck, ck_is20 ck, ck_r20_0 ck, ck_r20_1 ck, ck_r20_2 ck, ck_is24 ck, ck_r24_1 ck, ck_r24_2 ck, ck_r24_3 ck, ck_r24_4 ck, ck_is33 ck, ck_r33_0 ck, ck_r33_1 ck, ck_is40 ck, ck_r40_0 ck, ck_is102 ck, ck_r102_0 ck, ck_r102_1 ck, ck_r102_2 ck, ck_r102_3 ck, ck_r102_4 ck, ck_r102_5 ck, ck_is103 ck, ck_r103_0 ck, ck_r103_1 ck, ck_is111 ck, ck_r111_0 ck, ck_r111_1 ck, ck_r111_2 ck, ck_r111_3 ck, ck_r111_4 ck, ck_is114 ck, ck_r114_0 ck, ck_r114_1 ck, ck_r114_2 ck, ck_r114_3 ck, ck_r114_4 ck, bVx, bIx, bTx, bFx, bDx, bSx, bHx, bR0x, bR1x, bR2x, bR3x, bR4x, bFox, bXx, bNox, bG0x, bG1x, bG2x, bG3x, H2, hlt, bSnx s (by omega), q2, n0, e3, cl, n2]) (by
    rintro st ⟨h', rfl, cc⟩
    obtain ⟨v2, ⟨⟨bVx, bIx, bTx, bFx, bDx, bSx, bHx⟩, ⟨bR0x, bR1x, bR2x, bR3x, bR4x⟩, ⟨bFox, bXx, bNox⟩, ⟨bG0x, bG1x, bG2x, bG3x⟩, bOwnx, bStrx, bBesx, bSnx, bWlx, bNdx, bClx⟩⟩ := cb_r cc
    have ck := cb_ck cc
    refine ⟨_, ?_, h', rfl, cc⟩
    unfold mm_F_bestSweep_b15
    simp (disch := omega) only [pb_its, pb_l2, pb_ll, nI_add, pb_mul, if_true, if_false, pb_bs, pb_b2n, pb_bz0, pb_bz1, pb_10, pb_01, pb_i31, ck_is0 ck, ck_r0_0 ck, ck_r0_1 ck, ck_r0_2 ck, ck_r0_3 ck, ck_r0_4 ck, ck_r0_5 ck, ck_r0_6 ck, ck_r0_7 ck, ck_r0_8 ck, ck_r0_9 ck, ck_is1 ck, ck_r1_0 ck, ck_is3 ck, ck_r3_0 ck, ck_r3_1 ck, ck_is20 ck, ck_r20_0 ck, ck_r20_1 ck, ck_r20_2 ck, ck_is24 ck, ck_r24_1 ck, ck_r24_2 ck, ck_r24_3 ck, ck_r24_4 ck, ck_is33 ck, ck_r33_0 ck, ck_r33_1 ck, ck_is40 ck, ck_r40_0 ck, ck_is102 ck, ck_r102_0 ck, ck_r102_1 ck, ck_r102_2 ck, ck_r102_3 ck, ck_r102_4 ck, ck_r102_5 ck, ck_is103 ck, ck_r103_0 ck, ck_r103_1 ck, ck_is111 ck, ck_r111_0 ck, ck_r111_1 ck, ck_r111_2 ck, ck_r111_3 ck, ck_r111_4 ck, ck_is114 ck, ck_r114_0 ck, ck_r114_1 ck, ck_r114_2 ck, ck_r114_3 ck, ck_r114_4 ck, bVx, bIx, bTx, bFx, bDx, bSx, bHx, bR0x, bR1x, bR2x, bR3x, bR4x, bFox, bXx, bNox, bG0x, bG1x, bG2x, bG3x, H2, nI_le (Nat.le_refl k) (by omega : k < 2 ^ 31)])
  have bu0 : (pv a 13 >>> nI i) &&& nI 1 = nI 0 := by
    rcases pb_and1 (pv a 13 >>> nI i) with q | q
    · exact q
    · exact absurd q c
  have mkey := fun w : Int32 => pb_for (body := mm_M_best_b64 N (some 118) (nI i) (nI n) w) k (fun s st => ∃ h', st = ((bw (ro_of fo RS) k m n i a s).1, (bw (ro_of fo RS) k m n i a s).2, nI s, h') ∧ ∃ th fa, mb_h h2 h' T a fo x RS US I fo a th fa (sl a 10 20) dx Y) (fun e => ∃ h' th fa, e = ((bw (ro_of fo RS) k m n i a k).1, (bw (ro_of fo RS) k m n i a k).2, h') ∧ mb_h h2 h' T a fo x RS US I fo a th fa (sl a 10 20) dx Y) (N := N) (s := (-nI 1, nB (ro_of fo RS) k m n a, nI 0, g2)) (by omega) ⟨g2, rfl, _, _, m2⟩ (by
    rintro s st hs ⟨h', rfl, th, fa, q⟩
    left
    have hkq := mb_mk q
    have hlt : ¬ nI k ≤ nI s := nI_ge hs (by omega)
    have cn := mb_canSweep (N := N) (i := i) (s := s) q Hl (by omega) (by omega) (by obtain ⟨q, q1, q2, -⟩ := hR.2.1 s (by omega); exact ⟨q, q1, q2⟩)
    rw [if_neg c] at cn
    by_cases c0 : pv a (14 + s) = nI 0
    · rw [if_pos c0] at cn
      refine ⟨_, ?_, h', rfl, th, fa, q⟩
      unfold mm_M_best_b64 mm_M_best_j134
      rw [bw, if_pos c0]
      simp (disch := omega) only [pb_its, pb_l2, pb_ll, nI_add, pb_mul, if_true, if_false, pb_bs, pb_b2n, pb_bz0, pb_bz1, pb_10, pb_01, pb_i31, mk_is hkq, mk_g0 hkq, mk_g1 hkq, mk_g2 hkq, mk_g3 hkq, mk_g4 hkq, mk_g5 hkq, mk_g6 hkq, mk_g7 hkq, mk_g8 hkq, mk_g9 hkq, mk_g10 hkq, mk_g11 hkq, mk_g12 hkq, mk_g13 hkq, mk_g14 hkq, mk_g15 hkq, mk_g16 hkq, mk_g17 hkq, mk_g18 hkq, mk_g19 hkq, mk_g20 hkq, mk_g21 hkq, mk_g22 hkq, mb_said q Hl (show 2 < 124 by omega), H2, hlt, cn]
    · rw [if_neg c0] at cn
      obtain ⟨bq, hbq, h13⟩ := hR.2.2.2.2.2
      obtain ⟨bq', hbq', ebq, -⟩ := pb_bu bq hbq i (by omega)
      have hbu : pv a 13 ||| nI 1 <<< nI i = nI bq' := by rw [h13]; exact ebq
      obtain ⟨g3, f3, m3⟩ := mb_set (i := 13) (y := nI bq') q Hl (by omega)
      obtain ⟨g4, f4, m4⟩ := mb_takes (N := N) m3 (sa_R_13 hR hbq') (by omega : i < 4) hs
      rw [sa_much_13] at f4
      rw [sa_take_13, ← hbu] at m4
      obtain ⟨sR, sE⟩ := stB_R hR hi hs
      obtain ⟨g5, th5, fa5, f5, m5⟩ := mb_clin (N := N) (n := n) (b := stB a i s) m4 Hl (fun j hj => sE j (by omega)) Hfo HRS sR (by omega) (by omega) hN
      refine ⟨_, ?_, g5, rfl, _, _, m5⟩
      unfold mm_M_best_b64 mm_M_best_j134
      rw [bw, if_neg c0]
      by_cases cl : nB (ro_of fo RS) k m n (stB a i s) < (bw (ro_of fo RS) k m n i a s).2
      · simp (disch := omega) only [pb_its, pb_l2, pb_ll, nI_add, pb_mul, if_true, if_false, pb_bs, pb_b2n, pb_bz0, pb_bz1, pb_10, pb_01, pb_i31, mk_is hkq, mk_g0 hkq, mk_g1 hkq, mk_g2 hkq, mk_g3 hkq, mk_g4 hkq, mk_g5 hkq, mk_g6 hkq, mk_g7 hkq, mk_g8 hkq, mk_g9 hkq, mk_g10 hkq, mk_g11 hkq, mk_g12 hkq, mk_g13 hkq, mk_g14 hkq, mk_g15 hkq, mk_g16 hkq, mk_g17 hkq, mk_g18 hkq, mk_g19 hkq, mk_g20 hkq, mk_g21 hkq, mk_g22 hkq, mb_said q Hl (show 2 < 124 by omega), H2, hlt, cn, mb_said q Hl (show 13 < 124 by omega), hbu, f3, f4, f5, cl]
      · simp (disch := omega) only [pb_its, pb_l2, pb_ll, nI_add, pb_mul, if_true, if_false, pb_bs, pb_b2n, pb_bz0, pb_bz1, pb_10, pb_01, pb_i31, mk_is hkq, mk_g0 hkq, mk_g1 hkq, mk_g2 hkq, mk_g3 hkq, mk_g4 hkq, mk_g5 hkq, mk_g6 hkq, mk_g7 hkq, mk_g8 hkq, mk_g9 hkq, mk_g10 hkq, mk_g11 hkq, mk_g12 hkq, mk_g13 hkq, mk_g14 hkq, mk_g15 hkq, mk_g16 hkq, mk_g17 hkq, mk_g18 hkq, mk_g19 hkq, mk_g20 hkq, mk_g21 hkq, mk_g22 hkq, mb_said q Hl (show 2 < 124 by omega), H2, hlt, cn, mb_said q Hl (show 13 < 124 by omega), hbu, f3, f4, f5, cl]) (by
    rintro st ⟨h', rfl, th, fa, q⟩
    have hkq := mb_mk q
    refine ⟨_, ?_, h', th, fa, rfl, q⟩
    unfold mm_M_best_b64
    simp (disch := omega) only [pb_its, pb_l2, pb_ll, nI_add, pb_mul, if_true, if_false, pb_bs, pb_b2n, pb_bz0, pb_bz1, pb_10, pb_01, pb_i31, mk_is hkq, mk_g0 hkq, mk_g1 hkq, mk_g2 hkq, mk_g3 hkq, mk_g4 hkq, mk_g5 hkq, mk_g6 hkq, mk_g7 hkq, mk_g8 hkq, mk_g9 hkq, mk_g10 hkq, mk_g11 hkq, mk_g12 hkq, mk_g13 hkq, mk_g14 hkq, mk_g15 hkq, mk_g16 hkq, mk_g17 hkq, mk_g18 hkq, mk_g19 hkq, mk_g20 hkq, mk_g21 hkq, mk_g22 hkq, mb_said q Hl (show 2 < 124 by omega), H2, nI_le (Nat.le_refl k) (by omega : k < 2 ^ 31)])
  by_cases c0 : w = nI 0
  · subst c0
    obtain ⟨_, l1, h3, rfl, c3⟩ := key (nI 0)
    obtain ⟨_, l2, g3, th', fa', rfl, m3⟩ := mkey (nI 0)
    refine jo_ask ha0 c3 m3 (r := (bw (ro_of fo RS) k m n i a k).1) ?_ ?_
    · unfold mm_S_best mm_S_best_j46 mm_F_bestSweep mm_F_bestSweep_j93
      simp (disch := omega) only [pb_its, pb_l2, pb_ll, nI_add, pb_mul, if_true, if_false, pb_bs, pb_b2n, pb_bz0, pb_bz1, pb_10, pb_01, pb_i31, ck_is0 hk, ck_r0_0 hk, ck_r0_1 hk, ck_r0_2 hk, ck_r0_3 hk, ck_r0_4 hk, ck_r0_5 hk, ck_r0_6 hk, ck_r0_7 hk, ck_r0_8 hk, ck_r0_9 hk, ck_is1 hk, ck_r1_0 hk, ck_is3 hk, ck_r3_0 hk, ck_r3_1 hk, ck_is20 hk, ck_r20_0 hk, ck_r20_1 hk, ck_r20_2 hk, ck_is24 hk, ck_r24_1 hk, ck_r24_2 hk, ck_r24_3 hk, ck_r24_4 hk, ck_is33 hk, ck_r33_0 hk, ck_r33_1 hk, ck_is40 hk, ck_r40_0 hk, ck_is102 hk, ck_r102_0 hk, ck_r102_1 hk, ck_r102_2 hk, ck_r102_3 hk, ck_r102_4 hk, ck_r102_5 hk, ck_is103 hk, ck_r103_0 hk, ck_r103_1 hk, ck_is111 hk, ck_r111_0 hk, ck_r111_1 hk, ck_r111_2 hk, ck_r111_3 hk, ck_r111_4 hk, ck_is114 hk, ck_r114_0 hk, ck_r114_1 hk, ck_r114_2 hk, ck_r114_3 hk, ck_r114_4 hk, bV, bI, bT, bF, bD, bS, bH, bR0, bR1, bR2, bR3, bR4, bFo, bX, bNo, bG0, bG1, bG2, bG3, fr, pq_withinC, pb_ct cy, pb_ct cw, e1, l1]
    · unfold mm_M_best mm_M_best_j151
      simp (disch := omega) only [pb_its, pb_l2, pb_ll, nI_add, pb_mul, if_true, if_false, pb_bs, pb_b2n, pb_bz0, pb_bz1, pb_10, pb_01, pb_i31, mk_is hk2, mk_g0 hk2, mk_g1 hk2, mk_g2 hk2, mk_g3 hk2, mk_g4 hk2, mk_g5 hk2, mk_g6 hk2, mk_g7 hk2, mk_g8 hk2, mk_g9 hk2, mk_g10 hk2, mk_g11 hk2, mk_g12 hk2, mk_g13 hk2, mk_g14 hk2, mk_g15 hk2, mk_g16 hk2, mk_g17 hk2, mk_g18 hk2, mk_g19 hk2, mk_g20 hk2, mk_g21 hk2, mk_g22 hk2, mb_isHouseC hm1 Hl, pb_ct cs, s13, po_isOf (show i < 32 by omega), c, po_inC, pb_ct cy, pb_ct cw, f1, f2, l2]
  · have w1 : w = nI 1 := Classical.byContradiction (fun h1 => sp_01 c0 h1 cw)
    subst w1
    obtain ⟨_, l1, h3, rfl, c3⟩ := key (nI 1)
    obtain ⟨_, l2, g3, th', fa', rfl, m3⟩ := mkey (nI 1)
    refine jo_ask ha0 c3 m3 (r := (bw (ro_of fo RS) k m n i a k).2) ?_ ?_
    · unfold mm_S_best mm_S_best_j46 mm_F_bestSweep mm_F_bestSweep_j93
      simp (disch := omega) only [pb_its, pb_l2, pb_ll, nI_add, pb_mul, if_true, if_false, pb_bs, pb_b2n, pb_bz0, pb_bz1, pb_10, pb_01, pb_i31, ck_is0 hk, ck_r0_0 hk, ck_r0_1 hk, ck_r0_2 hk, ck_r0_3 hk, ck_r0_4 hk, ck_r0_5 hk, ck_r0_6 hk, ck_r0_7 hk, ck_r0_8 hk, ck_r0_9 hk, ck_is1 hk, ck_r1_0 hk, ck_is3 hk, ck_r3_0 hk, ck_r3_1 hk, ck_is20 hk, ck_r20_0 hk, ck_r20_1 hk, ck_r20_2 hk, ck_is24 hk, ck_r24_1 hk, ck_r24_2 hk, ck_r24_3 hk, ck_r24_4 hk, ck_is33 hk, ck_r33_0 hk, ck_r33_1 hk, ck_is40 hk, ck_r40_0 hk, ck_is102 hk, ck_r102_0 hk, ck_r102_1 hk, ck_r102_2 hk, ck_r102_3 hk, ck_r102_4 hk, ck_r102_5 hk, ck_is103 hk, ck_r103_0 hk, ck_r103_1 hk, ck_is111 hk, ck_r111_0 hk, ck_r111_1 hk, ck_r111_2 hk, ck_r111_3 hk, ck_r111_4 hk, ck_is114 hk, ck_r114_0 hk, ck_r114_1 hk, ck_r114_2 hk, ck_r114_3 hk, ck_r114_4 hk, bV, bI, bT, bF, bD, bS, bH, bR0, bR1, bR2, bR3, bR4, bFo, bX, bNo, bG0, bG1, bG2, bG3, fr, pq_withinC, pb_ct cy, pb_ct cw, e1, l1]
    · unfold mm_M_best mm_M_best_j151
      simp (disch := omega) only [pb_its, pb_l2, pb_ll, nI_add, pb_mul, if_true, if_false, pb_bs, pb_b2n, pb_bz0, pb_bz1, pb_10, pb_01, pb_i31, mk_is hk2, mk_g0 hk2, mk_g1 hk2, mk_g2 hk2, mk_g3 hk2, mk_g4 hk2, mk_g5 hk2, mk_g6 hk2, mk_g7 hk2, mk_g8 hk2, mk_g9 hk2, mk_g10 hk2, mk_g11 hk2, mk_g12 hk2, mk_g13 hk2, mk_g14 hk2, mk_g15 hk2, mk_g16 hk2, mk_g17 hk2, mk_g18 hk2, mk_g19 hk2, mk_g20 hk2, mk_g21 hk2, mk_g22 hk2, mb_isHouseC hm1 Hl, pb_ct cs, s13, po_isOf (show i < 32 by omega), c, po_inC, pb_ct cy, pb_ct cw, f1, f2, l2]
