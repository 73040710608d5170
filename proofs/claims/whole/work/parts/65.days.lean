/-! ===== asked of days: stays, closes, thrownOn ===== -/
theorem ex_least (P : Nat → Prop) : ∀ n, (∀ i, i < n → ¬ P i) ∨ ∃ i, i < n ∧ P i ∧ ∀ j, j < i → ¬ P j := by
  intro n
  induction n with
  | zero => left; intro i hi; omega
  | succ n ih =>
    rcases ih with h | ⟨i, h1, h2, h3⟩
    · by_cases c : P n
      · exact Or.inr ⟨n, by omega, c, fun j hj => h j hj⟩
      · left
        intro i hi
        by_cases e : i = n
        · rw [e]; exact c
        · exact h i (by omega)
    · exact Or.inr ⟨i, by omega, h2, h3⟩
def sO (ro : Option (List ru_C)) (k m : Nat) (b : List Int32) : Nat → Int32
  | 0 => sa_clo b k
  | i + 1 => sO ro k m b i ||| sa_clo (dN ro k m b (i + 1)) k
theorem jx_stays {N : Nat} {h h2 : ss_Hp} {y : Int32} {T : List Nat} {a : List Int32} {fo x : Int32} {RS : List (List ru_C)} {US : List (List Int32)} {I : Nat → Option (List Int32 × Int32 × Int32)} (hc : cl_h h T a fo x RS US I) (hm : mo_h h2 T a fo x RS US I) (ha : as_ok T a fo x RS US I) (hN : 5000 < N) : jo (mm_S_stays N (some 0) y h) (mm_M_stays N (some 118) y h2) h h2 := by
  obtain ⟨Z, hb⟩ := cb_of hc
  obtain ⟨v, ⟨⟨bV, bI, bT, bF, bD, bS, bH⟩, ⟨bR0, bR1, bR2, bR3, bR4⟩, ⟨bFo, bX, bNo⟩, ⟨bG0, bG1, bG2, bG3⟩, bOwn, bStr, bBes, bSn, bWl, bNd, bCl⟩⟩ := cb_r hb
  have hk := cb_ck hb
  obtain ⟨th, fa, kp, dx, Y, hm1⟩ := mb_of hm
  have hk2 := mb_mk hm1
  have ha0 := ha
  obtain ⟨⟨Ht1, Ht2⟩, ⟨k, m, d, Hsd, Hul, Hu⟩, HRS, Hfo, Hx, HI⟩ := ha
  have Hok := Hsd.1
  obtain ⟨Hl, ⟨Hk, H2⟩, ⟨Hm, H3⟩, ⟨Hd, H10⟩, Hwl, Hbe, How⟩ := Hok
  by_cases ht : pv a 0 ≤ nI 0
  · have t0 : sa_told a = nI 0 := if_pos ht
    refine jo_no hc hm ha0 (r := -nI 1) ?_ ?_
    · unfold mm_S_stays mm_S_stays_j34 mm_S_stays_j35
      simp (disch := omega) only [pb_its, pb_l2, pb_ll, nI_add, pb_mul, if_true, if_false, pb_bs, pb_b2n, pb_bz0, pb_bz1, pb_10, pb_01, pb_i31, ck_is0 hk, ck_r0_0 hk, ck_r0_1 hk, ck_r0_2 hk, ck_r0_3 hk, ck_r0_4 hk, ck_r0_5 hk, ck_r0_6 hk, ck_r0_7 hk, ck_r0_8 hk, ck_r0_9 hk, ck_is1 hk, ck_r1_0 hk, ck_is3 hk, ck_r3_0 hk, ck_r3_1 hk, ck_is20 hk, ck_r20_0 hk, ck_r20_1 hk, ck_r20_2 hk, ck_is24 hk, ck_r24_1 hk, ck_r24_2 hk, ck_r24_3 hk, ck_r24_4 hk, ck_is33 hk, ck_r33_0 hk, ck_r33_1 hk, ck_is40 hk, ck_r40_0 hk, ck_is102 hk, ck_r102_0 hk, ck_r102_1 hk, ck_r102_2 hk, ck_r102_3 hk, ck_r102_4 hk, ck_r102_5 hk, ck_is103 hk, ck_r103_0 hk, ck_r103_1 hk, ck_is111 hk, ck_r111_0 hk, ck_r111_1 hk, ck_r111_2 hk, ck_r111_3 hk, ck_r111_4 hk, ck_is114 hk, ck_r114_0 hk, ck_r114_1 hk, ck_r114_2 hk, ck_r114_3 hk, ck_r114_4 hk, bV, bI, bT, bF, bD, bS, bH, bR0, bR1, bR2, bR3, bR4, bFo, bX, bNo, bG0, bG1, bG2, bG3, t0]
    · unfold mm_M_stays mm_M_stays_j19
      simp (disch := omega) only [pb_its, pb_l2, pb_ll, nI_add, pb_mul, if_true, if_false, pb_bs, pb_b2n, pb_bz0, pb_bz1, pb_10, pb_01, pb_i31, mk_is hk2, mk_g0 hk2, mk_g1 hk2, mk_g2 hk2, mk_g3 hk2, mk_g4 hk2, mk_g5 hk2, mk_g6 hk2, mk_g7 hk2, mk_g8 hk2, mk_g9 hk2, mk_g10 hk2, mk_g11 hk2, mk_g12 hk2, mk_g13 hk2, mk_g14 hk2, mk_g15 hk2, mk_g16 hk2, mk_g17 hk2, mk_g18 hk2, mk_g19 hk2, mk_g20 hk2, mk_g21 hk2, mk_g22 hk2, mb_isValley hm1 Hl, t0]
  have t1 : sa_told a = nI 1 := if_neg ht
  have hR := sd_told Hsd ht
  have Hd9 : d ≤ 999 := Hsd.2.2.2.2.1
  by_cases cy : ¬ sp_in y 1 60
  · refine jo_no hc hm ha0 (r := -nI 1) ?_ ?_
    · unfold mm_S_stays mm_S_stays_j34 mm_S_stays_j35
      simp (disch := omega) only [pb_its, pb_l2, pb_ll, nI_add, pb_mul, if_true, if_false, pb_bs, pb_b2n, pb_bz0, pb_bz1, pb_10, pb_01, pb_i31, ck_is0 hk, ck_r0_0 hk, ck_r0_1 hk, ck_r0_2 hk, ck_r0_3 hk, ck_r0_4 hk, ck_r0_5 hk, ck_r0_6 hk, ck_r0_7 hk, ck_r0_8 hk, ck_r0_9 hk, ck_is1 hk, ck_r1_0 hk, ck_is3 hk, ck_r3_0 hk, ck_r3_1 hk, ck_is20 hk, ck_r20_0 hk, ck_r20_1 hk, ck_r20_2 hk, ck_is24 hk, ck_r24_1 hk, ck_r24_2 hk, ck_r24_3 hk, ck_r24_4 hk, ck_is33 hk, ck_r33_0 hk, ck_r33_1 hk, ck_is40 hk, ck_r40_0 hk, ck_is102 hk, ck_r102_0 hk, ck_r102_1 hk, ck_r102_2 hk, ck_r102_3 hk, ck_r102_4 hk, ck_r102_5 hk, ck_is103 hk, ck_r103_0 hk, ck_r103_1 hk, ck_is111 hk, ck_r111_0 hk, ck_r111_1 hk, ck_r111_2 hk, ck_r111_3 hk, ck_r111_4 hk, ck_is114 hk, ck_r114_0 hk, ck_r114_1 hk, ck_r114_2 hk, ck_r114_3 hk, ck_r114_4 hk, bV, bI, bT, bF, bD, bS, bH, bR0, bR1, bR2, bR3, bR4, bFo, bX, bNo, bG0, bG1, bG2, bG3, t1, pq_withinC, pb_cf cy]
    · unfold mm_M_stays mm_M_stays_j19
      simp (disch := omega) only [pb_its, pb_l2, pb_ll, nI_add, pb_mul, if_true, if_false, pb_bs, pb_b2n, pb_bz0, pb_bz1, pb_10, pb_01, pb_i31, mk_is hk2, mk_g0 hk2, mk_g1 hk2, mk_g2 hk2, mk_g3 hk2, mk_g4 hk2, mk_g5 hk2, mk_g6 hk2, mk_g7 hk2, mk_g8 hk2, mk_g9 hk2, mk_g10 hk2, mk_g11 hk2, mk_g12 hk2, mk_g13 hk2, mk_g14 hk2, mk_g15 hk2, mk_g16 hk2, mk_g17 hk2, mk_g18 hk2, mk_g19 hk2, mk_g20 hk2, mk_g21 hk2, mk_g22 hk2, mb_isValley hm1 Hl, t1, po_inC, pb_cf cy]
  replace cy := Classical.not_not.mp cy
  obtain ⟨n, -, hn, rfl⟩ := sp_in_n cy (by omega) (by omega)
  obtain ⟨h', e1, w1⟩ := cb_start (N := N) hb ht Hfo HRS (by omega)
  have hk1 := cw_ck w1
  have key := pb_for (body := mm_F_openThrough_b14 N (some 111) (nI n)) n (fun i s => ∃ h', s = (sO (ro_of fo RS) k m a i, nI i, h') ∧ ∃ th fa, cw_h h h' T a fo x RS US I Z (ro_of fo RS) (dN (ro_of fo RS) k m a i) (pv (dN (ro_of fo RS) k m a i) 13) th fa) (fun e => ∃ h' th fa, e = (sO (ro_of fo RS) k m a n, h') ∧ cw_h h h' T a fo x RS US I Z (ro_of fo RS) (dN (ro_of fo RS) k m a n) (pv (dN (ro_of fo RS) k m a n) 13) th fa) (N := N) (s := (sa_clo a k, nI 0, h')) (by omega) ⟨_, rfl, _, _, w1⟩ (by
    rintro i s hi ⟨h', rfl, th, fa, w⟩
    left
    obtain ⟨h2, p1, p2⟩ := cw_pass (N := N) w rfl (dN_R hR i (by omega)) (by omega) (by omega)
    have hRi := dN_R (ro := ro_of fo RS) hR (i + 1) (by omega)
    have ckw := cw_ck w
    have ckw2 := cw_ck p2
    have hlt : ¬ nI n ≤ nI i := nI_ge hi (by omega)
    refine ⟨_, ?_, h2, rfl, _, _, p2⟩
    unfold mm_F_openThrough_b14
    simp (disch := omega) only [pb_its, pb_l2, pb_ll, nI_add, pb_mul, if_true, if_false, pb_bs, pb_b2n, pb_bz0, pb_bz1, pb_10, pb_01, pb_i31, ck_is0 ckw, ck_r0_0 ckw, ck_r0_1 ckw, ck_r0_2 ckw, ck_r0_3 ckw, ck_r0_4 ckw, ck_r0_5 ckw, ck_r0_6 ckw, ck_r0_7 ckw, ck_r0_8 ckw, ck_r0_9 ckw, ck_is1 ckw, ck_r1_0 ckw, ck_is3 ckw, ck_r3_0 ckw, ck_r3_1 ckw, ck_is20 ckw, ck_r20_0 ckw, ck_r20_1 ckw, ck_r20_2 ckw, ck_is24 ckw, ck_r24_1 ckw, ck_r24_2 ckw, ck_r24_3 ckw, ck_r24_4 ckw, ck_is33 ckw, ck_r33_0 ckw, ck_r33_1 ckw, ck_is40 ckw, ck_r40_0 ckw, ck_is102 ckw, ck_r102_0 ckw, ck_r102_1 ckw, ck_r102_2 ckw, ck_r102_3 ckw, ck_r102_4 ckw, ck_r102_5 ckw, ck_is103 ckw, ck_r103_0 ckw, ck_r103_1 ckw, ck_is111 ckw, ck_r111_0 ckw, ck_r111_1 ckw, ck_r111_2 ckw, ck_r111_3 ckw, ck_r111_4 ckw, ck_is114 ckw, ck_r114_0 ckw, ck_r114_1 ckw, ck_r114_2 ckw, ck_r114_3 ckw, ck_r114_4 ckw, ck_is0 ckw2, ck_r0_0 ckw2, ck_r0_1 ckw2, ck_r0_2 ckw2, ck_r0_3 ckw2, ck_r0_4 ckw2, ck_r0_5 ckw2, ck_r0_6 ckw2, ck_r0_7 ckw2, ck_r0_8 ckw2, ck_r0_9 ckw2, ck_is1 ckw2, ck_r1_0 ckw2, ck_is3 ckw2, ck_r3_0 ckw2, ck_r3_1 ckw2, ck_is20 ckw2, ck_r20_0 ckw2, ck_r20_1 ckw2, ck_r20_2 ckw2, ck_is24 ckw2, ck_r24_1 ckw2, ck_r24_2 ckw2, ck_r24_3 ckw2, ck_r24_4 ckw2, ck_is33 ckw2, ck_r33_0 ckw2, ck_r33_1 ckw2, ck_is40 ckw2, ck_r40_0 ckw2, ck_is102 ckw2, ck_r102_0 ckw2, ck_r102_1 ckw2, ck_r102_2 ckw2, ck_r102_3 ckw2, ck_r102_4 ckw2, ck_r102_5 ckw2, ck_is103 ckw2, ck_r103_0 ckw2, ck_r103_1 ckw2, ck_is111 ckw2, ck_r111_0 ckw2, ck_r111_1 ckw2, ck_r111_2 ckw2, ck_r111_3 ckw2, ck_r111_4 ckw2, ck_is114 ckw2, ck_r114_0 ckw2, ck_r114_1 ckw2, ck_r114_2 ckw2, ck_r114_3 ckw2, ck_r114_4 ckw2, hlt, p1, cw_closed p2 Hk hRi.1.2.1.2 (by omega : 8 < N)]
    rfl) (by
    rintro s ⟨h', rfl, th, fa, w⟩
    refine ⟨_, ?_, h', th, fa, rfl, w⟩
    unfold mm_F_openThrough_b14
    simp (disch := omega) only [pb_its, pb_l2, pb_ll, nI_add, pb_mul, if_true, if_false, pb_bs, pb_b2n, pb_bz0, pb_bz1, pb_10, pb_01, pb_i31, nI_le (Nat.le_refl n) (by omega : n < 2 ^ 31)])
  obtain ⟨_, l1, g1, th1, fa1, rfl, w2⟩ := key
  obtain ⟨v2, ⟨⟨bVx, bIx, bTx, bFx, bDx, bSx, bHx⟩, ⟨bR0x, bR1x, bR2x, bR3x, bR4x⟩, ⟨bFox, bXx, bNox⟩, ⟨bG0x, bG1x, bG2x, bG3x⟩, bOwnx, bStrx, bBesx, bSnx, bWlx, bNdx, bClx⟩⟩ := cb_r (cw_cb w2)
  have hk4 := cw_ck w2
  obtain ⟨g2, f2, m2⟩ := mb_keeps (N := N) hm1 Hl (by omega)
  have key := pb_for (body := mm_M_stays_b32 N (some 118) (nI n)) n (fun i s => ∃ h', s = (sO (ro_of fo RS) k m a i, nI i, h') ∧ ∃ th fa, mb_h h2 h' T a fo x RS US I fo (dN (ro_of fo RS) k m a i) th fa (sl a 10 20) dx Y) (fun e => ∃ h' th fa, e = (sO (ro_of fo RS) k m a n, h') ∧ mb_h h2 h' T a fo x RS US I fo (dN (ro_of fo RS) k m a n) th fa (sl a 10 20) dx Y) (N := N) (s := (sa_clo a k, nI 0, g2)) (by omega) ⟨_, rfl, _, _, m2⟩ (by
    rintro i s hi ⟨h', rfl, th, fa, q⟩
    left
    obtain ⟨h2, p1, p2⟩ := mb_pass (N := N) q (dN_R hR i (by omega)) Hfo HRS (by omega)
    have hRi := dN_R (ro := ro_of fo RS) hR (i + 1) (by omega)
    have hlt : ¬ nI n ≤ nI i := nI_ge hi (by omega)
    refine ⟨_, ?_, h2, rfl, _, _, p2⟩
    unfold mm_M_stays_b32
    simp (disch := omega) only [pb_its, pb_l2, pb_ll, nI_add, pb_mul, if_true, if_false, pb_bs, pb_b2n, pb_bz0, pb_bz1, pb_10, pb_01, pb_i31, hlt, p1, mb_closed p2 hRi.1.1 Hk hRi.1.2.1.2 (by omega : 8 < N)]
    rfl) (by
    rintro s ⟨h', rfl, th, fa, q⟩
    refine ⟨_, ?_, h', th, fa, rfl, q⟩
    unfold mm_M_stays_b32
    simp (disch := omega) only [pb_its, pb_l2, pb_ll, nI_add, pb_mul, if_true, if_false, pb_bs, pb_b2n, pb_bz0, pb_bz1, pb_10, pb_01, pb_i31, nI_le (Nat.le_refl n) (by omega : n < 2 ^ 31)])
  obtain ⟨_, f3, g3, th', fa', rfl, m3⟩ := key
  have hRn := dN_R (ro := ro_of fo RS) hR n (by omega)
  obtain ⟨g4, f4, m4⟩ := mb_lays (N := N) m3 hRn.1.1 (by omega)
  rw [sa_back Hl hRn.1.1 (fun j hj => dN_pv hR (by omega) n (by omega))] at m4
  have hk3 := mb_mk m4
  refine jo_ask ha0 (cw_cb w2) m4 (r := ((nI 1 <<< (pv a 2 &&& nI 31)) - nI 1) &&& (sO (ro_of fo RS) k m a n ^^^ -nI 1)) ?_ ?_
  · unfold mm_S_stays mm_S_stays_j35 mm_F_openThrough
    simp (disch := omega) only [pb_its, pb_l2, pb_ll, nI_add, pb_mul, if_true, if_false, pb_bs, pb_b2n, pb_bz0, pb_bz1, pb_10, pb_01, pb_i31, ck_is0 hk, ck_r0_0 hk, ck_r0_1 hk, ck_r0_2 hk, ck_r0_3 hk, ck_r0_4 hk, ck_r0_5 hk, ck_r0_6 hk, ck_r0_7 hk, ck_r0_8 hk, ck_r0_9 hk, ck_is1 hk, ck_r1_0 hk, ck_is3 hk, ck_r3_0 hk, ck_r3_1 hk, ck_is20 hk, ck_r20_0 hk, ck_r20_1 hk, ck_r20_2 hk, ck_is24 hk, ck_r24_1 hk, ck_r24_2 hk, ck_r24_3 hk, ck_r24_4 hk, ck_is33 hk, ck_r33_0 hk, ck_r33_1 hk, ck_is40 hk, ck_r40_0 hk, ck_is102 hk, ck_r102_0 hk, ck_r102_1 hk, ck_r102_2 hk, ck_r102_3 hk, ck_r102_4 hk, ck_r102_5 hk, ck_is103 hk, ck_r103_0 hk, ck_r103_1 hk, ck_is111 hk, ck_r111_0 hk, ck_r111_1 hk, ck_r111_2 hk, ck_r111_3 hk, ck_r111_4 hk, ck_is114 hk, ck_r114_0 hk, ck_r114_1 hk, ck_r114_2 hk, ck_r114_3 hk, ck_r114_4 hk, bV, bI, bT, bF, bD, bS, bH, bR0, bR1, bR2, bR3, bR4, bFo, bX, bNo, bG0, bG1, bG2, bG3, t1, pq_withinC, pb_ct cy, e1, ck_is0 hk1, ck_r0_0 hk1, ck_r0_1 hk1, ck_r0_2 hk1, ck_r0_3 hk1, ck_r0_4 hk1, ck_r0_5 hk1, ck_r0_6 hk1, ck_r0_7 hk1, ck_r0_8 hk1, ck_r0_9 hk1, ck_is1 hk1, ck_r1_0 hk1, ck_is3 hk1, ck_r3_0 hk1, ck_r3_1 hk1, ck_is20 hk1, ck_r20_0 hk1, ck_r20_1 hk1, ck_r20_2 hk1, ck_is24 hk1, ck_r24_1 hk1, ck_r24_2 hk1, ck_r24_3 hk1, ck_r24_4 hk1, ck_is33 hk1, ck_r33_0 hk1, ck_r33_1 hk1, ck_is40 hk1, ck_r40_0 hk1, ck_is102 hk1, ck_r102_0 hk1, ck_r102_1 hk1, ck_r102_2 hk1, ck_r102_3 hk1, ck_r102_4 hk1, ck_r102_5 hk1, ck_is103 hk1, ck_r103_0 hk1, ck_r103_1 hk1, ck_is111 hk1, ck_r111_0 hk1, ck_r111_1 hk1, ck_r111_2 hk1, ck_r111_3 hk1, ck_r111_4 hk1, ck_is114 hk1, ck_r114_0 hk1, ck_r114_1 hk1, ck_r114_2 hk1, ck_r114_3 hk1, ck_r114_4 hk1, cw_closed w1 Hk H2 (by omega : 8 < N), l1, ck_is0 hk4, ck_r0_0 hk4, ck_r0_1 hk4, ck_r0_2 hk4, ck_r0_3 hk4, ck_r0_4 hk4, ck_r0_5 hk4, ck_r0_6 hk4, ck_r0_7 hk4, ck_r0_8 hk4, ck_r0_9 hk4, ck_is1 hk4, ck_r1_0 hk4, ck_is3 hk4, ck_r3_0 hk4, ck_r3_1 hk4, ck_is20 hk4, ck_r20_0 hk4, ck_r20_1 hk4, ck_r20_2 hk4, ck_is24 hk4, ck_r24_1 hk4, ck_r24_2 hk4, ck_r24_3 hk4, ck_r24_4 hk4, ck_is33 hk4, ck_r33_0 hk4, ck_r33_1 hk4, ck_is40 hk4, ck_r40_0 hk4, ck_is102 hk4, ck_r102_0 hk4, ck_r102_1 hk4, ck_r102_2 hk4, ck_r102_3 hk4, ck_r102_4 hk4, ck_r102_5 hk4, ck_is103 hk4, ck_r103_0 hk4, ck_r103_1 hk4, ck_is111 hk4, ck_r111_0 hk4, ck_r111_1 hk4, ck_r111_2 hk4, ck_r111_3 hk4, ck_r111_4 hk4, ck_is114 hk4, ck_r114_0 hk4, ck_r114_1 hk4, ck_r114_2 hk4, ck_r114_3 hk4, ck_r114_4 hk4, bVx, bIx, bTx, bFx, bDx, bSx, bHx, bR0x, bR1x, bR2x, bR3x, bR4x, bFox, bXx, bNox, bG0x, bG1x, bG2x, bG3x]
  · unfold mm_M_stays
    simp (disch := omega) only [pb_its, pb_l2, pb_ll, nI_add, pb_mul, if_true, if_false, pb_bs, pb_b2n, pb_bz0, pb_bz1, pb_10, pb_01, pb_i31, mk_is hk2, mk_g0 hk2, mk_g1 hk2, mk_g2 hk2, mk_g3 hk2, mk_g4 hk2, mk_g5 hk2, mk_g6 hk2, mk_g7 hk2, mk_g8 hk2, mk_g9 hk2, mk_g10 hk2, mk_g11 hk2, mk_g12 hk2, mk_g13 hk2, mk_g14 hk2, mk_g15 hk2, mk_g16 hk2, mk_g17 hk2, mk_g18 hk2, mk_g19 hk2, mk_g20 hk2, mk_g21 hk2, mk_g22 hk2, mb_isValley hm1 Hl, t1, po_inC, pb_ct cy, mb_closed hm1 Hl Hk H2 (by omega : 8 < N), f2, f3, f4, mk_is hk3, mk_g0 hk3, mk_g1 hk3, mk_g2 hk3, mk_g3 hk3, mk_g4 hk3, mk_g5 hk3, mk_g6 hk3, mk_g7 hk3, mk_g8 hk3, mk_g9 hk3, mk_g10 hk3, mk_g11 hk3, mk_g12 hk3, mk_g13 hk3, mk_g14 hk3, mk_g15 hk3, mk_g16 hk3, mk_g17 hk3, mk_g18 hk3, mk_g19 hk3, mk_g20 hk3, mk_g21 hk3, mk_g22 hk3, mb_said m4 Hl (show 2 < 124 by omega)]
theorem jx_closes {N : Nat} {h h2 : ss_Hp} {y : Int32} {T : List Nat} {a : List Int32} {fo x : Int32} {RS : List (List ru_C)} {US : List (List Int32)} {I : Nat → Option (List Int32 × Int32 × Int32)} (hc : cl_h h T a fo x RS US I) (hm : mo_h h2 T a fo x RS US I) (ha : as_ok T a fo x RS US I) (hN : 5000 < N) : jo (mm_S_closes N (some 0) y h) (mm_M_closes1 N (some 118) y h2) h h2 := by
  obtain ⟨Z, hb⟩ := cb_of hc
  obtain ⟨v, ⟨⟨bV, bI, bT, bF, bD, bS, bH⟩, ⟨bR0, bR1, bR2, bR3, bR4⟩, ⟨bFo, bX, bNo⟩, ⟨bG0, bG1, bG2, bG3⟩, bOwn, bStr, bBes, bSn, bWl, bNd, bCl⟩⟩ := cb_r hb
  have hk := cb_ck hb
  obtain ⟨th, fa, kp, dx, Y, hm1⟩ := mb_of hm
  have hk2 := mb_mk hm1
  have ha0 := ha
  obtain ⟨⟨Ht1, Ht2⟩, ⟨k, m, d, Hsd, Hul, Hu⟩, HRS, Hfo, Hx, HI⟩ := ha
  have Hok := Hsd.1
  obtain ⟨Hl, ⟨Hk, H2⟩, ⟨Hm, H3⟩, ⟨Hd, H10⟩, Hwl, Hbe, How⟩ := Hok
  by_cases cs : ¬ sp_st a y
  · refine jo_no hc hm ha0 (r := -nI 1) ?_ ?_
    · unfold mm_S_closes mm_S_closes_j20
      simp (disch := omega) only [pb_its, pb_l2, pb_ll, nI_add, pb_mul, if_true, if_false, pb_bs, pb_b2n, pb_bz0, pb_bz1, pb_10, pb_01, pb_i31, ck_is0 hk, ck_r0_0 hk, ck_r0_1 hk, ck_r0_2 hk, ck_r0_3 hk, ck_r0_4 hk, ck_r0_5 hk, ck_r0_6 hk, ck_r0_7 hk, ck_r0_8 hk, ck_r0_9 hk, ck_is1 hk, ck_r1_0 hk, ck_is3 hk, ck_r3_0 hk, ck_r3_1 hk, ck_is20 hk, ck_r20_0 hk, ck_r20_1 hk, ck_r20_2 hk, ck_is24 hk, ck_r24_1 hk, ck_r24_2 hk, ck_r24_3 hk, ck_r24_4 hk, ck_is33 hk, ck_r33_0 hk, ck_r33_1 hk, ck_is40 hk, ck_r40_0 hk, ck_is102 hk, ck_r102_0 hk, ck_r102_1 hk, ck_r102_2 hk, ck_r102_3 hk, ck_r102_4 hk, ck_r102_5 hk, ck_is103 hk, ck_r103_0 hk, ck_r103_1 hk, ck_is111 hk, ck_r111_0 hk, ck_r111_1 hk, ck_r111_2 hk, ck_r111_3 hk, ck_r111_4 hk, ck_is114 hk, ck_r114_0 hk, ck_r114_1 hk, ck_r114_2 hk, ck_r114_3 hk, ck_r114_4 hk, bV, bI, bT, bF, bD, bS, bH, bR0, bR1, bR2, bR3, bR4, bFo, bX, bNo, bG0, bG1, bG2, bG3, cb_isStep hb, pb_cf cs]
    · unfold mm_M_closes1
      simp (disch := omega) only [pb_its, pb_l2, pb_ll, nI_add, pb_mul, if_true, if_false, pb_bs, pb_b2n, pb_bz0, pb_bz1, pb_10, pb_01, pb_i31, mk_is hk2, mk_g0 hk2, mk_g1 hk2, mk_g2 hk2, mk_g3 hk2, mk_g4 hk2, mk_g5 hk2, mk_g6 hk2, mk_g7 hk2, mk_g8 hk2, mk_g9 hk2, mk_g10 hk2, mk_g11 hk2, mk_g12 hk2, mk_g13 hk2, mk_g14 hk2, mk_g15 hk2, mk_g16 hk2, mk_g17 hk2, mk_g18 hk2, mk_g19 hk2, mk_g20 hk2, mk_g21 hk2, mk_g22 hk2, mb_isStepC hm1 Hl, pb_cf cs]
  replace cs := Classical.not_not.mp cs
  obtain ⟨s, hs, rfl⟩ := sp_st_n Hk H2 cs
  have ht := sd_step Hsd (Or.inl (by omega))
  have hR := sd_told Hsd ht
  have Hd9 : d ≤ 999 := Hsd.2.2.2.2.1
  obtain ⟨h', e1, w1⟩ := cb_start (N := N) hb ht Hfo HRS (by omega)
  obtain ⟨g2, f2, m2⟩ := mb_keeps (N := N) hm1 Hl (by omega)
  generalize hro : ro_of fo RS = ro at *
  have step : ∀ i h' th fa, i < 100 → pv (dN ro k m a i) (14 + s) < pv (dN ro k m a i) 1 → cw_h h h' T a fo x RS US I Z ro (dN ro k m a i) (pv (dN ro k m a i) 13) th fa → ∃ h2 th fa, mm_F_firstClosed_b6 N (some 111) (nI s) (nI i, h') = some (.inl (nI (i + 1), h2)) ∧ cw_h h h2 T a fo x RS US I Z ro (dN ro k m a (i + 1)) (pv (dN ro k m a (i + 1)) 13) th fa := by
    intro i h' th fa hi hp w
    obtain ⟨h2, p1, p2⟩ := cw_pass (N := N) w rfl (dN_R hR i (by omega)) (by omega) (by omega)
    have hRi := dN_R (ro := ro) hR i (by omega)
    have ckw := cw_ck w
    have hlt : ¬ nI 100 ≤ nI i := nI_ge hi (by omega)
    have hbit : ¬ (sa_clo (dN ro k m a i) k >>> nI s) &&& nI 1 = nI 1 := by rw [sa_clo_bit Hk hs]; exact fun q => q hp
    refine ⟨h2, _, _, ?_, p2⟩
    unfold mm_F_firstClosed_b6
    simp (disch := omega) only [pb_its, pb_l2, pb_ll, nI_add, pb_mul, if_true, if_false, pb_bs, pb_b2n, pb_bz0, pb_bz1, pb_10, pb_01, pb_i31, ck_is0 ckw, ck_r0_0 ckw, ck_r0_1 ckw, ck_r0_2 ckw, ck_r0_3 ckw, ck_r0_4 ckw, ck_r0_5 ckw, ck_r0_6 ckw, ck_r0_7 ckw, ck_r0_8 ckw, ck_r0_9 ckw, ck_is1 ckw, ck_r1_0 ckw, ck_is3 ckw, ck_r3_0 ckw, ck_r3_1 ckw, ck_is20 ckw, ck_r20_0 ckw, ck_r20_1 ckw, ck_r20_2 ckw, ck_is24 ckw, ck_r24_1 ckw, ck_r24_2 ckw, ck_r24_3 ckw, ck_r24_4 ckw, ck_is33 ckw, ck_r33_0 ckw, ck_r33_1 ckw, ck_is40 ckw, ck_r40_0 ckw, ck_is102 ckw, ck_r102_0 ckw, ck_r102_1 ckw, ck_r102_2 ckw, ck_r102_3 ckw, ck_r102_4 ckw, ck_r102_5 ckw, ck_is103 ckw, ck_r103_0 ckw, ck_r103_1 ckw, ck_is111 ckw, ck_r111_0 ckw, ck_r111_1 ckw, ck_r111_2 ckw, ck_r111_3 ckw, ck_r111_4 ckw, ck_is114 ckw, ck_r114_0 ckw, ck_r114_1 ckw, ck_r114_2 ckw, ck_r114_3 ckw, ck_r114_4 ckw, hlt, cw_closed w Hk hRi.1.2.1.2 (by omega : 8 < N), pb_i31 (show s < 32 by omega), hbit, p1]
  have mstep : ∀ i h' th fa, i < 100 → mb_h h2 h' T a fo x RS US I fo (dN ro k m a i) th fa (sl a 10 20) dx Y → ∃ h3 th fa, mm_M_closes1_b19 N (some 118) (nI s) (-nI 2, nI i, h') = some (.inl (if pv (dN ro k m a i) (14 + s) < pv (dN ro k m a i) 1 then -nI 2 else pv (dN ro k m a i) 10, nI (i + 1), h3)) ∧ mb_h h2 h3 T a fo x RS US I fo (dN ro k m a (i + 1)) th fa (sl a 10 20) dx Y := by
    intro i h' th fa hi q
    have hRi := dN_R (ro := ro) hR i (by omega)
    obtain ⟨h3, p1, p2⟩ := mb_pass (N := N) q hRi Hfo HRS (by omega)
    rw [hro] at p1 p2
    have hk3 := mb_mk q
    have hlt : ¬ nI 100 ≤ nI i := nI_ge hi (by omega)
    have hm2 : ¬ nI 0 ≤ -nI 2 := by decide
    refine ⟨h3, _, _, ?_, p2⟩
    unfold mm_M_closes1_b19 mm_M_closes1_j45
    by_cases c : pv (dN ro k m a i) (14 + s) < pv (dN ro k m a i) 1
    · simp (disch := omega) only [pb_its, pb_l2, pb_ll, nI_add, pb_mul, if_true, if_false, pb_bs, pb_b2n, pb_bz0, pb_bz1, pb_10, pb_01, pb_i31, mk_is hk3, mk_g0 hk3, mk_g1 hk3, mk_g2 hk3, mk_g3 hk3, mk_g4 hk3, mk_g5 hk3, mk_g6 hk3, mk_g7 hk3, mk_g8 hk3, mk_g9 hk3, mk_g10 hk3, mk_g11 hk3, mk_g12 hk3, mk_g13 hk3, mk_g14 hk3, mk_g15 hk3, mk_g16 hk3, mk_g17 hk3, mk_g18 hk3, mk_g19 hk3, mk_g20 hk3, mk_g21 hk3, mk_g22 hk3, hlt, hm2, mb_isClosed q hRi.1.1 (show s < 8 by omega), c, p1]
    · simp (disch := omega) only [pb_its, pb_l2, pb_ll, nI_add, pb_mul, if_true, if_false, pb_bs, pb_b2n, pb_bz0, pb_bz1, pb_10, pb_01, pb_i31, mk_is hk3, mk_g0 hk3, mk_g1 hk3, mk_g2 hk3, mk_g3 hk3, mk_g4 hk3, mk_g5 hk3, mk_g6 hk3, mk_g7 hk3, mk_g8 hk3, mk_g9 hk3, mk_g10 hk3, mk_g11 hk3, mk_g12 hk3, mk_g13 hk3, mk_g14 hk3, mk_g15 hk3, mk_g16 hk3, mk_g17 hk3, mk_g18 hk3, mk_g19 hk3, mk_g20 hk3, mk_g21 hk3, mk_g22 hk3, hlt, hm2, mb_isClosed q hRi.1.1 (show s < 8 by omega), c, mb_said q hRi.1.1 (show 10 < 124 by omega), p1]
  rcases ex_least (fun i => ¬ pv (dN ro k m a i) (14 + s) < pv (dN ro k m a i) 1) 100 with hno | ⟨q, hq, hq1, hq2⟩
  · have key := pb_for (body := mm_F_firstClosed_b6 N (some 111) (nI s)) 100 (fun i s => ∃ h', s = (nI i, h') ∧ ∃ th fa, cw_h h h' T a fo x RS US I Z ro (dN ro k m a i) (pv (dN ro k m a i) 13) th fa) (fun e => ∃ h' th fa, e = .inl h' ∧ cw_h h h' T a fo x RS US I Z ro (dN ro k m a 100) (pv (dN ro k m a 100) 13) th fa) (N := N) (s := (nI 0, h')) (by omega) ⟨_, rfl, _, _, w1⟩ (by
      rintro i s hi ⟨h', rfl, th, fa, w⟩
      left
      obtain ⟨h2, th2, fa2, p1, p2⟩ := step i h' th fa hi (Classical.not_not.mp (hno i hi)) w
      exact ⟨_, p1, h2, rfl, _, _, p2⟩) (by
      rintro s ⟨h', rfl, th, fa, w⟩
      refine ⟨_, ?_, h', th, fa, rfl, w⟩
      unfold mm_F_firstClosed_b6
      simp (disch := omega) only [pb_its, pb_l2, pb_ll, nI_add, pb_mul, if_true, if_false, pb_bs, pb_b2n, pb_bz0, pb_bz1, pb_10, pb_01, pb_i31, nI_le (Nat.le_refl 100) (by omega : 100 < 2 ^ 31)])
    obtain ⟨_, l1, g1, th1, fa1, rfl, w2⟩ := key
    have key := pb_for (body := mm_M_closes1_b19 N (some 118) (nI s)) 100 (fun i s => ∃ h', s = (-nI 2, nI i, h') ∧ ∃ th fa, mb_h h2 h' T a fo x RS US I fo (dN ro k m a i) th fa (sl a 10 20) dx Y) (fun e => ∃ h' th fa, e = (-nI 2, h') ∧ mb_h h2 h' T a fo x RS US I fo (dN ro k m a 100) th fa (sl a 10 20) dx Y) (N := N) (s := (-nI 2, nI 0, g2)) (by omega) ⟨_, rfl, _, _, m2⟩ (by
      rintro i s hi ⟨h', rfl, th, fa, w⟩
      left
      obtain ⟨h2, th2, fa2, p1, p2⟩ := mstep i h' th fa hi w
      rw [if_pos (Classical.not_not.mp (hno i hi))] at p1
      exact ⟨_, p1, h2, rfl, _, _, p2⟩) (by
      rintro s ⟨h', rfl, th, fa, w⟩
      refine ⟨_, ?_, h', th, fa, rfl, w⟩
      unfold mm_M_closes1_b19
      simp (disch := omega) only [pb_its, pb_l2, pb_ll, nI_add, pb_mul, if_true, if_false, pb_bs, pb_b2n, pb_bz0, pb_bz1, pb_10, pb_01, pb_i31, nI_le (Nat.le_refl 100) (by omega : 100 < 2 ^ 31)])
    obtain ⟨_, f3, g3, th', fa', rfl, m3⟩ := key
    have hRn := dN_R (ro := ro) hR 100 (by omega)
    obtain ⟨g4, f4, m4⟩ := mb_lays (N := N) m3 hRn.1.1 (by omega)
    rw [sa_back Hl hRn.1.1 (fun j hj => dN_pv hR (by omega) 100 (by omega))] at m4
    refine jo_ask ha0 (cw_cb w2) m4 (r := -nI 2) ?_ ?_
    · unfold mm_S_closes mm_S_closes_j20 mm_F_firstClosed
      simp (disch := omega) only [pb_its, pb_l2, pb_ll, nI_add, pb_mul, if_true, if_false, pb_bs, pb_b2n, pb_bz0, pb_bz1, pb_10, pb_01, pb_i31, ck_is0 hk, ck_r0_0 hk, ck_r0_1 hk, ck_r0_2 hk, ck_r0_3 hk, ck_r0_4 hk, ck_r0_5 hk, ck_r0_6 hk, ck_r0_7 hk, ck_r0_8 hk, ck_r0_9 hk, ck_is1 hk, ck_r1_0 hk, ck_is3 hk, ck_r3_0 hk, ck_r3_1 hk, ck_is20 hk, ck_r20_0 hk, ck_r20_1 hk, ck_r20_2 hk, ck_is24 hk, ck_r24_1 hk, ck_r24_2 hk, ck_r24_3 hk, ck_r24_4 hk, ck_is33 hk, ck_r33_0 hk, ck_r33_1 hk, ck_is40 hk, ck_r40_0 hk, ck_is102 hk, ck_r102_0 hk, ck_r102_1 hk, ck_r102_2 hk, ck_r102_3 hk, ck_r102_4 hk, ck_r102_5 hk, ck_is103 hk, ck_r103_0 hk, ck_r103_1 hk, ck_is111 hk, ck_r111_0 hk, ck_r111_1 hk, ck_r111_2 hk, ck_r111_3 hk, ck_r111_4 hk, ck_is114 hk, ck_r114_0 hk, ck_r114_1 hk, ck_r114_2 hk, ck_r114_3 hk, ck_r114_4 hk, cb_isStep hb, pb_ct cs, e1, l1]
    · unfold mm_M_closes1
      simp (disch := omega) only [pb_its, pb_l2, pb_ll, nI_add, pb_mul, if_true, if_false, pb_bs, pb_b2n, pb_bz0, pb_bz1, pb_10, pb_01, pb_i31, mk_is hk2, mk_g0 hk2, mk_g1 hk2, mk_g2 hk2, mk_g3 hk2, mk_g4 hk2, mk_g5 hk2, mk_g6 hk2, mk_g7 hk2, mk_g8 hk2, mk_g9 hk2, mk_g10 hk2, mk_g11 hk2, mk_g12 hk2, mk_g13 hk2, mk_g14 hk2, mk_g15 hk2, mk_g16 hk2, mk_g17 hk2, mk_g18 hk2, mk_g19 hk2, mk_g20 hk2, mk_g21 hk2, mk_g22 hk2, mb_isStepC hm1 Hl, pb_ct cs, f2, f3, f4]
  · have hRq := dN_R (ro := ro) hR q (by omega)
    have key := pb_for (body := mm_F_firstClosed_b6 N (some 111) (nI s)) q (fun i s => ∃ h', s = (nI i, h') ∧ ∃ th fa, cw_h h h' T a fo x RS US I Z ro (dN ro k m a i) (pv (dN ro k m a i) 13) th fa) (fun e => ∃ h' th fa, e = .inr h' ∧ cw_h h h' T a fo x RS US I Z ro (dN ro k m a q) (pv (dN ro k m a q) 13) th fa) (N := N) (s := (nI 0, h')) (by omega) ⟨_, rfl, _, _, w1⟩ (by
      rintro i s hi ⟨h', rfl, th, fa, w⟩
      left
      obtain ⟨h2, th2, fa2, p1, p2⟩ := step i h' th fa (by omega) (Classical.not_not.mp (hq2 i hi)) w
      exact ⟨_, p1, h2, rfl, _, _, p2⟩) (by
      rintro s' ⟨h', rfl, th, fa, w⟩
      refine ⟨_, ?_, h', th, fa, rfl, w⟩
      have ckw := cw_ck w
      have hlt : ¬ nI 100 ≤ nI q := nI_ge hq (by omega)
      have hbit : (sa_clo (dN ro k m a q) k >>> nI s) &&& nI 1 = nI 1 := by rw [sa_clo_bit Hk hs]; exact hq1
      unfold mm_F_firstClosed_b6
      simp (disch := omega) only [pb_its, pb_l2, pb_ll, nI_add, pb_mul, if_true, if_false, pb_bs, pb_b2n, pb_bz0, pb_bz1, pb_10, pb_01, pb_i31, ck_is0 ckw, ck_r0_0 ckw, ck_r0_1 ckw, ck_r0_2 ckw, ck_r0_3 ckw, ck_r0_4 ckw, ck_r0_5 ckw, ck_r0_6 ckw, ck_r0_7 ckw, ck_r0_8 ckw, ck_r0_9 ckw, ck_is1 ckw, ck_r1_0 ckw, ck_is3 ckw, ck_r3_0 ckw, ck_r3_1 ckw, ck_is20 ckw, ck_r20_0 ckw, ck_r20_1 ckw, ck_r20_2 ckw, ck_is24 ckw, ck_r24_1 ckw, ck_r24_2 ckw, ck_r24_3 ckw, ck_r24_4 ckw, ck_is33 ckw, ck_r33_0 ckw, ck_r33_1 ckw, ck_is40 ckw, ck_r40_0 ckw, ck_is102 ckw, ck_r102_0 ckw, ck_r102_1 ckw, ck_r102_2 ckw, ck_r102_3 ckw, ck_r102_4 ckw, ck_r102_5 ckw, ck_is103 ckw, ck_r103_0 ckw, ck_r103_1 ckw, ck_is111 ckw, ck_r111_0 ckw, ck_r111_1 ckw, ck_r111_2 ckw, ck_r111_3 ckw, ck_r111_4 ckw, ck_is114 ckw, ck_r114_0 ckw, ck_r114_1 ckw, ck_r114_2 ckw, ck_r114_3 ckw, ck_r114_4 ckw, hlt, cw_closed w Hk hRq.1.2.1.2 (by omega : 8 < N), pb_i31 (show s < 32 by omega), hbit])
    obtain ⟨_, l1, g1, th1, fa1, rfl, w2⟩ := key
    have hk4 := cw_ck w2
    have e10 : pv (dN ro k m a q) 10 = nI (d + q) := hRq.1.2.2.2.1.2
    have key := pb_for (body := mm_M_closes1_b19 N (some 118) (nI s)) (q + 1) (fun i s => ∃ h', s = (if i ≤ q then -nI 2 else pv (dN ro k m a q) 10, nI i, h') ∧ ∃ th fa, mb_h h2 h' T a fo x RS US I fo (dN ro k m a i) th fa (sl a 10 20) dx Y) (fun e => ∃ h' th fa, e = (pv (dN ro k m a q) 10, h') ∧ mb_h h2 h' T a fo x RS US I fo (dN ro k m a (q + 1)) th fa (sl a 10 20) dx Y) (N := N) (s := (-nI 2, nI 0, g2)) (by omega) ⟨_, by rw [if_pos (Nat.zero_le q)], _, _, m2⟩ (by
      rintro i s hi ⟨h', rfl, th, fa, w⟩
      left
      obtain ⟨h2, th2, fa2, p1, p2⟩ := mstep i h' th fa (by omega) w
      rw [if_pos (show i ≤ q by omega)]
      refine ⟨_, p1, h2, ?_, _, _, p2⟩
      by_cases c : i = q
      · rw [c, if_neg hq1, if_neg (by omega)]
      · rw [if_pos (Classical.not_not.mp (hq2 i (by omega))), if_pos (by omega)]) (by
      rintro s ⟨h', rfl, th, fa, w⟩
      refine ⟨_, ?_, h', th, fa, rfl, w⟩
      rw [if_neg (by omega), e10]
      unfold mm_M_closes1_b19
      have h0 : nI 0 ≤ nI (d + q) := nI_le (by omega) (by omega)
      by_cases c : nI 100 ≤ nI (q + 1)
      · simp (disch := omega) only [pb_its, pb_l2, pb_ll, nI_add, pb_mul, if_true, if_false, pb_bs, pb_b2n, pb_bz0, pb_bz1, pb_10, pb_01, pb_i31, c]
      · simp (disch := omega) only [pb_its, pb_l2, pb_ll, nI_add, pb_mul, if_true, if_false, pb_bs, pb_b2n, pb_bz0, pb_bz1, pb_10, pb_01, pb_i31, c, h0])
    obtain ⟨_, f3, g3, th', fa', rfl, m3⟩ := key
    have hRn := dN_R (ro := ro) hR (q + 1) (by omega)
    obtain ⟨g4, f4, m4⟩ := mb_lays (N := N) m3 hRn.1.1 (by omega)
    rw [sa_back Hl hRn.1.1 (fun j hj => dN_pv hR (by omega) (q + 1) (by omega))] at m4
    refine jo_ask ha0 (cw_cb w2) m4 (r := pv (dN ro k m a q) 10) ?_ ?_
    · unfold mm_S_closes mm_S_closes_j20 mm_F_firstClosed
      simp (disch := omega) only [pb_its, pb_l2, pb_ll, nI_add, pb_mul, if_true, if_false, pb_bs, pb_b2n, pb_bz0, pb_bz1, pb_10, pb_01, pb_i31, ck_is0 hk, ck_r0_0 hk, ck_r0_1 hk, ck_r0_2 hk, ck_r0_3 hk, ck_r0_4 hk, ck_r0_5 hk, ck_r0_6 hk, ck_r0_7 hk, ck_r0_8 hk, ck_r0_9 hk, ck_is1 hk, ck_r1_0 hk, ck_is3 hk, ck_r3_0 hk, ck_r3_1 hk, ck_is20 hk, ck_r20_0 hk, ck_r20_1 hk, ck_r20_2 hk, ck_is24 hk, ck_r24_1 hk, ck_r24_2 hk, ck_r24_3 hk, ck_r24_4 hk, ck_is33 hk, ck_r33_0 hk, ck_r33_1 hk, ck_is40 hk, ck_r40_0 hk, ck_is102 hk, ck_r102_0 hk, ck_r102_1 hk, ck_r102_2 hk, ck_r102_3 hk, ck_r102_4 hk, ck_r102_5 hk, ck_is103 hk, ck_r103_0 hk, ck_r103_1 hk, ck_is111 hk, ck_r111_0 hk, ck_r111_1 hk, ck_r111_2 hk, ck_r111_3 hk, ck_r111_4 hk, ck_is114 hk, ck_r114_0 hk, ck_r114_1 hk, ck_r114_2 hk, ck_r114_3 hk, ck_r114_4 hk, cb_isStep hb, pb_ct cs, e1, l1, ck_is0 hk4, ck_r0_0 hk4, ck_r0_1 hk4, ck_r0_2 hk4, ck_r0_3 hk4, ck_r0_4 hk4, ck_r0_5 hk4, ck_r0_6 hk4, ck_r0_7 hk4, ck_r0_8 hk4, ck_r0_9 hk4, ck_is1 hk4, ck_r1_0 hk4, ck_is3 hk4, ck_r3_0 hk4, ck_r3_1 hk4, ck_is20 hk4, ck_r20_0 hk4, ck_r20_1 hk4, ck_r20_2 hk4, ck_is24 hk4, ck_r24_1 hk4, ck_r24_2 hk4, ck_r24_3 hk4, ck_r24_4 hk4, ck_is33 hk4, ck_r33_0 hk4, ck_r33_1 hk4, ck_is40 hk4, ck_r40_0 hk4, ck_is102 hk4, ck_r102_0 hk4, ck_r102_1 hk4, ck_r102_2 hk4, ck_r102_3 hk4, ck_r102_4 hk4, ck_r102_5 hk4, ck_is103 hk4, ck_r103_0 hk4, ck_r103_1 hk4, ck_is111 hk4, ck_r111_0 hk4, ck_r111_1 hk4, ck_r111_2 hk4, ck_r111_3 hk4, ck_r111_4 hk4, ck_is114 hk4, ck_r114_0 hk4, ck_r114_1 hk4, ck_r114_2 hk4, ck_r114_3 hk4, ck_r114_4 hk4, cw_day w2]
    · unfold mm_M_closes1
      simp (disch := omega) only [pb_its, pb_l2, pb_ll, nI_add, pb_mul, if_true, if_false, pb_bs, pb_b2n, pb_bz0, pb_bz1, pb_10, pb_01, pb_i31, mk_is hk2, mk_g0 hk2, mk_g1 hk2, mk_g2 hk2, mk_g3 hk2, mk_g4 hk2, mk_g5 hk2, mk_g6 hk2, mk_g7 hk2, mk_g8 hk2, mk_g9 hk2, mk_g10 hk2, mk_g11 hk2, mk_g12 hk2, mk_g13 hk2, mk_g14 hk2, mk_g15 hk2, mk_g16 hk2, mk_g17 hk2, mk_g18 hk2, mk_g19 hk2, mk_g20 hk2, mk_g21 hk2, mk_g22 hk2, mb_isStepC hm1 Hl, pb_ct cs, f2, f3, f4]
theorem pv_setadd {l l' : List Int32} {w s : Nat} {c : Int32} (hl : l.length = l'.length) (h : pv l s = pv l' s) : pv (l.set w (pv l w + c)) s = pv (l'.set w (pv l' w + c)) s := by
  by_cases hw : w < l.length
  · rw [pv_set hw, pv_set (by omega)]
    by_cases e : s = w
    · rw [if_pos e, if_pos e, ← e, h]
    · rw [if_neg e, if_neg e, h]
  · rw [List.set_eq_of_length_le (by omega), List.set_eq_of_length_le (by omega), h]
theorem sa_pd_tp {b th th' : List Int32} {ro : Option (List ru_C)} {d k s : Nat} (hl : th.length = th'.length) (h : pv th s = pv th' s) : ∀ i, (sa_pd b th ro d k i).2.length = (sa_pd b th' ro d k i).2.length ∧ pv (sa_pd b th ro d k i).2 s = pv (sa_pd b th' ro d k i).2 s := by
  intro i
  induction i with
  | zero => exact ⟨hl, h⟩
  | succ i ih =>
    rw [sa_pd, sa_pd, ← sa_pd_th b th th' ro d k i]
    split
    · exact ih
    · split
      · exact ih
      · refine ⟨by rw [sa_takeT_len, sa_takeT_len]; exact ih.1, ?_⟩
        show pv (sa_takeT _ _ _ _) s = pv (sa_takeT _ _ _ _) s
        unfold sa_takeT
        split
        · exact ih.2
        · exact pv_setadd ih.1 ih.2
theorem sa_nt_fp {b fa fa' : List Int32} {w : Int32} {s : Nat} (hl : fa.length = fa'.length) (h : pv fa s = pv fa' s) : ∀ i, (sa_nt b fa w i).2.length = (sa_nt b fa' w i).2.length ∧ pv (sa_nt b fa w i).2 s = pv (sa_nt b fa' w i).2 s := by
  intro i
  induction i with
  | zero => exact ⟨hl, h⟩
  | succ i ih =>
    rw [sa_nt, sa_nt, ← sa_nt_fa b fa fa' w i]
    split
    · exact ⟨by rw [List.length_set, List.length_set]; exact ih.1, pv_setadd ih.1 ih.2⟩
    · exact ih
theorem tN_p {ro : Option (List ru_C)} {k m s : Nat} {b th th' : List Int32} (hl : th.length = th'.length) (h : pv th s = pv th' s) : ∀ i, (tN ro k m b th i).length = (tN ro k m b th' i).length ∧ pv (tN ro k m b th i) s = pv (tN ro k m b th' i) s := by
  intro i
  induction i with
  | zero => exact ⟨hl, h⟩
  | succ i ih => exact sa_pd_tp ih.1 ih.2 _
theorem fN_p {ro : Option (List ru_C)} {k m s : Nat} {b fa fa' : List Int32} (hl : fa.length = fa'.length) (h : pv fa s = pv fa' s) : ∀ i, (fN ro k m b fa i).length = (fN ro k m b fa' i).length ∧ pv (fN ro k m b fa i) s = pv (fN ro k m b fa' i) s := by
  intro i
  induction i with
  | zero => exact ⟨hl, h⟩
  | succ i ih => exact sa_nt_fp ih.1 ih.2 _
theorem jx_thrownOn {N : Nat} {h h2 : ss_Hp} {z y w : Int32} {T : List Nat} {a : List Int32} {fo x : Int32} {RS : List (List ru_C)} {US : List (List Int32)} {I : Nat → Option (List Int32 × Int32 × Int32)} (hc : cl_h h T a fo x RS US I) (hm : mo_h h2 T a fo x RS US I) (ha : as_ok T a fo x RS US I) (hN : 5000 < N) : jo (mm_S_thrownOn N (some 0) z y w h) (mm_M_thrownOn N (some 118) z y w h2) h h2 := by
  obtain ⟨Z, hb⟩ := cb_of hc
  obtain ⟨v, ⟨⟨bV, bI, bT, bF, bD, bS, bH⟩, ⟨bR0, bR1, bR2, bR3, bR4⟩, ⟨bFo, bX, bNo⟩, ⟨bG0, bG1, bG2, bG3⟩, bOwn, bStr, bBes, bSn, bWl, bNd, bCl⟩⟩ := cb_r hb
  have hk := cb_ck hb
  obtain ⟨th, fa, kp, dx, Y, hm1⟩ := mb_of hm
  have hk2 := mb_mk hm1
  have ha0 := ha
  obtain ⟨⟨Ht1, Ht2⟩, ⟨k, m, d, Hsd, Hul, Hu⟩, HRS, Hfo, Hx, HI⟩ := ha
  have Hok := Hsd.1
  obtain ⟨Hl, ⟨Hk, H2⟩, ⟨Hm, H3⟩, ⟨Hd, H10⟩, Hwl, Hbe, How⟩ := Hok
  by_cases cs : ¬ sp_st a z
  · refine jo_no hc hm ha0 (r := -nI 1) ?_ ?_
    · unfold mm_S_thrownOn mm_S_thrownOn_j27
      simp (disch := omega) only [pb_its, pb_l2, pb_ll, nI_add, pb_mul, if_true, if_false, pb_bs, pb_b2n, pb_bz0, pb_bz1, pb_10, pb_01, pb_i31, ck_is0 hk, ck_r0_0 hk, ck_r0_1 hk, ck_r0_2 hk, ck_r0_3 hk, ck_r0_4 hk, ck_r0_5 hk, ck_r0_6 hk, ck_r0_7 hk, ck_r0_8 hk, ck_r0_9 hk, ck_is1 hk, ck_r1_0 hk, ck_is3 hk, ck_r3_0 hk, ck_r3_1 hk, ck_is20 hk, ck_r20_0 hk, ck_r20_1 hk, ck_r20_2 hk, ck_is24 hk, ck_r24_1 hk, ck_r24_2 hk, ck_r24_3 hk, ck_r24_4 hk, ck_is33 hk, ck_r33_0 hk, ck_r33_1 hk, ck_is40 hk, ck_r40_0 hk, ck_is102 hk, ck_r102_0 hk, ck_r102_1 hk, ck_r102_2 hk, ck_r102_3 hk, ck_r102_4 hk, ck_r102_5 hk, ck_is103 hk, ck_r103_0 hk, ck_r103_1 hk, ck_is111 hk, ck_r111_0 hk, ck_r111_1 hk, ck_r111_2 hk, ck_r111_3 hk, ck_r111_4 hk, ck_is114 hk, ck_r114_0 hk, ck_r114_1 hk, ck_r114_2 hk, ck_r114_3 hk, ck_r114_4 hk, bV, bI, bT, bF, bD, bS, bH, bR0, bR1, bR2, bR3, bR4, bFo, bX, bNo, bG0, bG1, bG2, bG3, cb_isStep hb, pb_cf cs]
    · unfold mm_M_thrownOn mm_M_thrownOn_j30
      simp (disch := omega) only [pb_its, pb_l2, pb_ll, nI_add, pb_mul, if_true, if_false, pb_bs, pb_b2n, pb_bz0, pb_bz1, pb_10, pb_01, pb_i31, mk_is hk2, mk_g0 hk2, mk_g1 hk2, mk_g2 hk2, mk_g3 hk2, mk_g4 hk2, mk_g5 hk2, mk_g6 hk2, mk_g7 hk2, mk_g8 hk2, mk_g9 hk2, mk_g10 hk2, mk_g11 hk2, mk_g12 hk2, mk_g13 hk2, mk_g14 hk2, mk_g15 hk2, mk_g16 hk2, mk_g17 hk2, mk_g18 hk2, mk_g19 hk2, mk_g20 hk2, mk_g21 hk2, mk_g22 hk2, mb_isStepC hm1 Hl, pb_cf cs]
  replace cs := Classical.not_not.mp cs
  by_cases cy : ¬ sp_in y 1 60
  · refine jo_no hc hm ha0 (r := -nI 1) ?_ ?_
    · unfold mm_S_thrownOn mm_S_thrownOn_j27
      simp (disch := omega) only [pb_its, pb_l2, pb_ll, nI_add, pb_mul, if_true, if_false, pb_bs, pb_b2n, pb_bz0, pb_bz1, pb_10, pb_01, pb_i31, ck_is0 hk, ck_r0_0 hk, ck_r0_1 hk, ck_r0_2 hk, ck_r0_3 hk, ck_r0_4 hk, ck_r0_5 hk, ck_r0_6 hk, ck_r0_7 hk, ck_r0_8 hk, ck_r0_9 hk, ck_is1 hk, ck_r1_0 hk, ck_is3 hk, ck_r3_0 hk, ck_r3_1 hk, ck_is20 hk, ck_r20_0 hk, ck_r20_1 hk, ck_r20_2 hk, ck_is24 hk, ck_r24_1 hk, ck_r24_2 hk, ck_r24_3 hk, ck_r24_4 hk, ck_is33 hk, ck_r33_0 hk, ck_r33_1 hk, ck_is40 hk, ck_r40_0 hk, ck_is102 hk, ck_r102_0 hk, ck_r102_1 hk, ck_r102_2 hk, ck_r102_3 hk, ck_r102_4 hk, ck_r102_5 hk, ck_is103 hk, ck_r103_0 hk, ck_r103_1 hk, ck_is111 hk, ck_r111_0 hk, ck_r111_1 hk, ck_r111_2 hk, ck_r111_3 hk, ck_r111_4 hk, ck_is114 hk, ck_r114_0 hk, ck_r114_1 hk, ck_r114_2 hk, ck_r114_3 hk, ck_r114_4 hk, bV, bI, bT, bF, bD, bS, bH, bR0, bR1, bR2, bR3, bR4, bFo, bX, bNo, bG0, bG1, bG2, bG3, cb_isStep hb, pb_ct cs, pq_withinC, pb_cf cy]
    · unfold mm_M_thrownOn mm_M_thrownOn_j30
      simp (disch := omega) only [pb_its, pb_l2, pb_ll, nI_add, pb_mul, if_true, if_false, pb_bs, pb_b2n, pb_bz0, pb_bz1, pb_10, pb_01, pb_i31, mk_is hk2, mk_g0 hk2, mk_g1 hk2, mk_g2 hk2, mk_g3 hk2, mk_g4 hk2, mk_g5 hk2, mk_g6 hk2, mk_g7 hk2, mk_g8 hk2, mk_g9 hk2, mk_g10 hk2, mk_g11 hk2, mk_g12 hk2, mk_g13 hk2, mk_g14 hk2, mk_g15 hk2, mk_g16 hk2, mk_g17 hk2, mk_g18 hk2, mk_g19 hk2, mk_g20 hk2, mk_g21 hk2, mk_g22 hk2, mb_isStepC hm1 Hl, pb_ct cs, po_inC, pb_cf cy]
  replace cy := Classical.not_not.mp cy
  by_cases cw : ¬ sp_in w 0 1
  · refine jo_no hc hm ha0 (r := -nI 1) ?_ ?_
    · unfold mm_S_thrownOn mm_S_thrownOn_j27
      simp (disch := omega) only [pb_its, pb_l2, pb_ll, nI_add, pb_mul, if_true, if_false, pb_bs, pb_b2n, pb_bz0, pb_bz1, pb_10, pb_01, pb_i31, ck_is0 hk, ck_r0_0 hk, ck_r0_1 hk, ck_r0_2 hk, ck_r0_3 hk, ck_r0_4 hk, ck_r0_5 hk, ck_r0_6 hk, ck_r0_7 hk, ck_r0_8 hk, ck_r0_9 hk, ck_is1 hk, ck_r1_0 hk, ck_is3 hk, ck_r3_0 hk, ck_r3_1 hk, ck_is20 hk, ck_r20_0 hk, ck_r20_1 hk, ck_r20_2 hk, ck_is24 hk, ck_r24_1 hk, ck_r24_2 hk, ck_r24_3 hk, ck_r24_4 hk, ck_is33 hk, ck_r33_0 hk, ck_r33_1 hk, ck_is40 hk, ck_r40_0 hk, ck_is102 hk, ck_r102_0 hk, ck_r102_1 hk, ck_r102_2 hk, ck_r102_3 hk, ck_r102_4 hk, ck_r102_5 hk, ck_is103 hk, ck_r103_0 hk, ck_r103_1 hk, ck_is111 hk, ck_r111_0 hk, ck_r111_1 hk, ck_r111_2 hk, ck_r111_3 hk, ck_r111_4 hk, ck_is114 hk, ck_r114_0 hk, ck_r114_1 hk, ck_r114_2 hk, ck_r114_3 hk, ck_r114_4 hk, bV, bI, bT, bF, bD, bS, bH, bR0, bR1, bR2, bR3, bR4, bFo, bX, bNo, bG0, bG1, bG2, bG3, cb_isStep hb, pb_ct cs, pq_withinC, pb_ct cy, pb_cf cw]
    · unfold mm_M_thrownOn mm_M_thrownOn_j30
      simp (disch := omega) only [pb_its, pb_l2, pb_ll, nI_add, pb_mul, if_true, if_false, pb_bs, pb_b2n, pb_bz0, pb_bz1, pb_10, pb_01, pb_i31, mk_is hk2, mk_g0 hk2, mk_g1 hk2, mk_g2 hk2, mk_g3 hk2, mk_g4 hk2, mk_g5 hk2, mk_g6 hk2, mk_g7 hk2, mk_g8 hk2, mk_g9 hk2, mk_g10 hk2, mk_g11 hk2, mk_g12 hk2, mk_g13 hk2, mk_g14 hk2, mk_g15 hk2, mk_g16 hk2, mk_g17 hk2, mk_g18 hk2, mk_g19 hk2, mk_g20 hk2, mk_g21 hk2, mk_g22 hk2, mb_isStepC hm1 Hl, pb_ct cs, po_inC, pb_ct cy, pb_cf cw]
  replace cw := Classical.not_not.mp cw
  obtain ⟨s, hs, rfl⟩ := sp_st_n Hk H2 cs
  obtain ⟨n, -, hn, rfl⟩ := sp_in_n cy (by omega) (by omega)
  have ht := sd_step Hsd (Or.inl (by omega))
  have hR := sd_told Hsd ht
  have Hd9 : d ≤ 999 := Hsd.2.2.2.2.1
  obtain ⟨h', e1, w1⟩ := cb_go (N := N) (n := n) hb ht Hfo HRS hR (by omega) (by omega) hN
  have hk1 := cw_ck w1
  obtain ⟨g1, f1, m1⟩ := mb_keeps (N := N) hm1 Hl (by omega)
  obtain ⟨g2, f2, m2⟩ := mb_setthr (y := nI 0) m1 (show s < 8 by omega)
  obtain ⟨g3, f3, m3⟩ := mb_setfal (y := nI 0) m2 (show s < 8 by omega)
  have hlen := (mb_len m1).1
  have hka := mb_mk m1
  have hkb := mb_mk m2
  have hRn := dN_R (ro := ro_of fo RS) hR n (by omega)
  have key := pb_for (body := mm_M_thrownOn_b53 N (some 118) (nI s) (nI n) w) n (fun i s' => ∃ h', s' = (nI i, h') ∧ mb_h h2 h' T a fo x RS US I fo (dN (ro_of fo RS) k m a i) (tN (ro_of fo RS) k m a (th.set s (nI 0)) i) (fN (ro_of fo RS) k m a (fa.set s (nI 0)) i) (sl a 10 20) dx Y) (fun e => mb_h h2 e T a fo x RS US I fo (dN (ro_of fo RS) k m a n) (tN (ro_of fo RS) k m a (th.set s (nI 0)) n) (fN (ro_of fo RS) k m a (fa.set s (nI 0)) n) (sl a 10 20) dx Y) (N := N) (s := (nI 0, g3)) (by omega) ⟨g3, rfl, m3⟩ (by
    rintro i s' hi ⟨h', rfl, q⟩
    left
    obtain ⟨h2, p1, p2⟩ := mb_pass (N := N) q (dN_R hR i (by omega)) Hfo HRS (by omega)
    have hlt : ¬ nI n ≤ nI i := nI_ge hi (by omega)
    refine ⟨_, ?_, h2, rfl, p2⟩
    unfold mm_M_thrownOn_b53
    simp (disch := omega) only [pb_its, pb_l2, pb_ll, nI_add, pb_mul, if_true, if_false, pb_bs, pb_b2n, pb_bz0, pb_bz1, pb_10, pb_01, pb_i31, hlt, p1]) (by
    rintro s' ⟨h', rfl, q⟩
    refine ⟨h', ?_, q⟩
    unfold mm_M_thrownOn_b53
    simp (disch := omega) only [pb_its, pb_l2, pb_ll, nI_add, pb_mul, if_true, if_false, pb_bs, pb_b2n, pb_bz0, pb_bz1, pb_10, pb_01, pb_i31, nI_le (Nat.le_refl n) (by omega : n < 2 ^ 31)])
  obtain ⟨g4, f4, m4⟩ := key
  obtain ⟨g5, f5, m5⟩ := mb_lays (N := N) m4 hRn.1.1 (by omega)
  rw [sa_back Hl hRn.1.1 (fun j hj => dN_pv hR (by omega) n (by omega))] at m5
  have hkc := mb_mk m5
  have et := (tN_p (ro := ro_of fo RS) (k := k) (m := m) (s := s) (b := a) (th := z8) (th' := th.set s (nI 0)) (by rw [List.length_set, hlen.1]; rfl) (by rw [pv_eq (by omega), z8_pv]) n).2
  have ef := (fN_p (ro := ro_of fo RS) (k := k) (m := m) (s := s) (b := a) (fa := z8) (fa' := fa.set s (nI 0)) (by rw [List.length_set, hlen.2.1]; rfl) (by rw [pv_eq (by omega), z8_pv]) n).2
  by_cases w0 : w = nI 0
  · subst w0
    refine jo_ask ha0 (cw_cb w1) m5 (r := pv (tN (ro_of fo RS) k m a z8 n) s) ?_ ?_
    · unfold mm_S_thrownOn mm_S_thrownOn_j62
      simp (disch := omega) only [pb_its, pb_l2, pb_ll, nI_add, pb_mul, if_true, if_false, pb_bs, pb_b2n, pb_bz0, pb_bz1, pb_10, pb_01, pb_i31, ck_is0 hk, ck_r0_0 hk, ck_r0_1 hk, ck_r0_2 hk, ck_r0_3 hk, ck_r0_4 hk, ck_r0_5 hk, ck_r0_6 hk, ck_r0_7 hk, ck_r0_8 hk, ck_r0_9 hk, ck_is1 hk, ck_r1_0 hk, ck_is3 hk, ck_r3_0 hk, ck_r3_1 hk, ck_is20 hk, ck_r20_0 hk, ck_r20_1 hk, ck_r20_2 hk, ck_is24 hk, ck_r24_1 hk, ck_r24_2 hk, ck_r24_3 hk, ck_r24_4 hk, ck_is33 hk, ck_r33_0 hk, ck_r33_1 hk, ck_is40 hk, ck_r40_0 hk, ck_is102 hk, ck_r102_0 hk, ck_r102_1 hk, ck_r102_2 hk, ck_r102_3 hk, ck_r102_4 hk, ck_r102_5 hk, ck_is103 hk, ck_r103_0 hk, ck_r103_1 hk, ck_is111 hk, ck_r111_0 hk, ck_r111_1 hk, ck_r111_2 hk, ck_r111_3 hk, ck_r111_4 hk, ck_is114 hk, ck_r114_0 hk, ck_r114_1 hk, ck_r114_2 hk, ck_r114_3 hk, ck_r114_4 hk, cb_isStep hb, pb_ct cs, pq_withinC, pb_ct cy, pb_ct cw, e1, ck_is0 hk1, ck_r0_0 hk1, ck_r0_1 hk1, ck_r0_2 hk1, ck_r0_3 hk1, ck_r0_4 hk1, ck_r0_5 hk1, ck_r0_6 hk1, ck_r0_7 hk1, ck_r0_8 hk1, ck_r0_9 hk1, ck_is1 hk1, ck_r1_0 hk1, ck_is3 hk1, ck_r3_0 hk1, ck_r3_1 hk1, ck_is20 hk1, ck_r20_0 hk1, ck_r20_1 hk1, ck_r20_2 hk1, ck_is24 hk1, ck_r24_1 hk1, ck_r24_2 hk1, ck_r24_3 hk1, ck_r24_4 hk1, ck_is33 hk1, ck_r33_0 hk1, ck_r33_1 hk1, ck_is40 hk1, ck_r40_0 hk1, ck_is102 hk1, ck_r102_0 hk1, ck_r102_1 hk1, ck_r102_2 hk1, ck_r102_3 hk1, ck_r102_4 hk1, ck_r102_5 hk1, ck_is103 hk1, ck_r103_0 hk1, ck_r103_1 hk1, ck_is111 hk1, ck_r111_0 hk1, ck_r111_1 hk1, ck_r111_2 hk1, ck_r111_3 hk1, ck_r111_4 hk1, ck_is114 hk1, ck_r114_0 hk1, ck_r114_1 hk1, ck_r114_2 hk1, ck_r114_3 hk1, ck_r114_4 hk1, cw_thr w1 (show s < 8 by omega)]
    · unfold mm_M_thrownOn mm_M_thrownOn_j93
      simp (disch := omega) only [pb_its, pb_l2, pb_ll, nI_add, pb_mul, if_true, if_false, pb_bs, pb_b2n, pb_bz0, pb_bz1, pb_10, pb_01, pb_i31, mk_is hk2, mk_g0 hk2, mk_g1 hk2, mk_g2 hk2, mk_g3 hk2, mk_g4 hk2, mk_g5 hk2, mk_g6 hk2, mk_g7 hk2, mk_g8 hk2, mk_g9 hk2, mk_g10 hk2, mk_g11 hk2, mk_g12 hk2, mk_g13 hk2, mk_g14 hk2, mk_g15 hk2, mk_g16 hk2, mk_g17 hk2, mk_g18 hk2, mk_g19 hk2, mk_g20 hk2, mk_g21 hk2, mk_g22 hk2, mb_isStepC hm1 Hl, pb_ct cs, po_inC, pb_ct cy, pb_ct cw, f1, mk_is hka, mk_g0 hka, mk_g1 hka, mk_g2 hka, mk_g3 hka, mk_g4 hka, mk_g5 hka, mk_g6 hka, mk_g7 hka, mk_g8 hka, mk_g9 hka, mk_g10 hka, mk_g11 hka, mk_g12 hka, mk_g13 hka, mk_g14 hka, mk_g15 hka, mk_g16 hka, mk_g17 hka, mk_g18 hka, mk_g19 hka, mk_g20 hka, mk_g21 hka, mk_g22 hka, f2, mk_is hkb, mk_g0 hkb, mk_g1 hkb, mk_g2 hkb, mk_g3 hkb, mk_g4 hkb, mk_g5 hkb, mk_g6 hkb, mk_g7 hkb, mk_g8 hkb, mk_g9 hkb, mk_g10 hkb, mk_g11 hkb, mk_g12 hkb, mk_g13 hkb, mk_g14 hkb, mk_g15 hkb, mk_g16 hkb, mk_g17 hkb, mk_g18 hkb, mk_g19 hkb, mk_g20 hkb, mk_g21 hkb, mk_g22 hkb, f3, f4, f5, mk_is hkc, mk_g0 hkc, mk_g1 hkc, mk_g2 hkc, mk_g3 hkc, mk_g4 hkc, mk_g5 hkc, mk_g6 hkc, mk_g7 hkc, mk_g8 hkc, mk_g9 hkc, mk_g10 hkc, mk_g11 hkc, mk_g12 hkc, mk_g13 hkc, mk_g14 hkc, mk_g15 hkc, mk_g16 hkc, mk_g17 hkc, mk_g18 hkc, mk_g19 hkc, mk_g20 hkc, mk_g21 hkc, mk_g22 hkc, mb_thr m5 (show s < 8 by omega), et]
  · refine jo_ask ha0 (cw_cb w1) m5 (r := pv (fN (ro_of fo RS) k m a z8 n) s) ?_ ?_
    · unfold mm_S_thrownOn mm_S_thrownOn_j62
      simp (disch := omega) only [pb_its, pb_l2, pb_ll, nI_add, pb_mul, if_true, if_false, pb_bs, pb_b2n, pb_bz0, pb_bz1, pb_10, pb_01, pb_i31, ck_is0 hk, ck_r0_0 hk, ck_r0_1 hk, ck_r0_2 hk, ck_r0_3 hk, ck_r0_4 hk, ck_r0_5 hk, ck_r0_6 hk, ck_r0_7 hk, ck_r0_8 hk, ck_r0_9 hk, ck_is1 hk, ck_r1_0 hk, ck_is3 hk, ck_r3_0 hk, ck_r3_1 hk, ck_is20 hk, ck_r20_0 hk, ck_r20_1 hk, ck_r20_2 hk, ck_is24 hk, ck_r24_1 hk, ck_r24_2 hk, ck_r24_3 hk, ck_r24_4 hk, ck_is33 hk, ck_r33_0 hk, ck_r33_1 hk, ck_is40 hk, ck_r40_0 hk, ck_is102 hk, ck_r102_0 hk, ck_r102_1 hk, ck_r102_2 hk, ck_r102_3 hk, ck_r102_4 hk, ck_r102_5 hk, ck_is103 hk, ck_r103_0 hk, ck_r103_1 hk, ck_is111 hk, ck_r111_0 hk, ck_r111_1 hk, ck_r111_2 hk, ck_r111_3 hk, ck_r111_4 hk, ck_is114 hk, ck_r114_0 hk, ck_r114_1 hk, ck_r114_2 hk, ck_r114_3 hk, ck_r114_4 hk, cb_isStep hb, pb_ct cs, pq_withinC, pb_ct cy, pb_ct cw, e1, ck_is0 hk1, ck_r0_0 hk1, ck_r0_1 hk1, ck_r0_2 hk1, ck_r0_3 hk1, ck_r0_4 hk1, ck_r0_5 hk1, ck_r0_6 hk1, ck_r0_7 hk1, ck_r0_8 hk1, ck_r0_9 hk1, ck_is1 hk1, ck_r1_0 hk1, ck_is3 hk1, ck_r3_0 hk1, ck_r3_1 hk1, ck_is20 hk1, ck_r20_0 hk1, ck_r20_1 hk1, ck_r20_2 hk1, ck_is24 hk1, ck_r24_1 hk1, ck_r24_2 hk1, ck_r24_3 hk1, ck_r24_4 hk1, ck_is33 hk1, ck_r33_0 hk1, ck_r33_1 hk1, ck_is40 hk1, ck_r40_0 hk1, ck_is102 hk1, ck_r102_0 hk1, ck_r102_1 hk1, ck_r102_2 hk1, ck_r102_3 hk1, ck_r102_4 hk1, ck_r102_5 hk1, ck_is103 hk1, ck_r103_0 hk1, ck_r103_1 hk1, ck_is111 hk1, ck_r111_0 hk1, ck_r111_1 hk1, ck_r111_2 hk1, ck_r111_3 hk1, ck_r111_4 hk1, ck_is114 hk1, ck_r114_0 hk1, ck_r114_1 hk1, ck_r114_2 hk1, ck_r114_3 hk1, ck_r114_4 hk1, w0, cw_fal w1 (show s < 8 by omega)]
    · unfold mm_M_thrownOn mm_M_thrownOn_j93
      simp (disch := omega) only [pb_its, pb_l2, pb_ll, nI_add, pb_mul, if_true, if_false, pb_bs, pb_b2n, pb_bz0, pb_bz1, pb_10, pb_01, pb_i31, mk_is hk2, mk_g0 hk2, mk_g1 hk2, mk_g2 hk2, mk_g3 hk2, mk_g4 hk2, mk_g5 hk2, mk_g6 hk2, mk_g7 hk2, mk_g8 hk2, mk_g9 hk2, mk_g10 hk2, mk_g11 hk2, mk_g12 hk2, mk_g13 hk2, mk_g14 hk2, mk_g15 hk2, mk_g16 hk2, mk_g17 hk2, mk_g18 hk2, mk_g19 hk2, mk_g20 hk2, mk_g21 hk2, mk_g22 hk2, mb_isStepC hm1 Hl, pb_ct cs, po_inC, pb_ct cy, pb_ct cw, f1, mk_is hka, mk_g0 hka, mk_g1 hka, mk_g2 hka, mk_g3 hka, mk_g4 hka, mk_g5 hka, mk_g6 hka, mk_g7 hka, mk_g8 hka, mk_g9 hka, mk_g10 hka, mk_g11 hka, mk_g12 hka, mk_g13 hka, mk_g14 hka, mk_g15 hka, mk_g16 hka, mk_g17 hka, mk_g18 hka, mk_g19 hka, mk_g20 hka, mk_g21 hka, mk_g22 hka, f2, mk_is hkb, mk_g0 hkb, mk_g1 hkb, mk_g2 hkb, mk_g3 hkb, mk_g4 hkb, mk_g5 hkb, mk_g6 hkb, mk_g7 hkb, mk_g8 hkb, mk_g9 hkb, mk_g10 hkb, mk_g11 hkb, mk_g12 hkb, mk_g13 hkb, mk_g14 hkb, mk_g15 hkb, mk_g16 hkb, mk_g17 hkb, mk_g18 hkb, mk_g19 hkb, mk_g20 hkb, mk_g21 hkb, mk_g22 hkb, f3, f4, f5, w0, mk_is hkc, mk_g0 hkc, mk_g1 hkc, mk_g2 hkc, mk_g3 hkc, mk_g4 hkc, mk_g5 hkc, mk_g6 hkc, mk_g7 hkc, mk_g8 hkc, mk_g9 hkc, mk_g10 hkc, mk_g11 hkc, mk_g12 hkc, mk_g13 hkc, mk_g14 hkc, mk_g15 hkc, mk_g16 hkc, mk_g17 hkc, mk_g18 hkc, mk_g19 hkc, mk_g20 hkc, mk_g21 hkc, mk_g22 hkc, mb_fal m5 (show s < 8 by omega), ef]
