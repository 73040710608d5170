/-! ===== asked of days: ahead, stays, closes, thrownOn ===== -/
def cl_run (o : Option (Int32 × ss_Hp)) (h : ss_Hp) (r : Int32) (T : List Nat) (a : List Int32) (fo x : Int32) (RS : List (List ru_C)) (US : List (List Int32)) (I : Nat → Option (List Int32 × Int32 × Int32)) : Prop := ∃ h', o = some (r, h') ∧ cl_h h' T a fo x RS US I ∧ (∀ p, 118 ≤ p ∧ p < 142 → h'.2 p = h.2 p) ∧ (fr_h h → fr_h h')
def mo_run (o : Option (Int32 × ss_Hp)) (h : ss_Hp) (r : Int32) (T : List Nat) (a : List Int32) (fo x : Int32) (RS : List (List ru_C)) (US : List (List Int32)) (I : Nat → Option (List Int32 × Int32 × Int32)) : Prop := ∃ h', o = some (r, h') ∧ mo_h h' T a fo x RS US I ∧ h'.1 = h.1 ∧ ∀ p, p < 118 ∨ 142 ≤ p → h'.2 p = h.2 p
def jo (oc om : Option (Int32 × ss_Hp)) (h h2 : ss_Hp) : Prop := ∃ r T a fo x RS US I, cl_run oc h r T a fo x RS US I ∧ mo_run om h2 r T a fo x RS US I ∧ as_ok T a fo x RS US I
theorem jo_no {oc om : Option (Int32 × ss_Hp)} {h h2 : ss_Hp} {T : List Nat} {a : List Int32} {fo x : Int32} {RS : List (List ru_C)} {US : List (List Int32)} {I : Nat → Option (List Int32 × Int32 × Int32)} {r : Int32} (hc : cl_h h T a fo x RS US I) (hm : mo_h h2 T a fo x RS US I) (ha : as_ok T a fo x RS US I) (e1 : oc = some (r, h)) (e2 : om = some (r, h2)) : jo oc om h h2 := ⟨r, T, a, fo, x, RS, US, I, ⟨h, e1, hc, fun _ _ => rfl, id⟩, ⟨h2, e2, hm, rfl, fun _ _ => rfl⟩, ha⟩
theorem jo_ask {oc om : Option (Int32 × ss_Hp)} {h h2 h' h2' : ss_Hp} {T : List Nat} {a : List Int32} {fo x : Int32} {RS : List (List ru_C)} {US : List (List Int32)} {I : Nat → Option (List Int32 × Int32 × Int32)} {r : Int32} {Z Y : Nat → List Int32} {th fa kp : List Int32} {dx : Int64} (ha : as_ok T a fo x RS US I) (c1 : cb_h h h' T a fo x RS US I Z) (c2 : mb_h h2 h2' T a fo x RS US I fo a th fa kp dx Y) (e1 : oc = some (r, h')) (e2 : om = some (r, h2')) : jo oc om h h2 := ⟨r, T, a, fo, x, RS, US, I, ⟨h', e1, cb_cl c1⟩, ⟨h2', e2, mb_mo c2⟩, ha⟩
theorem pb_ct {P : Prop} {d : Decidable P} (h : P) : @ite _ P d (nI 1) (nI 0) = nI 1 := if_pos h
theorem pb_cf {P : Prop} {d : Decidable P} (h : ¬ P) : @ite _ P d (nI 1) (nI 0) = nI 0 := if_neg h
theorem pq_withinC {N : Nat} {z : Int32} {lo hi : Nat} : mm_S_isWithin N z (nI lo) (nI hi) = some (@ite _ (sp_in z lo hi) (Classical.propDecidable _) (nI 1) (nI 0)) := pq_within
theorem po_inC {N : Nat} {z : Int32} {lo hi : Nat} (h1 : lo < 2147483648) (h2 : hi < 2147483648) : mm_M_in N z.toInt64 (lN lo) (lN hi) = some (@ite _ (sp_in z lo hi) (Classical.propDecidable _) (nI 1) (nI 0)) := po_in h1 h2
theorem cb_isStep {N : Nat} {h0 h : ss_Hp} {T : List Nat} {a : List Int32} {fo x : Int32} {RS : List (List ru_C)} {US : List (List Int32)} {I : Nat → Option (List Int32 × Int32 × Int32)} {Z : Nat → List Int32} {z : Int32} (hc : cb_h h0 h T a fo x RS US I Z) : mm_S_isStep N (some 0) z h = some (@ite _ (sp_st a z) (Classical.propDecidable _) (nI 1) (nI 0)) := by
  obtain ⟨n, g, rc, ti, tb, vt, ri, cd, sx, rl, wi, wv, gi, gs, gw, nd, ns, nw, il, ai, yv, yr, yi, ys, yw, yt, yh, yf, yo, yk, fr, fg, pl, pc, pg, rfl, F, hg, -⟩ := hc
  obtain ⟨Fn, Frc, Ft, Fr, Fl, ⟨Fw, ⟨v, Fv, Fq⟩, Fg, Fs, Fwl, Fno⟩, Fi, ⟨nx, Fa, Fu⟩, Fy, Ff⟩ := F
  subst Fv
  exact pq_isStep Fq.1
theorem cb_isHouse {N : Nat} {h0 h : ss_Hp} {T : List Nat} {a : List Int32} {fo x : Int32} {RS : List (List ru_C)} {US : List (List Int32)} {I : Nat → Option (List Int32 × Int32 × Int32)} {Z : Nat → List Int32} {z : Int32} (hc : cb_h h0 h T a fo x RS US I Z) : mm_S_isHouse N (some 0) z h = some (@ite _ (sp_ho a z) (Classical.propDecidable _) (nI 1) (nI 0)) := by
  obtain ⟨n, g, rc, ti, tb, vt, ri, cd, sx, rl, wi, wv, gi, gs, gw, nd, ns, nw, il, ai, yv, yr, yi, ys, yw, yt, yh, yf, yo, yk, fr, fg, pl, pc, pg, rfl, F, hg, -⟩ := hc
  obtain ⟨Fn, Frc, Ft, Fr, Fl, ⟨Fw, ⟨v, Fv, Fq⟩, Fg, Fs, Fwl, Fno⟩, Fi, ⟨nx, Fa, Fu⟩, Fy, Ff⟩ := F
  subst Fv
  exact pq_isHouse Fq.1
theorem mb_isStepC {N : Nat} {h0 h : ss_Hp} {T : List Nat} {a : List Int32} {fo x : Int32} {RS : List (List ru_C)} {US : List (List Int32)} {I : Nat → Option (List Int32 × Int32 × Int32)} {fo2 : Int32} {b th2 fa2 kp2 : List Int32} {dx2 : Int64} {Z : Nat → List Int32} {y : Int32} (hc : mb_h h0 h T a fo x RS US I fo2 b th2 fa2 kp2 dx2 Z) (hl : b.length = 124) : mm_M_isStep N (some 118) y h = some (@ite _ (sp_st b y) (Classical.propDecidable _) (nI 1) (nI 0)) := mb_isStep hc hl
theorem mb_isHouseC {N : Nat} {h0 h : ss_Hp} {T : List Nat} {a : List Int32} {fo x : Int32} {RS : List (List ru_C)} {US : List (List Int32)} {I : Nat → Option (List Int32 × Int32 × Int32)} {fo2 : Int32} {b th2 fa2 kp2 : List Int32} {dx2 : Int64} {Z : Nat → List Int32} {y : Int32} (hc : mb_h h0 h T a fo x RS US I fo2 b th2 fa2 kp2 dx2 Z) (hl : b.length = 124) : mm_M_isHouse N (some 118) y h = some (@ite _ (sp_ho b y) (Classical.propDecidable _) (nI 1) (nI 0)) := mb_isHouse hc hl
theorem sp_01 {w : Int32} (h0 : ¬ w = nI 0) (h1 : ¬ w = nI 1) : ¬ sp_in w 0 1 := fun h => by
  obtain ⟨q, -, q2, rfl⟩ := sp_in_n h (by omega) (by omega)
  have : q = 0 ∨ q = 1 := by omega
  rcases this with e | e <;> subst e
  · exact h0 rfl
  · exact h1 rfl
theorem pb_clo {N k : Nat} (hk : k ≤ 8) (hN : 11 ≤ N) (b : List Int32) : mm_JI_bitCount N (sa_clo b k) = some (pc_I (sa_clo b k)) ∧ mm_M_bits N (sa_clo b k) = some (pc_I (sa_clo b k)) := by
  obtain ⟨q, q1, q2⟩ := sa_clo_lt b k hk
  have h8 : (2 : Nat) ^ k ≤ 2 ^ 8 := Nat.pow_le_pow_right (by omega) hk
  rw [q2]
  exact ⟨pc_bit (by omega), po_bits (by omega) hN⟩
def tN (ro : Option (List ru_C)) (k m : Nat) (b th : List Int32) : Nat → List Int32
  | 0 => th
  | i + 1 => dT ro k m (dN ro k m b i) (tN ro k m b th i)
def fN (ro : Option (List ru_C)) (k m : Nat) (b fa : List Int32) : Nat → List Int32
  | 0 => fa
  | i + 1 => dF ro k m (dN ro k m b i) (fN ro k m b fa i)
theorem cb_go {N : Nat} {h0 h : ss_Hp} {T : List Nat} {a : List Int32} {fo x : Int32} {RS : List (List ru_C)} {US : List (List Int32)} {I : Nat → Option (List Int32 × Int32 × Int32)} {Z : Nat → List Int32} {k m d n : Nat} (hc : cb_h h0 h T a fo x RS US I Z) (ht : ¬ pv a 0 ≤ nI 0) (hu : fo = -nI 1 ∨ ∃ r, r < RS.length ∧ fo = nI r) (h6 : RS.length ≤ 6) (hR : sa_R a k m d) (hn : n ≤ 1000) (hd : d < 10000) (hN : 5000 < N) : ∃ h', mm_F_go N (some 111) (nI n) h = some h' ∧ cw_h h0 h' T a fo x RS US I Z (ro_of fo RS) (dN (ro_of fo RS) k m a n) (pv (dN (ro_of fo RS) k m a n) 13) (tN (ro_of fo RS) k m a z8 n) (fN (ro_of fo RS) k m a z8 n) := by
  obtain ⟨h1, e1, w1⟩ := cb_start (N := N) hc ht hu h6 (by omega)
  have hk := cb_ck hc
  generalize ro_of fo RS = ro at w1 ⊢
  have key := pb_for (body := mm_F_go_b6 N (some 111) (nI n)) n (fun i s => ∃ h', s = (nI i, h') ∧ cw_h h0 h' T a fo x RS US I Z ro (dN ro k m a i) (pv (dN ro k m a i) 13) (tN ro k m a z8 i) (fN ro k m a z8 i)) (fun e => cw_h h0 e T a fo x RS US I Z ro (dN ro k m a n) (pv (dN ro k m a n) 13) (tN ro k m a z8 n) (fN ro k m a z8 n)) (N := N) (s := (nI 0, h1)) (by omega) ⟨h1, rfl, w1⟩ (by
    rintro i s hi ⟨h', rfl, w⟩
    left
    obtain ⟨h2, p1, p2⟩ := cw_pass (N := N) w rfl (dN_R hR i (by omega)) (by omega) (by omega)
    have ckw := cw_ck w
    have hlt : ¬ nI n ≤ nI i := nI_ge hi (by omega)
    refine ⟨_, ?_, h2, rfl, p2⟩
    unfold mm_F_go_b6
    simp (disch := omega) only [pb_its, pb_l2, pb_ll, nI_add, pb_mul, if_true, if_false, pb_bs, pb_b2n, pb_bz0, pb_bz1, pb_10, pb_01, pb_i31, ck_is0 ckw, ck_r0_0 ckw, ck_r0_1 ckw, ck_r0_2 ckw, ck_r0_3 ckw, ck_r0_4 ckw, ck_r0_5 ckw, ck_r0_6 ckw, ck_r0_7 ckw, ck_r0_8 ckw, ck_r0_9 ckw, ck_is1 ckw, ck_r1_0 ckw, ck_is3 ckw, ck_r3_0 ckw, ck_r3_1 ckw, ck_is20 ckw, ck_r20_0 ckw, ck_r20_1 ckw, ck_r20_2 ckw, ck_is24 ckw, ck_r24_1 ckw, ck_r24_2 ckw, ck_r24_3 ckw, ck_r24_4 ckw, ck_is33 ckw, ck_r33_0 ckw, ck_r33_1 ckw, ck_is40 ckw, ck_r40_0 ckw, ck_is102 ckw, ck_r102_0 ckw, ck_r102_1 ckw, ck_r102_2 ckw, ck_r102_3 ckw, ck_r102_4 ckw, ck_r102_5 ckw, ck_is103 ckw, ck_r103_0 ckw, ck_r103_1 ckw, ck_is111 ckw, ck_r111_0 ckw, ck_r111_1 ckw, ck_r111_2 ckw, ck_r111_3 ckw, ck_r111_4 ckw, ck_is114 ckw, ck_r114_0 ckw, ck_r114_1 ckw, ck_r114_2 ckw, ck_r114_3 ckw, ck_r114_4 ckw, hlt, p1]) (by
    rintro s ⟨h', rfl, w⟩
    refine ⟨h', ?_, w⟩
    unfold mm_F_go_b6
    simp (disch := omega) only [pb_its, pb_l2, pb_ll, nI_add, pb_mul, if_true, if_false, pb_bs, pb_b2n, pb_bz0, pb_bz1, pb_10, pb_01, pb_i31, nI_le (Nat.le_refl n) (by omega : n < 2 ^ 31)])
  obtain ⟨h', l1, l2⟩ := key
  refine ⟨h', ?_, l2⟩
  unfold mm_F_go
  simp (disch := omega) only [pb_its, pb_l2, pb_ll, nI_add, pb_mul, if_true, if_false, pb_bs, pb_b2n, pb_bz0, pb_bz1, pb_10, pb_01, pb_i31, ck_is0 hk, ck_r0_0 hk, ck_r0_1 hk, ck_r0_2 hk, ck_r0_3 hk, ck_r0_4 hk, ck_r0_5 hk, ck_r0_6 hk, ck_r0_7 hk, ck_r0_8 hk, ck_r0_9 hk, ck_is1 hk, ck_r1_0 hk, ck_is3 hk, ck_r3_0 hk, ck_r3_1 hk, ck_is20 hk, ck_r20_0 hk, ck_r20_1 hk, ck_r20_2 hk, ck_is24 hk, ck_r24_1 hk, ck_r24_2 hk, ck_r24_3 hk, ck_r24_4 hk, ck_is33 hk, ck_r33_0 hk, ck_r33_1 hk, ck_is40 hk, ck_r40_0 hk, ck_is102 hk, ck_r102_0 hk, ck_r102_1 hk, ck_r102_2 hk, ck_r102_3 hk, ck_r102_4 hk, ck_r102_5 hk, ck_is103 hk, ck_r103_0 hk, ck_r103_1 hk, ck_is111 hk, ck_r111_0 hk, ck_r111_1 hk, ck_r111_2 hk, ck_r111_3 hk, ck_r111_4 hk, ck_is114 hk, ck_r114_0 hk, ck_r114_1 hk, ck_r114_2 hk, ck_r114_3 hk, ck_r114_4 hk, e1, l1]
theorem jx_ahead {N : Nat} {h h2 : ss_Hp} {z y w : Int32} {T : List Nat} {a : List Int32} {fo x : Int32} {RS : List (List ru_C)} {US : List (List Int32)} {I : Nat → Option (List Int32 × Int32 × Int32)} (hc : cl_h h T a fo x RS US I) (hm : mo_h h2 T a fo x RS US I) (ha : as_ok T a fo x RS US I) (hN : 5000 < N) : jo (mm_S_ahead N (some 0) z y w h) (mm_M_ahead N (some 118) z y w h2) h h2 := by
  obtain ⟨Z, hb⟩ := cb_of hc
  obtain ⟨v, ⟨⟨bV, bI, bT, bF, bD, bS, bH⟩, ⟨bR0, bR1, bR2, bR3, bR4⟩, ⟨bFo, bX, bNo⟩, ⟨bG0, bG1, bG2, bG3⟩, bOwn, bStr, bBes, bSn, bWl, bNd, bCl⟩⟩ := cb_r hb
  have hk := cb_ck hb
  obtain ⟨th, fa, kp, dx, Y, hm1⟩ := mb_of hm
  have hk2 := mb_mk hm1
  have ha0 := ha
  obtain ⟨⟨Ht1, Ht2⟩, ⟨k, m, d, Hsd, Hul, Hu⟩, HRS, Hfo, Hx, HI⟩ := ha
  have Hok := Hsd.1
  obtain ⟨Hl, ⟨Hk, H2⟩, ⟨Hm, H3⟩, ⟨Hd, H10⟩, Hwl, Hbe, How⟩ := Hok
  by_cases ht : pv a 0 ≤ nI 0
  · have t0 : sa_told a = nI 0 := if_pos ht
    refine jo_no hc hm ha0 (r := -nI 1) ?_ ?_
    · unfold mm_S_ahead mm_S_ahead_j23
      simp (disch := omega) only [pb_its, pb_l2, pb_ll, nI_add, pb_mul, if_true, if_false, pb_bs, pb_b2n, pb_bz0, pb_bz1, pb_10, pb_01, pb_i31, ck_is0 hk, ck_r0_0 hk, ck_r0_1 hk, ck_r0_2 hk, ck_r0_3 hk, ck_r0_4 hk, ck_r0_5 hk, ck_r0_6 hk, ck_r0_7 hk, ck_r0_8 hk, ck_r0_9 hk, ck_is1 hk, ck_r1_0 hk, ck_is3 hk, ck_r3_0 hk, ck_r3_1 hk, ck_is20 hk, ck_r20_0 hk, ck_r20_1 hk, ck_r20_2 hk, ck_is24 hk, ck_r24_1 hk, ck_r24_2 hk, ck_r24_3 hk, ck_r24_4 hk, ck_is33 hk, ck_r33_0 hk, ck_r33_1 hk, ck_is40 hk, ck_r40_0 hk, ck_is102 hk, ck_r102_0 hk, ck_r102_1 hk, ck_r102_2 hk, ck_r102_3 hk, ck_r102_4 hk, ck_r102_5 hk, ck_is103 hk, ck_r103_0 hk, ck_r103_1 hk, ck_is111 hk, ck_r111_0 hk, ck_r111_1 hk, ck_r111_2 hk, ck_r111_3 hk, ck_r111_4 hk, ck_is114 hk, ck_r114_0 hk, ck_r114_1 hk, ck_r114_2 hk, ck_r114_3 hk, ck_r114_4 hk, bV, bI, bT, bF, bD, bS, bH, bR0, bR1, bR2, bR3, bR4, bFo, bX, bNo, bG0, bG1, bG2, bG3, t0]
    · unfold mm_M_ahead mm_M_ahead_j41
      simp (disch := omega) only [pb_its, pb_l2, pb_ll, nI_add, pb_mul, if_true, if_false, pb_bs, pb_b2n, pb_bz0, pb_bz1, pb_10, pb_01, pb_i31, mk_is hk2, mk_g0 hk2, mk_g1 hk2, mk_g2 hk2, mk_g3 hk2, mk_g4 hk2, mk_g5 hk2, mk_g6 hk2, mk_g7 hk2, mk_g8 hk2, mk_g9 hk2, mk_g10 hk2, mk_g11 hk2, mk_g12 hk2, mk_g13 hk2, mk_g14 hk2, mk_g15 hk2, mk_g16 hk2, mk_g17 hk2, mk_g18 hk2, mk_g19 hk2, mk_g20 hk2, mk_g21 hk2, mk_g22 hk2, mb_isValley hm1 Hl, t0]
  have t1 : sa_told a = nI 1 := if_neg ht
  have hR := sd_told Hsd ht
  have Hd9 : d ≤ 999 := Hsd.2.2.2.2.1
  by_cases cy : ¬ sp_in y 0 100
  · refine jo_no hc hm ha0 (r := -nI 1) ?_ ?_
    · unfold mm_S_ahead mm_S_ahead_j23
      simp (disch := omega) only [pb_its, pb_l2, pb_ll, nI_add, pb_mul, if_true, if_false, pb_bs, pb_b2n, pb_bz0, pb_bz1, pb_10, pb_01, pb_i31, ck_is0 hk, ck_r0_0 hk, ck_r0_1 hk, ck_r0_2 hk, ck_r0_3 hk, ck_r0_4 hk, ck_r0_5 hk, ck_r0_6 hk, ck_r0_7 hk, ck_r0_8 hk, ck_r0_9 hk, ck_is1 hk, ck_r1_0 hk, ck_is3 hk, ck_r3_0 hk, ck_r3_1 hk, ck_is20 hk, ck_r20_0 hk, ck_r20_1 hk, ck_r20_2 hk, ck_is24 hk, ck_r24_1 hk, ck_r24_2 hk, ck_r24_3 hk, ck_r24_4 hk, ck_is33 hk, ck_r33_0 hk, ck_r33_1 hk, ck_is40 hk, ck_r40_0 hk, ck_is102 hk, ck_r102_0 hk, ck_r102_1 hk, ck_r102_2 hk, ck_r102_3 hk, ck_r102_4 hk, ck_r102_5 hk, ck_is103 hk, ck_r103_0 hk, ck_r103_1 hk, ck_is111 hk, ck_r111_0 hk, ck_r111_1 hk, ck_r111_2 hk, ck_r111_3 hk, ck_r111_4 hk, ck_is114 hk, ck_r114_0 hk, ck_r114_1 hk, ck_r114_2 hk, ck_r114_3 hk, ck_r114_4 hk, bV, bI, bT, bF, bD, bS, bH, bR0, bR1, bR2, bR3, bR4, bFo, bX, bNo, bG0, bG1, bG2, bG3, t1, pq_withinC, pb_cf cy]
    · unfold mm_M_ahead mm_M_ahead_j41
      simp (disch := omega) only [pb_its, pb_l2, pb_ll, nI_add, pb_mul, if_true, if_false, pb_bs, pb_b2n, pb_bz0, pb_bz1, pb_10, pb_01, pb_i31, mk_is hk2, mk_g0 hk2, mk_g1 hk2, mk_g2 hk2, mk_g3 hk2, mk_g4 hk2, mk_g5 hk2, mk_g6 hk2, mk_g7 hk2, mk_g8 hk2, mk_g9 hk2, mk_g10 hk2, mk_g11 hk2, mk_g12 hk2, mk_g13 hk2, mk_g14 hk2, mk_g15 hk2, mk_g16 hk2, mk_g17 hk2, mk_g18 hk2, mk_g19 hk2, mk_g20 hk2, mk_g21 hk2, mk_g22 hk2, mb_isValley hm1 Hl, t1, po_inC, pb_cf cy]
  replace cy := Classical.not_not.mp cy
  obtain ⟨n, -, hn, rfl⟩ := sp_in_n cy (by omega) (by omega)
  obtain ⟨h', e1, w1⟩ := cb_go (N := N) (n := n) hb ht Hfo HRS hR (by omega) (by omega) hN
  have hk1 := cw_ck w1
  obtain ⟨g1, f1, m1⟩ := mb_keeps (N := N) hm1 Hl (by omega)
  obtain ⟨bc1, bc2⟩ := pb_clo (N := N) Hk (by omega) (dN (ro_of fo RS) k m a n)
  have hRn := dN_R (ro := ro_of fo RS) hR n (by omega)
  have key := pb_for (body := mm_M_ahead_b50 N (some 118) z (nI n) w) n (fun i s => ∃ h', s = (nI i, h') ∧ ∃ th fa, mb_h h2 h' T a fo x RS US I fo (dN (ro_of fo RS) k m a i) th fa (sl a 10 20) dx Y) (fun e => ∃ th fa, mb_h h2 e T a fo x RS US I fo (dN (ro_of fo RS) k m a n) th fa (sl a 10 20) dx Y) (N := N) (s := (nI 0, g1)) (by omega) ⟨g1, rfl, _, _, m1⟩ (by
    rintro i s hi ⟨h', rfl, th, fa, q⟩
    left
    obtain ⟨h2, p1, p2⟩ := mb_pass (N := N) q (dN_R hR i (by omega)) Hfo HRS (by omega)
    have hlt : ¬ nI n ≤ nI i := nI_ge hi (by omega)
    refine ⟨_, ?_, h2, rfl, _, _, p2⟩
    unfold mm_M_ahead_b50
    simp (disch := omega) only [pb_its, pb_l2, pb_ll, nI_add, pb_mul, if_true, if_false, pb_bs, pb_b2n, pb_bz0, pb_bz1, pb_10, pb_01, pb_i31, hlt, p1]) (by
    rintro s ⟨h', rfl, q⟩
    refine ⟨h', ?_, q⟩
    unfold mm_M_ahead_b50
    simp (disch := omega) only [pb_its, pb_l2, pb_ll, nI_add, pb_mul, if_true, if_false, pb_bs, pb_b2n, pb_bz0, pb_bz1, pb_10, pb_01, pb_i31, nI_le (Nat.le_refl n) (by omega : n < 2 ^ 31)])
  obtain ⟨g2, f2, th', fa', m2⟩ := key
  have hk3 := mb_mk m2
  obtain ⟨g3, f3, m3⟩ := mb_lays (N := N) m2 hRn.1.1 (by omega)
  rw [sa_back Hl hRn.1.1 (fun j hj => dN_pv hR (by omega) n (by omega))] at m3
  by_cases w1' : w = nI 1
  · subst w1'
    refine jo_ask ha0 (cw_cb w1) m3 (r := pc_I (sa_clo (dN (ro_of fo RS) k m a n) k)) ?_ ?_
    · unfold mm_S_ahead mm_F_closedAfter
      simp (disch := omega) only [pb_its, pb_l2, pb_ll, nI_add, pb_mul, if_true, if_false, pb_bs, pb_b2n, pb_bz0, pb_bz1, pb_10, pb_01, pb_i31, ck_is0 hk, ck_r0_0 hk, ck_r0_1 hk, ck_r0_2 hk, ck_r0_3 hk, ck_r0_4 hk, ck_r0_5 hk, ck_r0_6 hk, ck_r0_7 hk, ck_r0_8 hk, ck_r0_9 hk, ck_is1 hk, ck_r1_0 hk, ck_is3 hk, ck_r3_0 hk, ck_r3_1 hk, ck_is20 hk, ck_r20_0 hk, ck_r20_1 hk, ck_r20_2 hk, ck_is24 hk, ck_r24_1 hk, ck_r24_2 hk, ck_r24_3 hk, ck_r24_4 hk, ck_is33 hk, ck_r33_0 hk, ck_r33_1 hk, ck_is40 hk, ck_r40_0 hk, ck_is102 hk, ck_r102_0 hk, ck_r102_1 hk, ck_r102_2 hk, ck_r102_3 hk, ck_r102_4 hk, ck_r102_5 hk, ck_is103 hk, ck_r103_0 hk, ck_r103_1 hk, ck_is111 hk, ck_r111_0 hk, ck_r111_1 hk, ck_r111_2 hk, ck_r111_3 hk, ck_r111_4 hk, ck_is114 hk, ck_r114_0 hk, ck_r114_1 hk, ck_r114_2 hk, ck_r114_3 hk, ck_r114_4 hk, bV, bI, bT, bF, bD, bS, bH, bR0, bR1, bR2, bR3, bR4, bFo, bX, bNo, bG0, bG1, bG2, bG3, t1, pq_withinC, pb_ct cy, e1, ck_is0 hk1, ck_r0_0 hk1, ck_r0_1 hk1, ck_r0_2 hk1, ck_r0_3 hk1, ck_r0_4 hk1, ck_r0_5 hk1, ck_r0_6 hk1, ck_r0_7 hk1, ck_r0_8 hk1, ck_r0_9 hk1, ck_is1 hk1, ck_r1_0 hk1, ck_is3 hk1, ck_r3_0 hk1, ck_r3_1 hk1, ck_is20 hk1, ck_r20_0 hk1, ck_r20_1 hk1, ck_r20_2 hk1, ck_is24 hk1, ck_r24_1 hk1, ck_r24_2 hk1, ck_r24_3 hk1, ck_r24_4 hk1, ck_is33 hk1, ck_r33_0 hk1, ck_r33_1 hk1, ck_is40 hk1, ck_r40_0 hk1, ck_is102 hk1, ck_r102_0 hk1, ck_r102_1 hk1, ck_r102_2 hk1, ck_r102_3 hk1, ck_r102_4 hk1, ck_r102_5 hk1, ck_is103 hk1, ck_r103_0 hk1, ck_r103_1 hk1, ck_is111 hk1, ck_r111_0 hk1, ck_r111_1 hk1, ck_r111_2 hk1, ck_r111_3 hk1, ck_r111_4 hk1, ck_is114 hk1, ck_r114_0 hk1, ck_r114_1 hk1, ck_r114_2 hk1, ck_r114_3 hk1, ck_r114_4 hk1, cw_closed w1 Hk hRn.1.2.1.2 (by omega : 8 < N), bc1]
    · unfold mm_M_ahead mm_M_ahead_j43 mm_M_ahead_j90
      simp (disch := omega) only [pb_its, pb_l2, pb_ll, nI_add, pb_mul, if_true, if_false, pb_bs, pb_b2n, pb_bz0, pb_bz1, pb_10, pb_01, pb_i31, mk_is hk2, mk_g0 hk2, mk_g1 hk2, mk_g2 hk2, mk_g3 hk2, mk_g4 hk2, mk_g5 hk2, mk_g6 hk2, mk_g7 hk2, mk_g8 hk2, mk_g9 hk2, mk_g10 hk2, mk_g11 hk2, mk_g12 hk2, mk_g13 hk2, mk_g14 hk2, mk_g15 hk2, mk_g16 hk2, mk_g17 hk2, mk_g18 hk2, mk_g19 hk2, mk_g20 hk2, mk_g21 hk2, mk_g22 hk2, mb_isValley hm1 Hl, t1, po_inC, pb_ct cy, pb_ct (sp_in_of (by omega) (by omega) (by omega) : sp_in (nI 1) 0 1), f1, f2, mb_closed m2 hRn.1.1 Hk hRn.1.2.1.2 (by omega : 8 < N), bc2, f3]
  by_cases w0' : w = nI 0
  · subst w0'
    by_cases cs : ¬ sp_st a z
    · refine jo_no hc hm ha0 (r := -nI 1) ?_ ?_
      · unfold mm_S_ahead mm_S_ahead_j63 mm_S_ahead_j64
        simp (disch := omega) only [pb_its, pb_l2, pb_ll, nI_add, pb_mul, if_true, if_false, pb_bs, pb_b2n, pb_bz0, pb_bz1, pb_10, pb_01, pb_i31, ck_is0 hk, ck_r0_0 hk, ck_r0_1 hk, ck_r0_2 hk, ck_r0_3 hk, ck_r0_4 hk, ck_r0_5 hk, ck_r0_6 hk, ck_r0_7 hk, ck_r0_8 hk, ck_r0_9 hk, ck_is1 hk, ck_r1_0 hk, ck_is3 hk, ck_r3_0 hk, ck_r3_1 hk, ck_is20 hk, ck_r20_0 hk, ck_r20_1 hk, ck_r20_2 hk, ck_is24 hk, ck_r24_1 hk, ck_r24_2 hk, ck_r24_3 hk, ck_r24_4 hk, ck_is33 hk, ck_r33_0 hk, ck_r33_1 hk, ck_is40 hk, ck_r40_0 hk, ck_is102 hk, ck_r102_0 hk, ck_r102_1 hk, ck_r102_2 hk, ck_r102_3 hk, ck_r102_4 hk, ck_r102_5 hk, ck_is103 hk, ck_r103_0 hk, ck_r103_1 hk, ck_is111 hk, ck_r111_0 hk, ck_r111_1 hk, ck_r111_2 hk, ck_r111_3 hk, ck_r111_4 hk, ck_is114 hk, ck_r114_0 hk, ck_r114_1 hk, ck_r114_2 hk, ck_r114_3 hk, ck_r114_4 hk, bV, bI, bT, bF, bD, bS, bH, bR0, bR1, bR2, bR3, bR4, bFo, bX, bNo, bG0, bG1, bG2, bG3, t1, pq_withinC, pb_ct cy, cb_isStep hb, pb_cf cs]
      · unfold mm_M_ahead mm_M_ahead_j41
        simp (disch := omega) only [pb_its, pb_l2, pb_ll, nI_add, pb_mul, if_true, if_false, pb_bs, pb_b2n, pb_bz0, pb_bz1, pb_10, pb_01, pb_i31, mk_is hk2, mk_g0 hk2, mk_g1 hk2, mk_g2 hk2, mk_g3 hk2, mk_g4 hk2, mk_g5 hk2, mk_g6 hk2, mk_g7 hk2, mk_g8 hk2, mk_g9 hk2, mk_g10 hk2, mk_g11 hk2, mk_g12 hk2, mk_g13 hk2, mk_g14 hk2, mk_g15 hk2, mk_g16 hk2, mk_g17 hk2, mk_g18 hk2, mk_g19 hk2, mk_g20 hk2, mk_g21 hk2, mk_g22 hk2, mb_isValley hm1 Hl, t1, po_inC, pb_ct cy, pb_ct (sp_in_of (by omega) (by omega) (by omega) : sp_in (nI 0) 0 1), mb_isStepC hm1 Hl, pb_cf cs]
    replace cs := Classical.not_not.mp cs
    obtain ⟨s, hs, rfl⟩ := sp_st_n Hk H2 cs
    refine jo_ask ha0 (cw_cb w1) m3 (r := pv (dN (ro_of fo RS) k m a n) (14 + s)) ?_ ?_
    · unfold mm_S_ahead mm_S_ahead_j64 mm_F_snowAfter
      simp (disch := omega) only [pb_its, pb_l2, pb_ll, nI_add, pb_mul, if_true, if_false, pb_bs, pb_b2n, pb_bz0, pb_bz1, pb_10, pb_01, pb_i31, ck_is0 hk, ck_r0_0 hk, ck_r0_1 hk, ck_r0_2 hk, ck_r0_3 hk, ck_r0_4 hk, ck_r0_5 hk, ck_r0_6 hk, ck_r0_7 hk, ck_r0_8 hk, ck_r0_9 hk, ck_is1 hk, ck_r1_0 hk, ck_is3 hk, ck_r3_0 hk, ck_r3_1 hk, ck_is20 hk, ck_r20_0 hk, ck_r20_1 hk, ck_r20_2 hk, ck_is24 hk, ck_r24_1 hk, ck_r24_2 hk, ck_r24_3 hk, ck_r24_4 hk, ck_is33 hk, ck_r33_0 hk, ck_r33_1 hk, ck_is40 hk, ck_r40_0 hk, ck_is102 hk, ck_r102_0 hk, ck_r102_1 hk, ck_r102_2 hk, ck_r102_3 hk, ck_r102_4 hk, ck_r102_5 hk, ck_is103 hk, ck_r103_0 hk, ck_r103_1 hk, ck_is111 hk, ck_r111_0 hk, ck_r111_1 hk, ck_r111_2 hk, ck_r111_3 hk, ck_r111_4 hk, ck_is114 hk, ck_r114_0 hk, ck_r114_1 hk, ck_r114_2 hk, ck_r114_3 hk, ck_r114_4 hk, bV, bI, bT, bF, bD, bS, bH, bR0, bR1, bR2, bR3, bR4, bFo, bX, bNo, bG0, bG1, bG2, bG3, t1, pq_withinC, pb_ct cy, cb_isStep hb, pb_ct cs, e1, ck_is0 hk1, ck_r0_0 hk1, ck_r0_1 hk1, ck_r0_2 hk1, ck_r0_3 hk1, ck_r0_4 hk1, ck_r0_5 hk1, ck_r0_6 hk1, ck_r0_7 hk1, ck_r0_8 hk1, ck_r0_9 hk1, ck_is1 hk1, ck_r1_0 hk1, ck_is3 hk1, ck_r3_0 hk1, ck_r3_1 hk1, ck_is20 hk1, ck_r20_0 hk1, ck_r20_1 hk1, ck_r20_2 hk1, ck_is24 hk1, ck_r24_1 hk1, ck_r24_2 hk1, ck_r24_3 hk1, ck_r24_4 hk1, ck_is33 hk1, ck_r33_0 hk1, ck_r33_1 hk1, ck_is40 hk1, ck_r40_0 hk1, ck_is102 hk1, ck_r102_0 hk1, ck_r102_1 hk1, ck_r102_2 hk1, ck_r102_3 hk1, ck_r102_4 hk1, ck_r102_5 hk1, ck_is103 hk1, ck_r103_0 hk1, ck_r103_1 hk1, ck_is111 hk1, ck_r111_0 hk1, ck_r111_1 hk1, ck_r111_2 hk1, ck_r111_3 hk1, ck_r111_4 hk1, ck_is114 hk1, ck_r114_0 hk1, ck_r114_1 hk1, ck_r114_2 hk1, ck_r114_3 hk1, ck_r114_4 hk1, cw_snow w1 (show s < 8 by omega)]
    · unfold mm_M_ahead mm_M_ahead_j43 mm_M_ahead_j90
      simp (disch := omega) only [pb_its, pb_l2, pb_ll, nI_add, pb_mul, if_true, if_false, pb_bs, pb_b2n, pb_bz0, pb_bz1, pb_10, pb_01, pb_i31, mk_is hk2, mk_g0 hk2, mk_g1 hk2, mk_g2 hk2, mk_g3 hk2, mk_g4 hk2, mk_g5 hk2, mk_g6 hk2, mk_g7 hk2, mk_g8 hk2, mk_g9 hk2, mk_g10 hk2, mk_g11 hk2, mk_g12 hk2, mk_g13 hk2, mk_g14 hk2, mk_g15 hk2, mk_g16 hk2, mk_g17 hk2, mk_g18 hk2, mk_g19 hk2, mk_g20 hk2, mk_g21 hk2, mk_g22 hk2, mb_isValley hm1 Hl, t1, po_inC, pb_ct cy, pb_ct (sp_in_of (by omega) (by omega) (by omega) : sp_in (nI 0) 0 1), mb_isStepC hm1 Hl, pb_ct cs, f1, f2, mk_is hk3, mk_g0 hk3, mk_g1 hk3, mk_g2 hk3, mk_g3 hk3, mk_g4 hk3, mk_g5 hk3, mk_g6 hk3, mk_g7 hk3, mk_g8 hk3, mk_g9 hk3, mk_g10 hk3, mk_g11 hk3, mk_g12 hk3, mk_g13 hk3, mk_g14 hk3, mk_g15 hk3, mk_g16 hk3, mk_g17 hk3, mk_g18 hk3, mk_g19 hk3, mk_g20 hk3, mk_g21 hk3, mk_g22 hk3, mb_said m2 hRn.1.1 (show 14 + s < 124 by omega), f3]
  · refine jo_no hc hm ha0 (r := -nI 1) ?_ ?_
    · unfold mm_S_ahead mm_S_ahead_j63 mm_S_ahead_j64
      simp (disch := omega) only [pb_its, pb_l2, pb_ll, nI_add, pb_mul, if_true, if_false, pb_bs, pb_b2n, pb_bz0, pb_bz1, pb_10, pb_01, pb_i31, ck_is0 hk, ck_r0_0 hk, ck_r0_1 hk, ck_r0_2 hk, ck_r0_3 hk, ck_r0_4 hk, ck_r0_5 hk, ck_r0_6 hk, ck_r0_7 hk, ck_r0_8 hk, ck_r0_9 hk, ck_is1 hk, ck_r1_0 hk, ck_is3 hk, ck_r3_0 hk, ck_r3_1 hk, ck_is20 hk, ck_r20_0 hk, ck_r20_1 hk, ck_r20_2 hk, ck_is24 hk, ck_r24_1 hk, ck_r24_2 hk, ck_r24_3 hk, ck_r24_4 hk, ck_is33 hk, ck_r33_0 hk, ck_r33_1 hk, ck_is40 hk, ck_r40_0 hk, ck_is102 hk, ck_r102_0 hk, ck_r102_1 hk, ck_r102_2 hk, ck_r102_3 hk, ck_r102_4 hk, ck_r102_5 hk, ck_is103 hk, ck_r103_0 hk, ck_r103_1 hk, ck_is111 hk, ck_r111_0 hk, ck_r111_1 hk, ck_r111_2 hk, ck_r111_3 hk, ck_r111_4 hk, ck_is114 hk, ck_r114_0 hk, ck_r114_1 hk, ck_r114_2 hk, ck_r114_3 hk, ck_r114_4 hk, bV, bI, bT, bF, bD, bS, bH, bR0, bR1, bR2, bR3, bR4, bFo, bX, bNo, bG0, bG1, bG2, bG3, t1, pq_withinC, pb_ct cy, w1', w0']
    · unfold mm_M_ahead mm_M_ahead_j41
      simp (disch := omega) only [pb_its, pb_l2, pb_ll, nI_add, pb_mul, if_true, if_false, pb_bs, pb_b2n, pb_bz0, pb_bz1, pb_10, pb_01, pb_i31, mk_is hk2, mk_g0 hk2, mk_g1 hk2, mk_g2 hk2, mk_g3 hk2, mk_g4 hk2, mk_g5 hk2, mk_g6 hk2, mk_g7 hk2, mk_g8 hk2, mk_g9 hk2, mk_g10 hk2, mk_g11 hk2, mk_g12 hk2, mk_g13 hk2, mk_g14 hk2, mk_g15 hk2, mk_g16 hk2, mk_g17 hk2, mk_g18 hk2, mk_g19 hk2, mk_g20 hk2, mk_g21 hk2, mk_g22 hk2, mb_isValley hm1 Hl, t1, po_inC, pb_ct cy, pb_cf (sp_01 w0' w1')]
