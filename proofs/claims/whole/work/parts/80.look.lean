/-! ===== ruled, look ===== -/
theorem ct_to {P : Nat → Prop} {L : Nat} (h : ∀ q, L ≤ q → ¬ P q) : ∀ j, ct P (L + j) = ct P L := by
  intro j
  induction j with
  | zero => rfl
  | succ j ih => rw [show L + (j + 1) = (L + j) + 1 by omega, ct, pI_f (h _ (by omega)), ih, Nat.add_zero]
theorem ct_pos {P : Nat → Prop} {L q : Nat} (hq : q < L) (hp : P q) : 0 < ct P L := by
  induction L with
  | zero => omega
  | succ L ih =>
    rw [ct]
    by_cases e : q = L
    · subst e
      rw [pI_t hp]
      omega
    · have := ih (by omega)
      omega
theorem ct_le {P : Nat → Prop} : ∀ L, ct P L ≤ L := by
  intro L
  induction L with
  | zero => exact Nat.le_refl _
  | succ L ih =>
    rw [ct]
    by_cases c : P L
    · rw [pI_t c]; omega
    · rw [pI_f c]; omega
theorem ct_zero {P : Nat → Prop} {L : Nat} (h : ∀ q, q < L → ¬ P q) : ct P L = 0 := by
  induction L with
  | zero => rfl
  | succ L ih => rw [ct, pI_f (h L (by omega)), ih (fun q hq => h q (by omega))]
noncomputable def lE (P : Nat → Prop) (M : Nat) : Nat → Int32
  | 0 => -nI 2
  | j + 1 => pI (P (M - 1 - j)) (nI (M - 1 - j) - nI 1) (lE P M j)
theorem lE_no {P : Nat → Prop} { M : Nat} (h : ∀ q, q < M → ¬ P q) : ∀ j, j ≤ M → lE P M j = -nI 2 := by
  intro j
  induction j with
  | zero => intro _; rfl
  | succ j ih => intro hj; rw [lE, pI_f (h _ (by omega)), ih (by omega)]
theorem lE_at {P : Nat → Prop} { M s : Nat} (hs : s < M) (hp : P s) (h : ∀ q, q < s → ¬ P q) : ∀ j, M - s ≤ j → j ≤ M → lE P M j = nI s - nI 1 := by
  intro j
  induction j with
  | zero => intro h1 _; omega
  | succ j ih =>
    intro h1 h2
    rw [lE]
    by_cases c : M - 1 - j = s
    · rw [c, pI_t hp]
    · rw [pI_f (h _ (by omega)), ih (by omega) (by omega)]
theorem cb_rightCount {N : Nat} {h0 h : ss_Hp} {T : List Nat} {a : List Int32} {fo x : Int32} {RS : List (List ru_C)} {US : List (List Int32)} {I : Nat → Option (List Int32 × Int32 × Int32)} {Z : Nat → List Int32} {P : Nat → Prop} (hc : cb_h h0 h T a fo x RS US I Z) (hr : ∀ g, g < 7 → pv (Z 1) g = pI (P g) (nI 1) (nI 0)) (hN : 5000 < N) : mm_F_rightCount N (some 111) h = some (nI (ct P 7)) := by
  have hk := cb_ck hc
  have l : ss_lp (mm_F_rightCount_b4 N (some 111) h) N (nI 0, nI 0) = some (nI (ct P 7)) := by
    refine pb_lp (fun g => (nI (ct P g), nI g)) 7 (by omega) (fun g hg => ?_) ?_
    · have hlt : ¬ nI 7 ≤ nI g := nI_ge hg (by omega)
      have z1 := cb_z1 hc hg
      rw [hr g hg] at z1
      unfold mm_F_rightCount_b4 mm_F_rightCount_j25
      rw [ct]
      by_cases c : P g
      · rw [pI_t c] at z1 ⊢
        simp (disch := omega) only [pb_its, pb_l2, pb_ll, nI_add, pb_mul, if_true, if_false, pb_bs, pb_b2n, pb_bz0, pb_bz1, pb_10, pb_01, pb_i31, ck_is0 hk, ck_r0_0 hk, ck_r0_1 hk, ck_r0_2 hk, ck_r0_3 hk, ck_r0_4 hk, ck_r0_5 hk, ck_r0_6 hk, ck_r0_7 hk, ck_r0_8 hk, ck_r0_9 hk, ck_is1 hk, ck_r1_0 hk, ck_is3 hk, ck_r3_0 hk, ck_r3_1 hk, ck_is20 hk, ck_r20_0 hk, ck_r20_1 hk, ck_r20_2 hk, ck_is24 hk, ck_r24_1 hk, ck_r24_2 hk, ck_r24_3 hk, ck_r24_4 hk, ck_is33 hk, ck_r33_0 hk, ck_r33_1 hk, ck_is40 hk, ck_r40_0 hk, ck_is102 hk, ck_r102_0 hk, ck_r102_1 hk, ck_r102_2 hk, ck_r102_3 hk, ck_r102_4 hk, ck_r102_5 hk, ck_is103 hk, ck_r103_0 hk, ck_r103_1 hk, ck_is111 hk, ck_r111_0 hk, ck_r111_1 hk, ck_r111_2 hk, ck_r111_3 hk, ck_r111_4 hk, ck_is114 hk, ck_r114_0 hk, ck_r114_1 hk, ck_r114_2 hk, ck_r114_3 hk, ck_r114_4 hk, hlt, z1]
      · rw [pI_f c] at z1 ⊢
        simp (disch := omega) only [pb_its, pb_l2, pb_ll, nI_add, pb_mul, if_true, if_false, pb_bs, pb_b2n, pb_bz0, pb_bz1, pb_10, pb_01, pb_i31, ck_is0 hk, ck_r0_0 hk, ck_r0_1 hk, ck_r0_2 hk, ck_r0_3 hk, ck_r0_4 hk, ck_r0_5 hk, ck_r0_6 hk, ck_r0_7 hk, ck_r0_8 hk, ck_r0_9 hk, ck_is1 hk, ck_r1_0 hk, ck_is3 hk, ck_r3_0 hk, ck_r3_1 hk, ck_is20 hk, ck_r20_0 hk, ck_r20_1 hk, ck_r20_2 hk, ck_is24 hk, ck_r24_1 hk, ck_r24_2 hk, ck_r24_3 hk, ck_r24_4 hk, ck_is33 hk, ck_r33_0 hk, ck_r33_1 hk, ck_is40 hk, ck_r40_0 hk, ck_is102 hk, ck_r102_0 hk, ck_r102_1 hk, ck_r102_2 hk, ck_r102_3 hk, ck_r102_4 hk, ck_r102_5 hk, ck_is103 hk, ck_r103_0 hk, ck_r103_1 hk, ck_is111 hk, ck_r111_0 hk, ck_r111_1 hk, ck_r111_2 hk, ck_r111_3 hk, ck_r111_4 hk, ck_is114 hk, ck_r114_0 hk, ck_r114_1 hk, ck_r114_2 hk, ck_r114_3 hk, ck_r114_4 hk, hlt, z1]
    · unfold mm_F_rightCount_b4
      simp (disch := omega) only [pb_its, pb_l2, pb_ll, nI_add, pb_mul, if_true, if_false, pb_bs, pb_b2n, pb_bz0, pb_bz1, pb_10, pb_01, pb_i31, nI_le (Nat.le_refl 7) (by omega : 7 < 2 ^ 31)]
  unfold mm_F_rightCount
  simp (disch := omega) only [pb_its, pb_l2, pb_ll, nI_add, pb_mul, if_true, if_false, pb_bs, pb_b2n, pb_bz0, pb_bz1, pb_10, pb_01, pb_i31, ck_is0 hk, ck_r0_0 hk, ck_r0_1 hk, ck_r0_2 hk, ck_r0_3 hk, ck_r0_4 hk, ck_r0_5 hk, ck_r0_6 hk, ck_r0_7 hk, ck_r0_8 hk, ck_r0_9 hk, ck_is1 hk, ck_r1_0 hk, ck_is3 hk, ck_r3_0 hk, ck_r3_1 hk, ck_is20 hk, ck_r20_0 hk, ck_r20_1 hk, ck_r20_2 hk, ck_is24 hk, ck_r24_1 hk, ck_r24_2 hk, ck_r24_3 hk, ck_r24_4 hk, ck_is33 hk, ck_r33_0 hk, ck_r33_1 hk, ck_is40 hk, ck_r40_0 hk, ck_is102 hk, ck_r102_0 hk, ck_r102_1 hk, ck_r102_2 hk, ck_r102_3 hk, ck_r102_4 hk, ck_r102_5 hk, ck_is103 hk, ck_r103_0 hk, ck_r103_1 hk, ck_is111 hk, ck_r111_0 hk, ck_r111_1 hk, ck_r111_2 hk, ck_r111_3 hk, ck_r111_4 hk, ck_is114 hk, ck_r114_0 hk, ck_r114_1 hk, ck_r114_2 hk, ck_r114_3 hk, ck_r114_4 hk, l]
theorem jx_ruled {N : Nat} {h h2 : ss_Hp} {w : Int32} {T : List Nat} {a : List Int32} {fo x : Int32} {RS : List (List ru_C)} {US : List (List Int32)} {I : Nat → Option (List Int32 × Int32 × Int32)} (hc : cl_h h T a fo x RS US I) (hm : mo_h h2 T a fo x RS US I) (ha : as_ok T a fo x RS US I) (hN : 5000 < N) : jo (mm_S_ruled N (some 0) w h) (mm_M_ruled N (some 118) w h2) h h2 := by
  obtain ⟨Z, hb⟩ := cb_of hc
  obtain ⟨v, ⟨⟨bV, bI, bT, bF, bD, bS, bH⟩, ⟨bR0, bR1, bR2, bR3, bR4⟩, ⟨bFo, bX, bNo⟩, ⟨bG0, bG1, bG2, bG3⟩, bOwn, bStr, bBes, bSn, bWl, bNd, bCl⟩⟩ := cb_r hb
  have hk := cb_ck hb
  obtain ⟨th, fa, kp, dx, Y, hm1⟩ := mb_of hm
  have hk2 := mb_mk hm1
  have ha0 := ha
  obtain ⟨⟨Ht1, Ht2⟩, ⟨k, m, d, Hsd, Hul, Hu⟩, HRS, Hfo, Hx, HI⟩ := ha
  have Hok := Hsd.1
  obtain ⟨Hl, ⟨Hk, H2⟩, ⟨Hm, H3⟩, ⟨Hd, H10⟩, Hwl, Hbe, How⟩ := Hok
  by_cases ht : pv a 0 ≤ nI 0
  · have t0 : sa_told a = nI 0 := if_pos ht
    refine jo_no hc hm ha0 (r := -nI 3) ?_ ?_
    · unfold mm_S_ruled mm_S_ruled_j22
      simp (disch := omega) only [pb_its, pb_l2, pb_ll, nI_add, pb_mul, if_true, if_false, pb_bs, pb_b2n, pb_bz0, pb_bz1, pb_10, pb_01, pb_i31, ck_is0 hk, ck_r0_0 hk, ck_r0_1 hk, ck_r0_2 hk, ck_r0_3 hk, ck_r0_4 hk, ck_r0_5 hk, ck_r0_6 hk, ck_r0_7 hk, ck_r0_8 hk, ck_r0_9 hk, ck_is1 hk, ck_r1_0 hk, ck_is3 hk, ck_r3_0 hk, ck_r3_1 hk, ck_is20 hk, ck_r20_0 hk, ck_r20_1 hk, ck_r20_2 hk, ck_is24 hk, ck_r24_1 hk, ck_r24_2 hk, ck_r24_3 hk, ck_r24_4 hk, ck_is33 hk, ck_r33_0 hk, ck_r33_1 hk, ck_is40 hk, ck_r40_0 hk, ck_is102 hk, ck_r102_0 hk, ck_r102_1 hk, ck_r102_2 hk, ck_r102_3 hk, ck_r102_4 hk, ck_r102_5 hk, ck_is103 hk, ck_r103_0 hk, ck_r103_1 hk, ck_is111 hk, ck_r111_0 hk, ck_r111_1 hk, ck_r111_2 hk, ck_r111_3 hk, ck_r111_4 hk, ck_is114 hk, ck_r114_0 hk, ck_r114_1 hk, ck_r114_2 hk, ck_r114_3 hk, ck_r114_4 hk, bV, bI, bT, bF, bD, bS, bH, bR0, bR1, bR2, bR3, bR4, bFo, bX, bNo, bG0, bG1, bG2, bG3, t0]
    · unfold mm_M_ruled mm_M_ruled_j17
      simp (disch := omega) only [pb_its, pb_l2, pb_ll, nI_add, pb_mul, if_true, if_false, pb_bs, pb_b2n, pb_bz0, pb_bz1, pb_10, pb_01, pb_i31, mk_is hk2, mk_g0 hk2, mk_g1 hk2, mk_g2 hk2, mk_g3 hk2, mk_g4 hk2, mk_g5 hk2, mk_g6 hk2, mk_g7 hk2, mk_g8 hk2, mk_g9 hk2, mk_g10 hk2, mk_g11 hk2, mk_g12 hk2, mk_g13 hk2, mk_g14 hk2, mk_g15 hk2, mk_g16 hk2, mk_g17 hk2, mk_g18 hk2, mk_g19 hk2, mk_g20 hk2, mk_g21 hk2, mk_g22 hk2, mb_isValley hm1 Hl, t0]
  have t1 : sa_told a = nI 1 := if_neg ht
  by_cases cw : ¬ sp_in w 0 1
  · refine jo_no hc hm ha0 (r := -nI 3) ?_ ?_
    · unfold mm_S_ruled mm_S_ruled_j22
      simp (disch := omega) only [pb_its, pb_l2, pb_ll, nI_add, pb_mul, if_true, if_false, pb_bs, pb_b2n, pb_bz0, pb_bz1, pb_10, pb_01, pb_i31, ck_is0 hk, ck_r0_0 hk, ck_r0_1 hk, ck_r0_2 hk, ck_r0_3 hk, ck_r0_4 hk, ck_r0_5 hk, ck_r0_6 hk, ck_r0_7 hk, ck_r0_8 hk, ck_r0_9 hk, ck_is1 hk, ck_r1_0 hk, ck_is3 hk, ck_r3_0 hk, ck_r3_1 hk, ck_is20 hk, ck_r20_0 hk, ck_r20_1 hk, ck_r20_2 hk, ck_is24 hk, ck_r24_1 hk, ck_r24_2 hk, ck_r24_3 hk, ck_r24_4 hk, ck_is33 hk, ck_r33_0 hk, ck_r33_1 hk, ck_is40 hk, ck_r40_0 hk, ck_is102 hk, ck_r102_0 hk, ck_r102_1 hk, ck_r102_2 hk, ck_r102_3 hk, ck_r102_4 hk, ck_r102_5 hk, ck_is103 hk, ck_r103_0 hk, ck_r103_1 hk, ck_is111 hk, ck_r111_0 hk, ck_r111_1 hk, ck_r111_2 hk, ck_r111_3 hk, ck_r111_4 hk, ck_is114 hk, ck_r114_0 hk, ck_r114_1 hk, ck_r114_2 hk, ck_r114_3 hk, ck_r114_4 hk, bV, bI, bT, bF, bD, bS, bH, bR0, bR1, bR2, bR3, bR4, bFo, bX, bNo, bG0, bG1, bG2, bG3, t1, pq_withinC, pb_cf cw]
    · unfold mm_M_ruled mm_M_ruled_j17
      simp (disch := omega) only [pb_its, pb_l2, pb_ll, nI_add, pb_mul, if_true, if_false, pb_bs, pb_b2n, pb_bz0, pb_bz1, pb_10, pb_01, pb_i31, mk_is hk2, mk_g0 hk2, mk_g1 hk2, mk_g2 hk2, mk_g3 hk2, mk_g4 hk2, mk_g5 hk2, mk_g6 hk2, mk_g7 hk2, mk_g8 hk2, mk_g9 hk2, mk_g10 hk2, mk_g11 hk2, mk_g12 hk2, mk_g13 hk2, mk_g14 hk2, mk_g15 hk2, mk_g16 hk2, mk_g17 hk2, mk_g18 hk2, mk_g19 hk2, mk_g20 hk2, mk_g21 hk2, mk_g22 hk2, mb_isValley hm1 Hl, t1, po_inC, pb_cf cw]
  replace cw := Classical.not_not.mp cw
  obtain ⟨Q, hq⟩ := nR_of Hsd
  have r1 := (cb_more hb).1
  obtain ⟨h1, Z1, e1, c1, rr1, rr2⟩ := cb_judge (N := N) (n := 0) hb Hsd ht hq HRS (by omega) hN
  obtain ⟨g1, th1, fa1, Y1, f1, m1, ss1, ss2⟩ := mb_fits (N := N) (n := 0) hm1 Hsd ht hq HRS (by omega) hN
  have k1 := cb_ck c1
  have k2 := mb_mk m1
  have gi := (mb_gi m1).2.1
  have hP : ∃ P, P = pG a RS k m Q := ⟨_, rfl⟩
  obtain ⟨P, hP⟩ := hP
  rw [← hP] at rr1
  have RC := cb_rightCount (N := N) c1 rr1 hN
  have PL : ∀ q, RS.length + 1 ≤ q → ¬ P q := fun q hq p => by
    rw [hP] at p
    have := p.1
    omega
  have cto := ct_to PL (7 - (RS.length + 1))
  rw [show RS.length + 1 + (7 - (RS.length + 1)) = 7 by omega] at cto
  rw [cto] at RC
  have ml : ss_lp (mm_M_ruled_b36 N (some 118) w g1) N (nI 0, -nI 2, nI (RS.length + 1 - 0) - nI 1) = some (nI (cD P (RS.length + 1) (RS.length + 1)), lE P (RS.length + 1) (RS.length + 1)) := by
    refine pb_lp (fun j => (nI (cD P (RS.length + 1) j), lE P (RS.length + 1) j, nI (RS.length + 1 - j) - nI 1)) (RS.length + 1) (by omega) (fun j hj => ?_) ?_
    · have e8 : nI (RS.length + 1 - j) - nI 1 = nI (RS.length + 1 - 1 - j) := by
        rw [pb_subn (by omega)]
        congr 1
        omega
      have e9 : nI (RS.length + 1 - 1 - j) + -nI 1 = nI (RS.length + 1 - (j + 1)) - nI 1 := by
        rw [← Int32.sub_eq_add_neg]
        congr 2
        omega
      have n0 : ¬ nI (RS.length + 1 - 1 - j) < nI 0 := nI_nlt (by omega) (by omega)
      have z3 := mb_z3 m1 (show RS.length + 1 - 1 - j < 7 by omega)
      rw [ss1 _ (by omega)] at z3
      have hpf : P (RS.length + 1 - 1 - j) ↔ fG a RS k m Q (RS.length + 1 - 1 - j) := by
        rw [hP]
        exact ⟨fun p => p.2, fun p => ⟨by omega, p⟩⟩
      simp only [e8]
      rw [cD, lE]
      unfold mm_M_ruled_b36 mm_M_ruled_j62
      by_cases cp : P (RS.length + 1 - 1 - j)
      · rw [pI_t (hpf.mp cp)] at z3
        rw [pI_t cp, pI_t cp]
        simp (disch := omega) only [pb_its, pb_l2, pb_ll, nI_add, pb_mul, if_true, if_false, pb_bs, pb_b2n, pb_bz0, pb_bz1, pb_10, pb_01, pb_i31, n0, mk_is k2, mk_g0 k2, mk_g1 k2, mk_g2 k2, mk_g3 k2, mk_g4 k2, mk_g5 k2, mk_g6 k2, mk_g7 k2, mk_g8 k2, mk_g9 k2, mk_g10 k2, mk_g11 k2, mk_g12 k2, mk_g13 k2, mk_g14 k2, mk_g15 k2, mk_g16 k2, mk_g17 k2, mk_g18 k2, mk_g19 k2, mk_g20 k2, mk_g21 k2, mk_g22 k2, z3, e9]
      · rw [pI_f (fun f => cp (hpf.mpr f))] at z3
        rw [pI_f cp, pI_f cp]
        simp (disch := omega) only [pb_its, pb_l2, pb_ll, nI_add, pb_mul, if_true, if_false, pb_bs, pb_b2n, pb_bz0, pb_bz1, pb_10, pb_01, pb_i31, n0, mk_is k2, mk_g0 k2, mk_g1 k2, mk_g2 k2, mk_g3 k2, mk_g4 k2, mk_g5 k2, mk_g6 k2, mk_g7 k2, mk_g8 k2, mk_g9 k2, mk_g10 k2, mk_g11 k2, mk_g12 k2, mk_g13 k2, mk_g14 k2, mk_g15 k2, mk_g16 k2, mk_g17 k2, mk_g18 k2, mk_g19 k2, mk_g20 k2, mk_g21 k2, mk_g22 k2, z3, e9, Nat.add_zero]
    · have n0 : nI (RS.length + 1 - (RS.length + 1)) - nI 1 < nI 0 := by
        rw [Nat.sub_self]
        decide
      unfold mm_M_ruled_b36
      simp (disch := omega) only [pb_its, pb_l2, pb_ll, nI_add, pb_mul, if_true, if_false, pb_bs, pb_b2n, pb_bz0, pb_bz1, pb_10, pb_01, pb_i31, n0]
  have e0 : nI (RS.length + 1 - 0) - nI 1 = nI RS.length := pb_subn (by omega)
  rw [e0] at ml
  have ec := cD_s (P := P) (M := RS.length + 1) (RS.length + 1) (Nat.le_refl _)
  rw [Nat.sub_self, ct, Nat.add_zero] at ec
  rw [ec] at ml
  by_cases c0 : w = nI 0
  · subst c0
    refine jo_ask ha0 c1 m1 (r := nI (ct P (RS.length + 1))) ?_ ?_
    · unfold mm_S_ruled mm_S_ruled_j58
      simp (disch := omega) only [pb_its, pb_l2, pb_ll, nI_add, pb_mul, if_true, if_false, pb_bs, pb_b2n, pb_bz0, pb_bz1, pb_10, pb_01, pb_i31, ck_is0 hk, ck_r0_0 hk, ck_r0_1 hk, ck_r0_2 hk, ck_r0_3 hk, ck_r0_4 hk, ck_r0_5 hk, ck_r0_6 hk, ck_r0_7 hk, ck_r0_8 hk, ck_r0_9 hk, ck_is1 hk, ck_r1_0 hk, ck_is3 hk, ck_r3_0 hk, ck_r3_1 hk, ck_is20 hk, ck_r20_0 hk, ck_r20_1 hk, ck_r20_2 hk, ck_is24 hk, ck_r24_1 hk, ck_r24_2 hk, ck_r24_3 hk, ck_r24_4 hk, ck_is33 hk, ck_r33_0 hk, ck_r33_1 hk, ck_is40 hk, ck_r40_0 hk, ck_is102 hk, ck_r102_0 hk, ck_r102_1 hk, ck_r102_2 hk, ck_r102_3 hk, ck_r102_4 hk, ck_r102_5 hk, ck_is103 hk, ck_r103_0 hk, ck_r103_1 hk, ck_is111 hk, ck_r111_0 hk, ck_r111_1 hk, ck_r111_2 hk, ck_r111_3 hk, ck_r111_4 hk, ck_is114 hk, ck_r114_0 hk, ck_r114_1 hk, ck_r114_2 hk, ck_r114_3 hk, ck_r114_4 hk, bV, bI, bT, bF, bD, bS, bH, bR0, bR1, bR2, bR3, bR4, bFo, bX, bNo, bG0, bG1, bG2, bG3, t1, pq_withinC, pb_ct cw, r1, e1, ck_is0 k1, ck_r0_0 k1, ck_r0_1 k1, ck_r0_2 k1, ck_r0_3 k1, ck_r0_4 k1, ck_r0_5 k1, ck_r0_6 k1, ck_r0_7 k1, ck_r0_8 k1, ck_r0_9 k1, ck_is1 k1, ck_r1_0 k1, ck_is3 k1, ck_r3_0 k1, ck_r3_1 k1, ck_is20 k1, ck_r20_0 k1, ck_r20_1 k1, ck_r20_2 k1, ck_is24 k1, ck_r24_1 k1, ck_r24_2 k1, ck_r24_3 k1, ck_r24_4 k1, ck_is33 k1, ck_r33_0 k1, ck_r33_1 k1, ck_is40 k1, ck_r40_0 k1, ck_is102 k1, ck_r102_0 k1, ck_r102_1 k1, ck_r102_2 k1, ck_r102_3 k1, ck_r102_4 k1, ck_r102_5 k1, ck_is103 k1, ck_r103_0 k1, ck_r103_1 k1, ck_is111 k1, ck_r111_0 k1, ck_r111_1 k1, ck_r111_2 k1, ck_r111_3 k1, ck_r111_4 k1, ck_is114 k1, ck_r114_0 k1, ck_r114_1 k1, ck_r114_2 k1, ck_r114_3 k1, ck_r114_4 k1, RC]
    · unfold mm_M_ruled mm_M_ruled_j77
      simp (disch := omega) only [pb_its, pb_l2, pb_ll, nI_add, pb_mul, if_true, if_false, pb_bs, pb_b2n, pb_bz0, pb_bz1, pb_10, pb_01, pb_i31, mk_is hk2, mk_g0 hk2, mk_g1 hk2, mk_g2 hk2, mk_g3 hk2, mk_g4 hk2, mk_g5 hk2, mk_g6 hk2, mk_g7 hk2, mk_g8 hk2, mk_g9 hk2, mk_g10 hk2, mk_g11 hk2, mk_g12 hk2, mk_g13 hk2, mk_g14 hk2, mk_g15 hk2, mk_g16 hk2, mk_g17 hk2, mk_g18 hk2, mk_g19 hk2, mk_g20 hk2, mk_g21 hk2, mk_g22 hk2, mb_isValley hm1 Hl, t1, po_inC, pb_ct cw, f1, gi, ml]
  · have ell : ∃ r, lE P (RS.length + 1) (RS.length + 1) = r ∧ mm_F_firstRight N (some 111) h1 = some r := by
      have stp : ∀ q, q < 7 → ¬ P q → mm_F_firstRight_b2 N (some 111) h1 (nI q) = some (.inl (nI (q + 1))) := by
        intro q hq hp
        have hlt : ¬ nI 7 ≤ nI q := nI_ge hq (by omega)
        have z1 := cb_z1 c1 hq
        rw [rr1 q hq, pI_f hp] at z1
        unfold mm_F_firstRight_b2
        simp (disch := omega) only [pb_its, pb_l2, pb_ll, nI_add, pb_mul, if_true, if_false, pb_bs, pb_b2n, pb_bz0, pb_bz1, pb_10, pb_01, pb_i31, ck_is0 k1, ck_r0_0 k1, ck_r0_1 k1, ck_r0_2 k1, ck_r0_3 k1, ck_r0_4 k1, ck_r0_5 k1, ck_r0_6 k1, ck_r0_7 k1, ck_r0_8 k1, ck_r0_9 k1, ck_is1 k1, ck_r1_0 k1, ck_is3 k1, ck_r3_0 k1, ck_r3_1 k1, ck_is20 k1, ck_r20_0 k1, ck_r20_1 k1, ck_r20_2 k1, ck_is24 k1, ck_r24_1 k1, ck_r24_2 k1, ck_r24_3 k1, ck_r24_4 k1, ck_is33 k1, ck_r33_0 k1, ck_r33_1 k1, ck_is40 k1, ck_r40_0 k1, ck_is102 k1, ck_r102_0 k1, ck_r102_1 k1, ck_r102_2 k1, ck_r102_3 k1, ck_r102_4 k1, ck_r102_5 k1, ck_is103 k1, ck_r103_0 k1, ck_r103_1 k1, ck_is111 k1, ck_r111_0 k1, ck_r111_1 k1, ck_r111_2 k1, ck_r111_3 k1, ck_r111_4 k1, ck_is114 k1, ck_r114_0 k1, ck_r114_1 k1, ck_r114_2 k1, ck_r114_3 k1, ck_r114_4 k1, hlt, z1]
      rcases ex_least P 7 with hno | ⟨s, s1, s2, s3⟩
      · refine ⟨-nI 2, lE_no (fun q hq => hno q (by omega)) _ (Nat.le_refl _), ?_⟩
        have l1 : ss_lp (mm_F_firstRight_b2 N (some 111) h1) N (nI 0) = some (.inl ()) := by
          refine pb_lp (fun q => nI q) 7 (by omega) (fun q hq => stp q hq (hno q hq)) ?_
          unfold mm_F_firstRight_b2
          simp (disch := omega) only [pb_its, pb_l2, pb_ll, nI_add, pb_mul, if_true, if_false, pb_bs, pb_b2n, pb_bz0, pb_bz1, pb_10, pb_01, pb_i31, nI_le (Nat.le_refl 7) (by omega : 7 < 2 ^ 31)]
        unfold mm_F_firstRight
        simp (disch := omega) only [pb_its, pb_l2, pb_ll, nI_add, pb_mul, if_true, if_false, pb_bs, pb_b2n, pb_bz0, pb_bz1, pb_10, pb_01, pb_i31, ck_is0 k1, ck_r0_0 k1, ck_r0_1 k1, ck_r0_2 k1, ck_r0_3 k1, ck_r0_4 k1, ck_r0_5 k1, ck_r0_6 k1, ck_r0_7 k1, ck_r0_8 k1, ck_r0_9 k1, ck_is1 k1, ck_r1_0 k1, ck_is3 k1, ck_r3_0 k1, ck_r3_1 k1, ck_is20 k1, ck_r20_0 k1, ck_r20_1 k1, ck_r20_2 k1, ck_is24 k1, ck_r24_1 k1, ck_r24_2 k1, ck_r24_3 k1, ck_r24_4 k1, ck_is33 k1, ck_r33_0 k1, ck_r33_1 k1, ck_is40 k1, ck_r40_0 k1, ck_is102 k1, ck_r102_0 k1, ck_r102_1 k1, ck_r102_2 k1, ck_r102_3 k1, ck_r102_4 k1, ck_r102_5 k1, ck_is103 k1, ck_r103_0 k1, ck_r103_1 k1, ck_is111 k1, ck_r111_0 k1, ck_r111_1 k1, ck_r111_2 k1, ck_r111_3 k1, ck_r111_4 k1, ck_is114 k1, ck_r114_0 k1, ck_r114_1 k1, ck_r114_2 k1, ck_r114_3 k1, ck_r114_4 k1, l1]
      · have hsL : s < RS.length + 1 := by
          rcases Nat.lt_or_ge s (RS.length + 1) with c | c
          · exact c
          · exact absurd s2 (PL s c)
        refine ⟨nI s - nI 1, lE_at hsL s2 s3 _ (by omega) (Nat.le_refl _), ?_⟩
        have l1 : ss_lp (mm_F_firstRight_b2 N (some 111) h1) N (nI 0) = some (.inr (nI s)) := by
          refine pb_lp (fun q => nI q) s (by omega) (fun q hq => stp q (by omega) (s3 q hq)) ?_
          have hlt : ¬ nI 7 ≤ nI s := nI_ge s1 (by omega)
          have z1 := cb_z1 c1 s1
          rw [rr1 s s1, pI_t s2] at z1
          unfold mm_F_firstRight_b2
          simp (disch := omega) only [pb_its, pb_l2, pb_ll, nI_add, pb_mul, if_true, if_false, pb_bs, pb_b2n, pb_bz0, pb_bz1, pb_10, pb_01, pb_i31, ck_is0 k1, ck_r0_0 k1, ck_r0_1 k1, ck_r0_2 k1, ck_r0_3 k1, ck_r0_4 k1, ck_r0_5 k1, ck_r0_6 k1, ck_r0_7 k1, ck_r0_8 k1, ck_r0_9 k1, ck_is1 k1, ck_r1_0 k1, ck_is3 k1, ck_r3_0 k1, ck_r3_1 k1, ck_is20 k1, ck_r20_0 k1, ck_r20_1 k1, ck_r20_2 k1, ck_is24 k1, ck_r24_1 k1, ck_r24_2 k1, ck_r24_3 k1, ck_r24_4 k1, ck_is33 k1, ck_r33_0 k1, ck_r33_1 k1, ck_is40 k1, ck_r40_0 k1, ck_is102 k1, ck_r102_0 k1, ck_r102_1 k1, ck_r102_2 k1, ck_r102_3 k1, ck_r102_4 k1, ck_r102_5 k1, ck_is103 k1, ck_r103_0 k1, ck_r103_1 k1, ck_is111 k1, ck_r111_0 k1, ck_r111_1 k1, ck_r111_2 k1, ck_r111_3 k1, ck_r111_4 k1, ck_is114 k1, ck_r114_0 k1, ck_r114_1 k1, ck_r114_2 k1, ck_r114_3 k1, ck_r114_4 k1, hlt, z1]
        unfold mm_F_firstRight
        simp (disch := omega) only [pb_its, pb_l2, pb_ll, nI_add, pb_mul, if_true, if_false, pb_bs, pb_b2n, pb_bz0, pb_bz1, pb_10, pb_01, pb_i31, ck_is0 k1, ck_r0_0 k1, ck_r0_1 k1, ck_r0_2 k1, ck_r0_3 k1, ck_r0_4 k1, ck_r0_5 k1, ck_r0_6 k1, ck_r0_7 k1, ck_r0_8 k1, ck_r0_9 k1, ck_is1 k1, ck_r1_0 k1, ck_is3 k1, ck_r3_0 k1, ck_r3_1 k1, ck_is20 k1, ck_r20_0 k1, ck_r20_1 k1, ck_r20_2 k1, ck_is24 k1, ck_r24_1 k1, ck_r24_2 k1, ck_r24_3 k1, ck_r24_4 k1, ck_is33 k1, ck_r33_0 k1, ck_r33_1 k1, ck_is40 k1, ck_r40_0 k1, ck_is102 k1, ck_r102_0 k1, ck_r102_1 k1, ck_r102_2 k1, ck_r102_3 k1, ck_r102_4 k1, ck_r102_5 k1, ck_is103 k1, ck_r103_0 k1, ck_r103_1 k1, ck_is111 k1, ck_r111_0 k1, ck_r111_1 k1, ck_r111_2 k1, ck_r111_3 k1, ck_r111_4 k1, ck_is114 k1, ck_r114_0 k1, ck_r114_1 k1, ck_r114_2 k1, ck_r114_3 k1, ck_r114_4 k1, l1]
    obtain ⟨r, er, l1⟩ := ell
    rw [er] at ml
    refine jo_ask ha0 c1 m1 (r := r) ?_ ?_
    · unfold mm_S_ruled mm_S_ruled_j58
      simp (disch := omega) only [pb_its, pb_l2, pb_ll, nI_add, pb_mul, if_true, if_false, pb_bs, pb_b2n, pb_bz0, pb_bz1, pb_10, pb_01, pb_i31, ck_is0 hk, ck_r0_0 hk, ck_r0_1 hk, ck_r0_2 hk, ck_r0_3 hk, ck_r0_4 hk, ck_r0_5 hk, ck_r0_6 hk, ck_r0_7 hk, ck_r0_8 hk, ck_r0_9 hk, ck_is1 hk, ck_r1_0 hk, ck_is3 hk, ck_r3_0 hk, ck_r3_1 hk, ck_is20 hk, ck_r20_0 hk, ck_r20_1 hk, ck_r20_2 hk, ck_is24 hk, ck_r24_1 hk, ck_r24_2 hk, ck_r24_3 hk, ck_r24_4 hk, ck_is33 hk, ck_r33_0 hk, ck_r33_1 hk, ck_is40 hk, ck_r40_0 hk, ck_is102 hk, ck_r102_0 hk, ck_r102_1 hk, ck_r102_2 hk, ck_r102_3 hk, ck_r102_4 hk, ck_r102_5 hk, ck_is103 hk, ck_r103_0 hk, ck_r103_1 hk, ck_is111 hk, ck_r111_0 hk, ck_r111_1 hk, ck_r111_2 hk, ck_r111_3 hk, ck_r111_4 hk, ck_is114 hk, ck_r114_0 hk, ck_r114_1 hk, ck_r114_2 hk, ck_r114_3 hk, ck_r114_4 hk, bV, bI, bT, bF, bD, bS, bH, bR0, bR1, bR2, bR3, bR4, bFo, bX, bNo, bG0, bG1, bG2, bG3, t1, pq_withinC, pb_ct cw, r1, e1, ck_is0 k1, ck_r0_0 k1, ck_r0_1 k1, ck_r0_2 k1, ck_r0_3 k1, ck_r0_4 k1, ck_r0_5 k1, ck_r0_6 k1, ck_r0_7 k1, ck_r0_8 k1, ck_r0_9 k1, ck_is1 k1, ck_r1_0 k1, ck_is3 k1, ck_r3_0 k1, ck_r3_1 k1, ck_is20 k1, ck_r20_0 k1, ck_r20_1 k1, ck_r20_2 k1, ck_is24 k1, ck_r24_1 k1, ck_r24_2 k1, ck_r24_3 k1, ck_r24_4 k1, ck_is33 k1, ck_r33_0 k1, ck_r33_1 k1, ck_is40 k1, ck_r40_0 k1, ck_is102 k1, ck_r102_0 k1, ck_r102_1 k1, ck_r102_2 k1, ck_r102_3 k1, ck_r102_4 k1, ck_r102_5 k1, ck_is103 k1, ck_r103_0 k1, ck_r103_1 k1, ck_is111 k1, ck_r111_0 k1, ck_r111_1 k1, ck_r111_2 k1, ck_r111_3 k1, ck_r111_4 k1, ck_is114 k1, ck_r114_0 k1, ck_r114_1 k1, ck_r114_2 k1, ck_r114_3 k1, ck_r114_4 k1, l1, c0]
    · unfold mm_M_ruled mm_M_ruled_j77
      simp (disch := omega) only [pb_its, pb_l2, pb_ll, nI_add, pb_mul, if_true, if_false, pb_bs, pb_b2n, pb_bz0, pb_bz1, pb_10, pb_01, pb_i31, mk_is hk2, mk_g0 hk2, mk_g1 hk2, mk_g2 hk2, mk_g3 hk2, mk_g4 hk2, mk_g5 hk2, mk_g6 hk2, mk_g7 hk2, mk_g8 hk2, mk_g9 hk2, mk_g10 hk2, mk_g11 hk2, mk_g12 hk2, mk_g13 hk2, mk_g14 hk2, mk_g15 hk2, mk_g16 hk2, mk_g17 hk2, mk_g18 hk2, mk_g19 hk2, mk_g20 hk2, mk_g21 hk2, mk_g22 hk2, mb_isValley hm1 Hl, t1, po_inC, pb_ct cw, f1, gi, ml, c0]
/-! look -/
noncomputable def aK (P : Nat → Prop) (R : Nat → Nat → Int32) (s L g : Nat) : Nat := pI (P g) (ct (fun o => P o ∧ R o s = R g s) L) 0
noncomputable def mK (P : Nat → Prop) (R : Nat → Nat → Int32) (s L : Nat) : Nat → Nat
  | 0 => 0
  | g + 1 => max (mK P R s L g) (aK P R s L g)
theorem mK_to {P : Nat → Prop} {R : Nat → Nat → Int32} {s L : Nat} (h : ∀ q, L ≤ q → ¬ P q) : ∀ j, mK P R s L (L + j) = mK P R s L L := by
  intro j
  induction j with
  | zero => rfl
  | succ j ih => rw [show L + (j + 1) = (L + j) + 1 by omega, mK, ih, aK, pI_f (h _ (by omega))]; omega
theorem aK_le {P : Nat → Prop} {R : Nat → Nat → Int32} {s L g : Nat} : aK P R s L g ≤ L := by
  unfold aK
  by_cases c : P g
  · rw [pI_t c]; exact ct_le L
  · rw [pI_f c]; omega
theorem mK_le {P : Nat → Prop} {R : Nat → Nat → Int32} {s L : Nat} : ∀ g, mK P R s L g ≤ L := by
  intro g
  induction g with
  | zero => exact Nat.zero_le _
  | succ g ih => rw [mK]; have := aK_le (P := P) (R := R) (s := s) (L := L) (g := g); omega
theorem mK_pos {P : Nat → Prop} {R : Nat → Nat → Int32} {s L q : Nat} (hq : q < L) (hp : P q) : ∀ g, q < g → 0 < mK P R s L g := by
  intro g
  induction g with
  | zero => intro h; omega
  | succ g ih =>
    intro h
    rw [mK]
    by_cases e : q = g
    · subst e
      have : 0 < aK P R s L q := by
        unfold aK
        rw [pI_t hp]
        exact ct_pos hq ⟨hp, rfl⟩
      omega
    · have := ih (by omega)
      omega
theorem mK_zero {P : Nat → Prop} {R : Nat → Nat → Int32} {s L : Nat} (h : ∀ q, ¬ P q) : ∀ g, mK P R s L g = 0 := by
  intro g
  induction g with
  | zero => rfl
  | succ g ih => rw [mK, ih, aK, pI_f (h g)]; rfl
theorem cb_mostAlike {N : Nat} {h0 h : ss_Hp} {T : List Nat} {a : List Int32} {fo x : Int32} {RS : List (List ru_C)} {US : List (List Int32)} {I : Nat → Option (List Int32 × Int32 × Int32)} {Z : Nat → List Int32} {P : Nat → Prop} {R : Nat → Nat → Int32} {s L : Nat} (hc : cb_h h0 h T a fo x RS US I Z) (hr : ∀ g, g < 7 → pv (Z 1) g = pI (P g) (nI 1) (nI 0)) (hR : ∀ g, g < 7 → P g → ∀ s, s < 8 → pv (Z 0) (g * 8 + s) = R g s) (hL : L ≤ 7) (PL : ∀ q, L ≤ q → ¬ P q) (hs : s < 8) (hN : 5000 < N) : mm_F_mostAlike N (some 111) (nI s) h = some (nI (mK P R s L L)) := by
  have hk := cb_ck hc
  have inn : ∀ g (x2 : Int32), g < 7 → ss_lp (mm_F_mostAlike_b16 N (some 111) (nI s) x2 (nI g) h) N (nI 0, nI 0) = some (nI (aK P R s L g)) := by
    intro g x2 hg
    have zg := cb_z1 hc hg
    rw [hr g hg] at zg
    unfold aK
    by_cases cg : P g
    · rw [pI_t cg] at zg ⊢
      have cto := ct_to (P := fun o => P o ∧ R o s = R g s) (L := L) (fun q hq p => PL q hq p.1) (7 - L)
      rw [show L + (7 - L) = 7 by omega] at cto
      rw [← cto]
      refine pb_lp (fun o => (nI (ct (fun o => P o ∧ R o s = R g s) o), nI o)) 7 (by omega) (fun o ho => ?_) ?_
      · have hlt : ¬ nI 7 ≤ nI o := nI_ge ho (by omega)
        have zo := cb_z1 hc ho
        rw [hr o ho] at zo
        unfold mm_F_mostAlike_b16 mm_F_mostAlike_j71
        rw [ct]
        by_cases co : P o
        · rw [pI_t co] at zo
          have y1 := cb_z0 hc (show o * 8 + s < 488 by omega)
          rw [hR o ho co s hs] at y1
          have y2 := cb_z0 hc (show g * 8 + s < 488 by omega)
          rw [hR g hg cg s hs] at y2
          by_cases ce : R o s = R g s
          · rw [pI_t ⟨co, ce⟩]
            simp (disch := omega) only [pb_its, pb_l2, pb_ll, nI_add, pb_mul, if_true, if_false, pb_bs, pb_b2n, pb_bz0, pb_bz1, pb_10, pb_01, pb_i31, ck_is0 hk, ck_r0_0 hk, ck_r0_1 hk, ck_r0_2 hk, ck_r0_3 hk, ck_r0_4 hk, ck_r0_5 hk, ck_r0_6 hk, ck_r0_7 hk, ck_r0_8 hk, ck_r0_9 hk, ck_is1 hk, ck_r1_0 hk, ck_is3 hk, ck_r3_0 hk, ck_r3_1 hk, ck_is20 hk, ck_r20_0 hk, ck_r20_1 hk, ck_r20_2 hk, ck_is24 hk, ck_r24_1 hk, ck_r24_2 hk, ck_r24_3 hk, ck_r24_4 hk, ck_is33 hk, ck_r33_0 hk, ck_r33_1 hk, ck_is40 hk, ck_r40_0 hk, ck_is102 hk, ck_r102_0 hk, ck_r102_1 hk, ck_r102_2 hk, ck_r102_3 hk, ck_r102_4 hk, ck_r102_5 hk, ck_is103 hk, ck_r103_0 hk, ck_r103_1 hk, ck_is111 hk, ck_r111_0 hk, ck_r111_1 hk, ck_r111_2 hk, ck_r111_3 hk, ck_r111_4 hk, ck_is114 hk, ck_r114_0 hk, ck_r114_1 hk, ck_r114_2 hk, ck_r114_3 hk, ck_r114_4 hk, hlt, zg, zo, y1, y2, ce]
          · rw [pI_f (fun q => ce q.2)]
            simp (disch := omega) only [pb_its, pb_l2, pb_ll, nI_add, pb_mul, if_true, if_false, pb_bs, pb_b2n, pb_bz0, pb_bz1, pb_10, pb_01, pb_i31, ck_is0 hk, ck_r0_0 hk, ck_r0_1 hk, ck_r0_2 hk, ck_r0_3 hk, ck_r0_4 hk, ck_r0_5 hk, ck_r0_6 hk, ck_r0_7 hk, ck_r0_8 hk, ck_r0_9 hk, ck_is1 hk, ck_r1_0 hk, ck_is3 hk, ck_r3_0 hk, ck_r3_1 hk, ck_is20 hk, ck_r20_0 hk, ck_r20_1 hk, ck_r20_2 hk, ck_is24 hk, ck_r24_1 hk, ck_r24_2 hk, ck_r24_3 hk, ck_r24_4 hk, ck_is33 hk, ck_r33_0 hk, ck_r33_1 hk, ck_is40 hk, ck_r40_0 hk, ck_is102 hk, ck_r102_0 hk, ck_r102_1 hk, ck_r102_2 hk, ck_r102_3 hk, ck_r102_4 hk, ck_r102_5 hk, ck_is103 hk, ck_r103_0 hk, ck_r103_1 hk, ck_is111 hk, ck_r111_0 hk, ck_r111_1 hk, ck_r111_2 hk, ck_r111_3 hk, ck_r111_4 hk, ck_is114 hk, ck_r114_0 hk, ck_r114_1 hk, ck_r114_2 hk, ck_r114_3 hk, ck_r114_4 hk, hlt, zg, zo, y1, y2, ce, Nat.add_zero]
        · rw [pI_f co] at zo
          rw [pI_f (fun q => co q.1)]
          simp (disch := omega) only [pb_its, pb_l2, pb_ll, nI_add, pb_mul, if_true, if_false, pb_bs, pb_b2n, pb_bz0, pb_bz1, pb_10, pb_01, pb_i31, ck_is0 hk, ck_r0_0 hk, ck_r0_1 hk, ck_r0_2 hk, ck_r0_3 hk, ck_r0_4 hk, ck_r0_5 hk, ck_r0_6 hk, ck_r0_7 hk, ck_r0_8 hk, ck_r0_9 hk, ck_is1 hk, ck_r1_0 hk, ck_is3 hk, ck_r3_0 hk, ck_r3_1 hk, ck_is20 hk, ck_r20_0 hk, ck_r20_1 hk, ck_r20_2 hk, ck_is24 hk, ck_r24_1 hk, ck_r24_2 hk, ck_r24_3 hk, ck_r24_4 hk, ck_is33 hk, ck_r33_0 hk, ck_r33_1 hk, ck_is40 hk, ck_r40_0 hk, ck_is102 hk, ck_r102_0 hk, ck_r102_1 hk, ck_r102_2 hk, ck_r102_3 hk, ck_r102_4 hk, ck_r102_5 hk, ck_is103 hk, ck_r103_0 hk, ck_r103_1 hk, ck_is111 hk, ck_r111_0 hk, ck_r111_1 hk, ck_r111_2 hk, ck_r111_3 hk, ck_r111_4 hk, ck_is114 hk, ck_r114_0 hk, ck_r114_1 hk, ck_r114_2 hk, ck_r114_3 hk, ck_r114_4 hk, hlt, zg, zo, Nat.add_zero]
      · unfold mm_F_mostAlike_b16
        simp (disch := omega) only [pb_its, pb_l2, pb_ll, nI_add, pb_mul, if_true, if_false, pb_bs, pb_b2n, pb_bz0, pb_bz1, pb_10, pb_01, pb_i31, nI_le (Nat.le_refl 7) (by omega : 7 < 2 ^ 31)]
    · rw [pI_f cg] at zg ⊢
      refine pb_mono 1 N _ _ (pb_stop ?_) (by omega)
      have n7 : ¬ nI 7 ≤ nI 0 := nI_ge (by omega) (by omega)
      unfold mm_F_mostAlike_b16
      simp (disch := omega) only [pb_its, pb_l2, pb_ll, nI_add, pb_mul, if_true, if_false, pb_bs, pb_b2n, pb_bz0, pb_bz1, pb_10, pb_01, pb_i31, ck_is0 hk, ck_r0_0 hk, ck_r0_1 hk, ck_r0_2 hk, ck_r0_3 hk, ck_r0_4 hk, ck_r0_5 hk, ck_r0_6 hk, ck_r0_7 hk, ck_r0_8 hk, ck_r0_9 hk, ck_is1 hk, ck_r1_0 hk, ck_is3 hk, ck_r3_0 hk, ck_r3_1 hk, ck_is20 hk, ck_r20_0 hk, ck_r20_1 hk, ck_r20_2 hk, ck_is24 hk, ck_r24_1 hk, ck_r24_2 hk, ck_r24_3 hk, ck_r24_4 hk, ck_is33 hk, ck_r33_0 hk, ck_r33_1 hk, ck_is40 hk, ck_r40_0 hk, ck_is102 hk, ck_r102_0 hk, ck_r102_1 hk, ck_r102_2 hk, ck_r102_3 hk, ck_r102_4 hk, ck_r102_5 hk, ck_is103 hk, ck_r103_0 hk, ck_r103_1 hk, ck_is111 hk, ck_r111_0 hk, ck_r111_1 hk, ck_r111_2 hk, ck_r111_3 hk, ck_r111_4 hk, ck_is114 hk, ck_r114_0 hk, ck_r114_1 hk, ck_r114_2 hk, ck_r114_3 hk, ck_r114_4 hk, n7, zg]
  have mt := mK_to (R := R) (s := s) PL (7 - L)
  rw [show L + (7 - L) = 7 by omega] at mt
  rw [← mt]
  have l : ss_lp (mm_F_mostAlike_b4 N (some 111) (nI s) h) N (nI 0, nI 0) = some (nI (mK P R s L 7)) := by
    refine pb_lp (fun g => (nI (mK P R s L g), nI g)) 7 (by omega) (fun g hg => ?_) ?_
    · have hlt : ¬ nI 7 ≤ nI g := nI_ge hg (by omega)
      have i1 := inn g (nI (mK P R s L g)) hg
      have b1 := aK_le (P := P) (R := R) (s := s) (L := L) (g := g)
      have b2 := mK_le (P := P) (R := R) (s := s) (L := L) g
      unfold mm_F_mostAlike_b4
      rw [mK]
      by_cases c : mK P R s L g < aK P R s L g
      · have c' : nI (mK P R s L g) < nI (aK P R s L g) := nI_lt c (by omega)
        rw [show max (mK P R s L g) (aK P R s L g) = aK P R s L g by omega]
        simp (disch := omega) only [pb_its, pb_l2, pb_ll, nI_add, pb_mul, if_true, if_false, pb_bs, pb_b2n, pb_bz0, pb_bz1, pb_10, pb_01, pb_i31, hlt, i1, c']
      · have c' : ¬ nI (mK P R s L g) < nI (aK P R s L g) := nI_nlt (by omega) (by omega)
        rw [show max (mK P R s L g) (aK P R s L g) = mK P R s L g by omega]
        simp (disch := omega) only [pb_its, pb_l2, pb_ll, nI_add, pb_mul, if_true, if_false, pb_bs, pb_b2n, pb_bz0, pb_bz1, pb_10, pb_01, pb_i31, hlt, i1, c']
    · unfold mm_F_mostAlike_b4
      simp (disch := omega) only [pb_its, pb_l2, pb_ll, nI_add, pb_mul, if_true, if_false, pb_bs, pb_b2n, pb_bz0, pb_bz1, pb_10, pb_01, pb_i31, nI_le (Nat.le_refl 7) (by omega : 7 < 2 ^ 31)]
  unfold mm_F_mostAlike
  simp (disch := omega) only [pb_its, pb_l2, pb_ll, nI_add, pb_mul, if_true, if_false, pb_bs, pb_b2n, pb_bz0, pb_bz1, pb_10, pb_01, pb_i31, ck_is0 hk, ck_r0_0 hk, ck_r0_1 hk, ck_r0_2 hk, ck_r0_3 hk, ck_r0_4 hk, ck_r0_5 hk, ck_r0_6 hk, ck_r0_7 hk, ck_r0_8 hk, ck_r0_9 hk, ck_is1 hk, ck_r1_0 hk, ck_is3 hk, ck_r3_0 hk, ck_r3_1 hk, ck_is20 hk, ck_r20_0 hk, ck_r20_1 hk, ck_r20_2 hk, ck_is24 hk, ck_r24_1 hk, ck_r24_2 hk, ck_r24_3 hk, ck_r24_4 hk, ck_is33 hk, ck_r33_0 hk, ck_r33_1 hk, ck_is40 hk, ck_r40_0 hk, ck_is102 hk, ck_r102_0 hk, ck_r102_1 hk, ck_r102_2 hk, ck_r102_3 hk, ck_r102_4 hk, ck_r102_5 hk, ck_is103 hk, ck_r103_0 hk, ck_r103_1 hk, ck_is111 hk, ck_r111_0 hk, ck_r111_1 hk, ck_r111_2 hk, ck_r111_3 hk, ck_r111_4 hk, ck_is114 hk, ck_r114_0 hk, ck_r114_1 hk, ck_r114_2 hk, ck_r114_3 hk, ck_r114_4 hk, l]
theorem mb_alikeAt {N : Nat} {h0 h : ss_Hp} {T : List Nat} {a : List Int32} {fo x : Int32} {RS : List (List ru_C)} {US : List (List Int32)} {I : Nat → Option (List Int32 × Int32 × Int32)} {th2 fa2 kp2 : List Int32} {dx2 : Int64} {Z : Nat → List Int32} {P : Nat → Prop} {R : Nat → Nat → Int32} {s : Nat} (hc : mb_h h0 h T a fo x RS US I fo a th2 fa2 kp2 dx2 Z) (h6 : RS.length ≤ 6) (hr : ∀ g, g < RS.length + 1 → pv (Z 3) g = pI (P g) (nI 1) (nI 0)) (hR : ∀ g, g < RS.length + 1 → ∀ s, s < 8 → pv (Z 4) (g * 8 + s) = R g s) (hs : s < 8) (hN : 5000 < N) : mm_M_alikeAt N (some 118) (nI s) h = some (nI (mK P R s (RS.length + 1) (RS.length + 1))) := by
  have hk := mb_mk hc
  have gi := (mb_gi hc).2.1
  have inn : ∀ g (x2 : Int32), g < RS.length + 1 → ss_lp (mm_M_alikeAt_b18 N (some 118) (nI s) x2 (nI g) h) N (nI 0, nI 0) = some (nI (aK P R s (RS.length + 1) g)) := by
    intro g x2 hg
    have zg := mb_z3 hc (show g < 7 by omega)
    rw [hr g hg] at zg
    unfold aK
    by_cases cg : P g
    · rw [pI_t cg] at zg ⊢
      refine pb_lp (fun o => (nI (ct (fun o => P o ∧ R o s = R g s) o), nI o)) (RS.length + 1) (by omega) (fun o ho => ?_) ?_
      · have hlt : ¬ nI RS.length < nI o := nI_nlt (by omega) (by omega)
        have zo := mb_z3 hc (show o < 7 by omega)
        rw [hr o ho] at zo
        unfold mm_M_alikeAt_b18 mm_M_alikeAt_j78 mm_M_alikeAt_j79
        rw [ct]
        by_cases co : P o
        · rw [pI_t co] at zo
          have y1 := mb_z4 hc (show 8 * o + s < 56 by omega)
          have q1 := hR o ho s hs
          rw [Nat.mul_comm] at q1
          rw [q1] at y1
          have y2 := mb_z4 hc (show 8 * g + s < 56 by omega)
          have q2 := hR g hg s hs
          rw [Nat.mul_comm] at q2
          rw [q2] at y2
          by_cases ce : R o s = R g s
          · rw [pI_t ⟨co, ce⟩]
            have ce' : R g s = R o s := ce.symm
            simp (disch := omega) only [pb_its, pb_l2, pb_ll, nI_add, pb_mul, if_true, if_false, pb_bs, pb_b2n, pb_bz0, pb_bz1, pb_10, pb_01, pb_i31, gi, hlt, mk_is hk, mk_g0 hk, mk_g1 hk, mk_g2 hk, mk_g3 hk, mk_g4 hk, mk_g5 hk, mk_g6 hk, mk_g7 hk, mk_g8 hk, mk_g9 hk, mk_g10 hk, mk_g11 hk, mk_g12 hk, mk_g13 hk, mk_g14 hk, mk_g15 hk, mk_g16 hk, mk_g17 hk, mk_g18 hk, mk_g19 hk, mk_g20 hk, mk_g21 hk, mk_g22 hk, zg, zo, y1, y2, ce]
          · rw [pI_f (fun q => ce q.2)]
            have ce' : ¬ R g s = R o s := fun q => ce q.symm
            simp (disch := omega) only [pb_its, pb_l2, pb_ll, nI_add, pb_mul, if_true, if_false, pb_bs, pb_b2n, pb_bz0, pb_bz1, pb_10, pb_01, pb_i31, gi, hlt, mk_is hk, mk_g0 hk, mk_g1 hk, mk_g2 hk, mk_g3 hk, mk_g4 hk, mk_g5 hk, mk_g6 hk, mk_g7 hk, mk_g8 hk, mk_g9 hk, mk_g10 hk, mk_g11 hk, mk_g12 hk, mk_g13 hk, mk_g14 hk, mk_g15 hk, mk_g16 hk, mk_g17 hk, mk_g18 hk, mk_g19 hk, mk_g20 hk, mk_g21 hk, mk_g22 hk, zg, zo, y1, y2, ce']
        · rw [pI_f co] at zo
          rw [pI_f (fun q => co q.1)]
          simp (disch := omega) only [pb_its, pb_l2, pb_ll, nI_add, pb_mul, if_true, if_false, pb_bs, pb_b2n, pb_bz0, pb_bz1, pb_10, pb_01, pb_i31, gi, hlt, mk_is hk, mk_g0 hk, mk_g1 hk, mk_g2 hk, mk_g3 hk, mk_g4 hk, mk_g5 hk, mk_g6 hk, mk_g7 hk, mk_g8 hk, mk_g9 hk, mk_g10 hk, mk_g11 hk, mk_g12 hk, mk_g13 hk, mk_g14 hk, mk_g15 hk, mk_g16 hk, mk_g17 hk, mk_g18 hk, mk_g19 hk, mk_g20 hk, mk_g21 hk, mk_g22 hk, zg, zo]
      · have n1 : nI RS.length < nI (RS.length + 1) := nI_lt (by omega) (by omega)
        unfold mm_M_alikeAt_b18
        simp (disch := omega) only [pb_its, pb_l2, pb_ll, nI_add, pb_mul, if_true, if_false, pb_bs, pb_b2n, pb_bz0, pb_bz1, pb_10, pb_01, pb_i31, gi, n1]
    · rw [pI_f cg] at zg ⊢
      refine pb_mono 1 N _ _ (pb_stop ?_) (by omega)
      have n7 : ¬ nI RS.length < nI 0 := nI_nlt (by omega) (by omega)
      unfold mm_M_alikeAt_b18
      simp (disch := omega) only [pb_its, pb_l2, pb_ll, nI_add, pb_mul, if_true, if_false, pb_bs, pb_b2n, pb_bz0, pb_bz1, pb_10, pb_01, pb_i31, gi, n7, mk_is hk, mk_g0 hk, mk_g1 hk, mk_g2 hk, mk_g3 hk, mk_g4 hk, mk_g5 hk, mk_g6 hk, mk_g7 hk, mk_g8 hk, mk_g9 hk, mk_g10 hk, mk_g11 hk, mk_g12 hk, mk_g13 hk, mk_g14 hk, mk_g15 hk, mk_g16 hk, mk_g17 hk, mk_g18 hk, mk_g19 hk, mk_g20 hk, mk_g21 hk, mk_g22 hk, zg]
  have l : ss_lp (mm_M_alikeAt_b4 N (some 118) (nI s) h) N (nI 0, nI 0) = some (nI (mK P R s (RS.length + 1) (RS.length + 1))) := by
    refine pb_lp (fun g => (nI (mK P R s (RS.length + 1) g), nI g)) (RS.length + 1) (by omega) (fun g hg => ?_) ?_
    · have hlt : ¬ nI RS.length < nI g := nI_nlt (by omega) (by omega)
      have i1 := inn g (nI (mK P R s (RS.length + 1) g)) hg
      have b1 := aK_le (P := P) (R := R) (s := s) (L := RS.length + 1) (g := g)
      have b2 := mK_le (P := P) (R := R) (s := s) (L := RS.length + 1) g
      unfold mm_M_alikeAt_b4 mm_M_alikeAt_j100
      rw [mK]
      by_cases c : aK P R s (RS.length + 1) g ≤ mK P R s (RS.length + 1) g
      · have c' : nI (aK P R s (RS.length + 1) g) ≤ nI (mK P R s (RS.length + 1) g) := nI_le c (by omega)
        rw [show max (mK P R s (RS.length + 1) g) (aK P R s (RS.length + 1) g) = mK P R s (RS.length + 1) g by omega]
        simp (disch := omega) only [pb_its, pb_l2, pb_ll, nI_add, pb_mul, if_true, if_false, pb_bs, pb_b2n, pb_bz0, pb_bz1, pb_10, pb_01, pb_i31, gi, hlt, i1, c']
      · have c' : ¬ nI (aK P R s (RS.length + 1) g) ≤ nI (mK P R s (RS.length + 1) g) := nI_ge (by omega) (by omega)
        rw [show max (mK P R s (RS.length + 1) g) (aK P R s (RS.length + 1) g) = aK P R s (RS.length + 1) g by omega]
        simp (disch := omega) only [pb_its, pb_l2, pb_ll, nI_add, pb_mul, if_true, if_false, pb_bs, pb_b2n, pb_bz0, pb_bz1, pb_10, pb_01, pb_i31, gi, hlt, i1, c']
    · have n1 : nI RS.length < nI (RS.length + 1) := nI_lt (by omega) (by omega)
      unfold mm_M_alikeAt_b4
      simp (disch := omega) only [pb_its, pb_l2, pb_ll, nI_add, pb_mul, if_true, if_false, pb_bs, pb_b2n, pb_bz0, pb_bz1, pb_10, pb_01, pb_i31, gi, n1]
  unfold mm_M_alikeAt
  simp (disch := omega) only [pb_its, pb_l2, pb_ll, nI_add, pb_mul, if_true, if_false, pb_bs, pb_b2n, pb_bz0, pb_bz1, pb_10, pb_01, pb_i31, mk_is hk, mk_g0 hk, mk_g1 hk, mk_g2 hk, mk_g3 hk, mk_g4 hk, mk_g5 hk, mk_g6 hk, mk_g7 hk, mk_g8 hk, mk_g9 hk, mk_g10 hk, mk_g11 hk, mk_g12 hk, mk_g13 hk, mk_g14 hk, mk_g15 hk, mk_g16 hk, mk_g17 hk, mk_g18 hk, mk_g19 hk, mk_g20 hk, mk_g21 hk, mk_g22 hk, l]
/-- the first of the least -/
def fM (A : Nat → Nat) : Nat → Option Nat
  | 0 => none
  | s + 1 => match fM A s with
    | none => some s
    | some t => if A s < A t then some s else some t
theorem jx_look {N : Nat} {h h2 : ss_Hp} {y w : Int32} {T : List Nat} {a : List Int32} {fo x : Int32} {RS : List (List ru_C)} {US : List (List Int32)} {I : Nat → Option (List Int32 × Int32 × Int32)} (hc : cl_h h T a fo x RS US I) (hm : mo_h h2 T a fo x RS US I) (ha : as_ok T a fo x RS US I) (hN : 5000 < N) : jo (mm_S_look N (some 0) y w h) (mm_M_look N (some 118) y w h2) h h2 := by
  obtain ⟨Z, hb⟩ := cb_of hc
  obtain ⟨v, ⟨⟨bV, bI, bT, bF, bD, bS, bH⟩, ⟨bR0, bR1, bR2, bR3, bR4⟩, ⟨bFo, bX, bNo⟩, ⟨bG0, bG1, bG2, bG3⟩, bOwn, bStr, bBes, bSn, bWl, bNd, bCl⟩⟩ := cb_r hb
  have hk := cb_ck hb
  obtain ⟨th, fa, kp, dx, Y, hm1⟩ := mb_of hm
  have hk2 := mb_mk hm1
  have ha0 := ha
  obtain ⟨⟨Ht1, Ht2⟩, ⟨k, m, d, Hsd, Hul, Hu⟩, HRS, Hfo, Hx, HI⟩ := ha
  have Hok := Hsd.1
  obtain ⟨Hl, ⟨Hk, H2⟩, ⟨Hm, H3⟩, ⟨Hd, H10⟩, Hwl, Hbe, How⟩ := Hok
  by_cases ht : pv a 0 ≤ nI 0
  · have t0 : sa_told a = nI 0 := if_pos ht
    refine jo_no hc hm ha0 (r := -nI 1) ?_ ?_
    · unfold mm_S_look mm_S_look_j32
      simp (disch := omega) only [pb_its, pb_l2, pb_ll, nI_add, pb_mul, if_true, if_false, pb_bs, pb_b2n, pb_bz0, pb_bz1, pb_10, pb_01, pb_i31, ck_is0 hk, ck_r0_0 hk, ck_r0_1 hk, ck_r0_2 hk, ck_r0_3 hk, ck_r0_4 hk, ck_r0_5 hk, ck_r0_6 hk, ck_r0_7 hk, ck_r0_8 hk, ck_r0_9 hk, ck_is1 hk, ck_r1_0 hk, ck_is3 hk, ck_r3_0 hk, ck_r3_1 hk, ck_is20 hk, ck_r20_0 hk, ck_r20_1 hk, ck_r20_2 hk, ck_is24 hk, ck_r24_1 hk, ck_r24_2 hk, ck_r24_3 hk, ck_r24_4 hk, ck_is33 hk, ck_r33_0 hk, ck_r33_1 hk, ck_is40 hk, ck_r40_0 hk, ck_is102 hk, ck_r102_0 hk, ck_r102_1 hk, ck_r102_2 hk, ck_r102_3 hk, ck_r102_4 hk, ck_r102_5 hk, ck_is103 hk, ck_r103_0 hk, ck_r103_1 hk, ck_is111 hk, ck_r111_0 hk, ck_r111_1 hk, ck_r111_2 hk, ck_r111_3 hk, ck_r111_4 hk, ck_is114 hk, ck_r114_0 hk, ck_r114_1 hk, ck_r114_2 hk, ck_r114_3 hk, ck_r114_4 hk, bV, bI, bT, bF, bD, bS, bH, bR0, bR1, bR2, bR3, bR4, bFo, bX, bNo, bG0, bG1, bG2, bG3, t0]
    · unfold mm_M_look mm_M_look_j29
      simp (disch := omega) only [pb_its, pb_l2, pb_ll, nI_add, pb_mul, if_true, if_false, pb_bs, pb_b2n, pb_bz0, pb_bz1, pb_10, pb_01, pb_i31, mk_is hk2, mk_g0 hk2, mk_g1 hk2, mk_g2 hk2, mk_g3 hk2, mk_g4 hk2, mk_g5 hk2, mk_g6 hk2, mk_g7 hk2, mk_g8 hk2, mk_g9 hk2, mk_g10 hk2, mk_g11 hk2, mk_g12 hk2, mk_g13 hk2, mk_g14 hk2, mk_g15 hk2, mk_g16 hk2, mk_g17 hk2, mk_g18 hk2, mk_g19 hk2, mk_g20 hk2, mk_g21 hk2, mk_g22 hk2, mb_isValley hm1 Hl, t0]
  have t1 : sa_told a = nI 1 := if_neg ht
  by_cases cy : ¬ sp_in y 0 60
  · refine jo_no hc hm ha0 (r := -nI 1) ?_ ?_
    · unfold mm_S_look mm_S_look_j32
      simp (disch := omega) only [pb_its, pb_l2, pb_ll, nI_add, pb_mul, if_true, if_false, pb_bs, pb_b2n, pb_bz0, pb_bz1, pb_10, pb_01, pb_i31, ck_is0 hk, ck_r0_0 hk, ck_r0_1 hk, ck_r0_2 hk, ck_r0_3 hk, ck_r0_4 hk, ck_r0_5 hk, ck_r0_6 hk, ck_r0_7 hk, ck_r0_8 hk, ck_r0_9 hk, ck_is1 hk, ck_r1_0 hk, ck_is3 hk, ck_r3_0 hk, ck_r3_1 hk, ck_is20 hk, ck_r20_0 hk, ck_r20_1 hk, ck_r20_2 hk, ck_is24 hk, ck_r24_1 hk, ck_r24_2 hk, ck_r24_3 hk, ck_r24_4 hk, ck_is33 hk, ck_r33_0 hk, ck_r33_1 hk, ck_is40 hk, ck_r40_0 hk, ck_is102 hk, ck_r102_0 hk, ck_r102_1 hk, ck_r102_2 hk, ck_r102_3 hk, ck_r102_4 hk, ck_r102_5 hk, ck_is103 hk, ck_r103_0 hk, ck_r103_1 hk, ck_is111 hk, ck_r111_0 hk, ck_r111_1 hk, ck_r111_2 hk, ck_r111_3 hk, ck_r111_4 hk, ck_is114 hk, ck_r114_0 hk, ck_r114_1 hk, ck_r114_2 hk, ck_r114_3 hk, ck_r114_4 hk, bV, bI, bT, bF, bD, bS, bH, bR0, bR1, bR2, bR3, bR4, bFo, bX, bNo, bG0, bG1, bG2, bG3, t1, pq_withinC, pb_cf cy]
    · unfold mm_M_look mm_M_look_j29
      simp (disch := omega) only [pb_its, pb_l2, pb_ll, nI_add, pb_mul, if_true, if_false, pb_bs, pb_b2n, pb_bz0, pb_bz1, pb_10, pb_01, pb_i31, mk_is hk2, mk_g0 hk2, mk_g1 hk2, mk_g2 hk2, mk_g3 hk2, mk_g4 hk2, mk_g5 hk2, mk_g6 hk2, mk_g7 hk2, mk_g8 hk2, mk_g9 hk2, mk_g10 hk2, mk_g11 hk2, mk_g12 hk2, mk_g13 hk2, mk_g14 hk2, mk_g15 hk2, mk_g16 hk2, mk_g17 hk2, mk_g18 hk2, mk_g19 hk2, mk_g20 hk2, mk_g21 hk2, mk_g22 hk2, mb_isValley hm1 Hl, t1, po_inC, pb_cf cy]
  replace cy := Classical.not_not.mp cy
  by_cases cw : ¬ sp_in w 0 1
  · refine jo_no hc hm ha0 (r := -nI 1) ?_ ?_
    · unfold mm_S_look mm_S_look_j32
      simp (disch := omega) only [pb_its, pb_l2, pb_ll, nI_add, pb_mul, if_true, if_false, pb_bs, pb_b2n, pb_bz0, pb_bz1, pb_10, pb_01, pb_i31, ck_is0 hk, ck_r0_0 hk, ck_r0_1 hk, ck_r0_2 hk, ck_r0_3 hk, ck_r0_4 hk, ck_r0_5 hk, ck_r0_6 hk, ck_r0_7 hk, ck_r0_8 hk, ck_r0_9 hk, ck_is1 hk, ck_r1_0 hk, ck_is3 hk, ck_r3_0 hk, ck_r3_1 hk, ck_is20 hk, ck_r20_0 hk, ck_r20_1 hk, ck_r20_2 hk, ck_is24 hk, ck_r24_1 hk, ck_r24_2 hk, ck_r24_3 hk, ck_r24_4 hk, ck_is33 hk, ck_r33_0 hk, ck_r33_1 hk, ck_is40 hk, ck_r40_0 hk, ck_is102 hk, ck_r102_0 hk, ck_r102_1 hk, ck_r102_2 hk, ck_r102_3 hk, ck_r102_4 hk, ck_r102_5 hk, ck_is103 hk, ck_r103_0 hk, ck_r103_1 hk, ck_is111 hk, ck_r111_0 hk, ck_r111_1 hk, ck_r111_2 hk, ck_r111_3 hk, ck_r111_4 hk, ck_is114 hk, ck_r114_0 hk, ck_r114_1 hk, ck_r114_2 hk, ck_r114_3 hk, ck_r114_4 hk, bV, bI, bT, bF, bD, bS, bH, bR0, bR1, bR2, bR3, bR4, bFo, bX, bNo, bG0, bG1, bG2, bG3, t1, pq_withinC, pb_ct cy, pb_cf cw]
    · unfold mm_M_look mm_M_look_j29
      simp (disch := omega) only [pb_its, pb_l2, pb_ll, nI_add, pb_mul, if_true, if_false, pb_bs, pb_b2n, pb_bz0, pb_bz1, pb_10, pb_01, pb_i31, mk_is hk2, mk_g0 hk2, mk_g1 hk2, mk_g2 hk2, mk_g3 hk2, mk_g4 hk2, mk_g5 hk2, mk_g6 hk2, mk_g7 hk2, mk_g8 hk2, mk_g9 hk2, mk_g10 hk2, mk_g11 hk2, mk_g12 hk2, mk_g13 hk2, mk_g14 hk2, mk_g15 hk2, mk_g16 hk2, mk_g17 hk2, mk_g18 hk2, mk_g19 hk2, mk_g20 hk2, mk_g21 hk2, mk_g22 hk2, mb_isValley hm1 Hl, t1, po_inC, pb_ct cy, pb_cf cw]
  replace cw := Classical.not_not.mp cw
  obtain ⟨n, -, hn, rfl⟩ := sp_in_n cy (by omega) (by omega)
  obtain ⟨Q, hq⟩ := nR_of Hsd
  have r1 := (cb_more hb).1
  obtain ⟨h1, Z1, e1, c1, rr1, rr2⟩ := cb_judge (N := N) (n := n) hb Hsd ht hq HRS hn hN
  obtain ⟨g1, th1, fa1, Y1, f1, m1, ss1, ss2⟩ := mb_fits (N := N) (n := n) hm1 Hsd ht hq HRS hn hN
  have k1 := cb_ck c1
  have k2 := mb_mk m1
  obtain ⟨v1, ⟨⟨bVx, bIx, bTx, bFx, bDx, bSx, bHx⟩, ⟨bR0x, bR1x, bR2x, bR3x, bR4x⟩, ⟨bFox, bXx, bNox⟩, ⟨bG0x, bG1x, bG2x, bG3x⟩, bOwnx, bStrx, bBesx, bSnx, bWlx, bNdx, bClx⟩⟩ := cb_r c1
  rw [H2] at bSx
  have s2 := mb_said m1 Hl (show 2 < 124 by omega)
  rw [H2] at s2
  have hP : ∃ P, P = pG a RS k m Q := ⟨_, rfl⟩
  obtain ⟨P, hP⟩ := hP
  have hRw : ∃ R : Nat → Nat → Int32, R = fun g s => pv (dG a RS k m g n) (14 + s) := ⟨_, rfl⟩
  obtain ⟨R, hRw⟩ := hRw
  rw [← hP] at rr1 rr2
  have PL : ∀ q, RS.length + 1 ≤ q → ¬ P q := fun q hq p => by
    rw [hP] at p
    have := p.1
    omega
  have rr2' : ∀ g, g < 7 → P g → ∀ s, s < 8 → pv (Z1 0) (g * 8 + s) = R g s := fun g hg p s hs => by rw [hRw]; exact rr2 g hg p s hs
  have ss1' : ∀ g, g < RS.length + 1 → pv (Y1 3) g = pI (P g) (nI 1) (nI 0) := fun g hg => by
    rw [ss1 g (by omega), hP]
    congr 1
    exact propext ⟨fun p => ⟨by omega, p⟩, fun p => p.2⟩
  have ss2' : ∀ g, g < RS.length + 1 → ∀ s, s < 8 → pv (Y1 4) (g * 8 + s) = R g s := fun g hg s hs => by rw [hRw]; exact ss2 g (by omega) s hs
  have RC := cb_rightCount (N := N) c1 rr1 hN
  have hA : ∃ A : Nat → Nat, A = fun s => mK P R s (RS.length + 1) (RS.length + 1) := ⟨_, rfl⟩
  obtain ⟨A, hA⟩ := hA
  have MA : ∀ s, s < 8 → mm_F_mostAlike N (some 111) (nI s) h1 = some (nI (A s)) := fun s hs => by rw [hA]; exact cb_mostAlike c1 rr1 rr2' (by omega) PL hs hN
  have AA : ∀ s, s < 8 → mm_M_alikeAt N (some 118) (nI s) g1 = some (nI (A s)) := fun s hs => by rw [hA]; exact mb_alikeAt m1 HRS ss1' ss2' hs hN
  have A7 : ∀ s, A s ≤ 7 := fun s => by
    rw [hA]
    have := mK_le (P := P) (R := R) (s := s) (L := RS.length + 1) (RS.length + 1)
    show mK P R s (RS.length + 1) (RS.length + 1) ≤ 7
    omega
  have w01 : w = nI 0 ∨ w = nI 1 := by
    by_cases c0 : w = nI 0
    · exact Or.inl c0
    · exact Or.inr (Classical.byContradiction (fun h1 => sp_01 c0 h1 cw))
  by_cases ce : ∃ q, P q
  · obtain ⟨q, hpq⟩ := ce
    have hqL : q < RS.length + 1 := by
      rcases Nat.lt_or_ge q (RS.length + 1) with c | c
      · exact c
      · exact absurd hpq (PL q c)
    have rc1 : ¬ nI (ct P 7) ≤ nI 0 := by
      have h1 := ct_pos (show q < 7 by omega) hpq
      have h2 := ct_le (P := P) 7
      exact nI_ge h1 (by omega)
    have Ap : ∀ s, 0 < A s := fun s => by
      rw [hA]
      exact mK_pos hqL hpq _ hqL
    have l1 : ∀ w : Int32, ss_lp (mm_F_partingStep_b9 N (some 111) w h1) N (-nI 2, nI 8, nI 0) = some ((fM A k).elim (-nI 2) nI, (fM A k).elim (nI 8) (fun t => nI (A t))) := by
      intro w
      refine pb_lp (fun s => ((fM A s).elim (-nI 2) nI, (fM A s).elim (nI 8) (fun t => nI (A t)), nI s)) k (by omega) (fun s hs => ?_) ?_
      · have hlt : ¬ nI k ≤ nI s := nI_ge hs (by omega)
        have ma := MA s (by omega)
        have a7 := A7 s
        unfold mm_F_partingStep_b9 mm_F_partingStep_j51
        rw [fM]
        cases hf : fM A s with
        | none =>
          have n1 : ¬ nI 8 ≤ nI (A s) := nI_ge (by omega) (by omega)
          simp (disch := omega) only [pb_its, pb_l2, pb_ll, nI_add, pb_mul, if_true, if_false, pb_bs, pb_b2n, pb_bz0, pb_bz1, pb_10, pb_01, pb_i31, ck_is0 k1, ck_r0_0 k1, ck_r0_1 k1, ck_r0_2 k1, ck_r0_3 k1, ck_r0_4 k1, ck_r0_5 k1, ck_r0_6 k1, ck_r0_7 k1, ck_r0_8 k1, ck_r0_9 k1, ck_is1 k1, ck_r1_0 k1, ck_is3 k1, ck_r3_0 k1, ck_r3_1 k1, ck_is20 k1, ck_r20_0 k1, ck_r20_1 k1, ck_r20_2 k1, ck_is24 k1, ck_r24_1 k1, ck_r24_2 k1, ck_r24_3 k1, ck_r24_4 k1, ck_is33 k1, ck_r33_0 k1, ck_r33_1 k1, ck_is40 k1, ck_r40_0 k1, ck_is102 k1, ck_r102_0 k1, ck_r102_1 k1, ck_r102_2 k1, ck_r102_3 k1, ck_r102_4 k1, ck_r102_5 k1, ck_is103 k1, ck_r103_0 k1, ck_r103_1 k1, ck_is111 k1, ck_r111_0 k1, ck_r111_1 k1, ck_r111_2 k1, ck_r111_3 k1, ck_r111_4 k1, ck_is114 k1, ck_r114_0 k1, ck_r114_1 k1, ck_r114_2 k1, ck_r114_3 k1, ck_r114_4 k1, bVx, bIx, bTx, bFx, bDx, bSx, bHx, bR0x, bR1x, bR2x, bR3x, bR4x, bFox, bXx, bNox, bG0x, bG1x, bG2x, bG3x, hlt, RC, rc1, ma, Option.elim, n1]
        | some t =>
          have a7t := A7 t
          by_cases c : A s < A t
          · have n1 : ¬ nI (A t) ≤ nI (A s) := nI_ge c (by omega)
            simp (disch := omega) only [pb_its, pb_l2, pb_ll, nI_add, pb_mul, if_true, if_false, pb_bs, pb_b2n, pb_bz0, pb_bz1, pb_10, pb_01, pb_i31, ck_is0 k1, ck_r0_0 k1, ck_r0_1 k1, ck_r0_2 k1, ck_r0_3 k1, ck_r0_4 k1, ck_r0_5 k1, ck_r0_6 k1, ck_r0_7 k1, ck_r0_8 k1, ck_r0_9 k1, ck_is1 k1, ck_r1_0 k1, ck_is3 k1, ck_r3_0 k1, ck_r3_1 k1, ck_is20 k1, ck_r20_0 k1, ck_r20_1 k1, ck_r20_2 k1, ck_is24 k1, ck_r24_1 k1, ck_r24_2 k1, ck_r24_3 k1, ck_r24_4 k1, ck_is33 k1, ck_r33_0 k1, ck_r33_1 k1, ck_is40 k1, ck_r40_0 k1, ck_is102 k1, ck_r102_0 k1, ck_r102_1 k1, ck_r102_2 k1, ck_r102_3 k1, ck_r102_4 k1, ck_r102_5 k1, ck_is103 k1, ck_r103_0 k1, ck_r103_1 k1, ck_is111 k1, ck_r111_0 k1, ck_r111_1 k1, ck_r111_2 k1, ck_r111_3 k1, ck_r111_4 k1, ck_is114 k1, ck_r114_0 k1, ck_r114_1 k1, ck_r114_2 k1, ck_r114_3 k1, ck_r114_4 k1, bVx, bIx, bTx, bFx, bDx, bSx, bHx, bR0x, bR1x, bR2x, bR3x, bR4x, bFox, bXx, bNox, bG0x, bG1x, bG2x, bG3x, hlt, RC, rc1, ma, Option.elim, n1, c]
          · have n1 : nI (A t) ≤ nI (A s) := nI_le (by omega) (by omega)
            simp (disch := omega) only [pb_its, pb_l2, pb_ll, nI_add, pb_mul, if_true, if_false, pb_bs, pb_b2n, pb_bz0, pb_bz1, pb_10, pb_01, pb_i31, ck_is0 k1, ck_r0_0 k1, ck_r0_1 k1, ck_r0_2 k1, ck_r0_3 k1, ck_r0_4 k1, ck_r0_5 k1, ck_r0_6 k1, ck_r0_7 k1, ck_r0_8 k1, ck_r0_9 k1, ck_is1 k1, ck_r1_0 k1, ck_is3 k1, ck_r3_0 k1, ck_r3_1 k1, ck_is20 k1, ck_r20_0 k1, ck_r20_1 k1, ck_r20_2 k1, ck_is24 k1, ck_r24_1 k1, ck_r24_2 k1, ck_r24_3 k1, ck_r24_4 k1, ck_is33 k1, ck_r33_0 k1, ck_r33_1 k1, ck_is40 k1, ck_r40_0 k1, ck_is102 k1, ck_r102_0 k1, ck_r102_1 k1, ck_r102_2 k1, ck_r102_3 k1, ck_r102_4 k1, ck_r102_5 k1, ck_is103 k1, ck_r103_0 k1, ck_r103_1 k1, ck_is111 k1, ck_r111_0 k1, ck_r111_1 k1, ck_r111_2 k1, ck_r111_3 k1, ck_r111_4 k1, ck_is114 k1, ck_r114_0 k1, ck_r114_1 k1, ck_r114_2 k1, ck_r114_3 k1, ck_r114_4 k1, bVx, bIx, bTx, bFx, bDx, bSx, bHx, bR0x, bR1x, bR2x, bR3x, bR4x, bFox, bXx, bNox, bG0x, bG1x, bG2x, bG3x, hlt, RC, rc1, ma, Option.elim, n1, c]
      · unfold mm_F_partingStep_b9
        simp (disch := omega) only [pb_its, pb_l2, pb_ll, nI_add, pb_mul, if_true, if_false, pb_bs, pb_b2n, pb_bz0, pb_bz1, pb_10, pb_01, pb_i31, ck_is0 k1, ck_r0_0 k1, ck_r0_1 k1, ck_r0_2 k1, ck_r0_3 k1, ck_r0_4 k1, ck_r0_5 k1, ck_r0_6 k1, ck_r0_7 k1, ck_r0_8 k1, ck_r0_9 k1, ck_is1 k1, ck_r1_0 k1, ck_is3 k1, ck_r3_0 k1, ck_r3_1 k1, ck_is20 k1, ck_r20_0 k1, ck_r20_1 k1, ck_r20_2 k1, ck_is24 k1, ck_r24_1 k1, ck_r24_2 k1, ck_r24_3 k1, ck_r24_4 k1, ck_is33 k1, ck_r33_0 k1, ck_r33_1 k1, ck_is40 k1, ck_r40_0 k1, ck_is102 k1, ck_r102_0 k1, ck_r102_1 k1, ck_r102_2 k1, ck_r102_3 k1, ck_r102_4 k1, ck_r102_5 k1, ck_is103 k1, ck_r103_0 k1, ck_r103_1 k1, ck_is111 k1, ck_r111_0 k1, ck_r111_1 k1, ck_r111_2 k1, ck_r111_3 k1, ck_r111_4 k1, ck_is114 k1, ck_r114_0 k1, ck_r114_1 k1, ck_r114_2 k1, ck_r114_3 k1, ck_r114_4 k1, bVx, bIx, bTx, bFx, bDx, bSx, bHx, bR0x, bR1x, bR2x, bR3x, bR4x, bFox, bXx, bNox, bG0x, bG1x, bG2x, bG3x, nI_le (Nat.le_refl k) (by omega : k < 2 ^ 31)]
    have l2 : ss_lp (mm_M_look_b46 N (some 118) w g1) N (-nI 2, -nI 2, nI 0) = some ((fM A k).elim (-nI 2) nI, (fM A k).elim (-nI 2) (fun t => nI (A t))) := by
      refine pb_lp (fun s => ((fM A s).elim (-nI 2) nI, (fM A s).elim (-nI 2) (fun t => nI (A t)), nI s)) k (by omega) (fun s hs => ?_) ?_
      · have hlt : ¬ nI k ≤ nI s := nI_ge hs (by omega)
        have aa := AA s (by omega)
        have a7 := A7 s
        have n0 : ¬ nI (A s) = nI 0 := fun e => by
          have := (nI_eq (by omega) (by omega)).mp e
          have := Ap s
          omega
        have m2 : -nI 2 < nI 0 := by decide
        unfold mm_M_look_b46 mm_M_look_j84 mm_M_look_j91
        rw [fM]
        cases hf : fM A s with
        | none =>
          simp (disch := omega) only [pb_its, pb_l2, pb_ll, nI_add, pb_mul, if_true, if_false, pb_bs, pb_b2n, pb_bz0, pb_bz1, pb_10, pb_01, pb_i31, mk_is k2, mk_g0 k2, mk_g1 k2, mk_g2 k2, mk_g3 k2, mk_g4 k2, mk_g5 k2, mk_g6 k2, mk_g7 k2, mk_g8 k2, mk_g9 k2, mk_g10 k2, mk_g11 k2, mk_g12 k2, mk_g13 k2, mk_g14 k2, mk_g15 k2, mk_g16 k2, mk_g17 k2, mk_g18 k2, mk_g19 k2, mk_g20 k2, mk_g21 k2, mk_g22 k2, s2, hlt, aa, n0, Option.elim, m2]
        | some t =>
          have a7t := A7 t
          have htk : t < 2 ^ 31 := by
            have : ∀ s t, fM A s = some t → t < s := by
              intro s
              induction s with
              | zero => intro t h; cases h
              | succ s ih =>
                intro t h
                rw [fM] at h
                cases hs : fM A s with
                | none => rw [hs] at h; cases h; omega
                | some u =>
                  rw [hs] at h
                  have := ih u hs
                  by_cases c : A s < A u
                  · simp only [if_pos c] at h; cases h; omega
                  · simp only [if_neg c] at h; cases h; omega
            have := this s t hf
            omega
          have m3 : ¬ nI t < nI 0 := nI_nlt (by omega) htk
          by_cases c : A s < A t
          · have n1 : nI (A s) < nI (A t) := nI_lt c (by omega)
            simp (disch := omega) only [pb_its, pb_l2, pb_ll, nI_add, pb_mul, if_true, if_false, pb_bs, pb_b2n, pb_bz0, pb_bz1, pb_10, pb_01, pb_i31, mk_is k2, mk_g0 k2, mk_g1 k2, mk_g2 k2, mk_g3 k2, mk_g4 k2, mk_g5 k2, mk_g6 k2, mk_g7 k2, mk_g8 k2, mk_g9 k2, mk_g10 k2, mk_g11 k2, mk_g12 k2, mk_g13 k2, mk_g14 k2, mk_g15 k2, mk_g16 k2, mk_g17 k2, mk_g18 k2, mk_g19 k2, mk_g20 k2, mk_g21 k2, mk_g22 k2, s2, hlt, aa, n0, Option.elim, m3, n1, c]
          · have n1 : ¬ nI (A s) < nI (A t) := nI_nlt (by omega) (by omega)
            simp (disch := omega) only [pb_its, pb_l2, pb_ll, nI_add, pb_mul, if_true, if_false, pb_bs, pb_b2n, pb_bz0, pb_bz1, pb_10, pb_01, pb_i31, mk_is k2, mk_g0 k2, mk_g1 k2, mk_g2 k2, mk_g3 k2, mk_g4 k2, mk_g5 k2, mk_g6 k2, mk_g7 k2, mk_g8 k2, mk_g9 k2, mk_g10 k2, mk_g11 k2, mk_g12 k2, mk_g13 k2, mk_g14 k2, mk_g15 k2, mk_g16 k2, mk_g17 k2, mk_g18 k2, mk_g19 k2, mk_g20 k2, mk_g21 k2, mk_g22 k2, s2, hlt, aa, n0, Option.elim, m3, n1, c]
      · unfold mm_M_look_b46
        simp (disch := omega) only [pb_its, pb_l2, pb_ll, nI_add, pb_mul, if_true, if_false, pb_bs, pb_b2n, pb_bz0, pb_bz1, pb_10, pb_01, pb_i31, mk_is k2, mk_g0 k2, mk_g1 k2, mk_g2 k2, mk_g3 k2, mk_g4 k2, mk_g5 k2, mk_g6 k2, mk_g7 k2, mk_g8 k2, mk_g9 k2, mk_g10 k2, mk_g11 k2, mk_g12 k2, mk_g13 k2, mk_g14 k2, mk_g15 k2, mk_g16 k2, mk_g17 k2, mk_g18 k2, mk_g19 k2, mk_g20 k2, mk_g21 k2, mk_g22 k2, s2, nI_le (Nat.le_refl k) (by omega : k < 2 ^ 31)]
    cases hf : fM A k with
    | none =>
      rw [hf] at l1 l2
      refine jo_ask ha0 c1 m1 (r := -nI 2) ?_ ?_
      · unfold mm_S_look mm_S_look_j60 mm_F_partingStep mm_F_partingStep_j71 mm_F_partingStep_j72
        rcases w01 with e | e <;> subst e
        · simp (disch := omega) only [pb_its, pb_l2, pb_ll, nI_add, pb_mul, if_true, if_false, pb_bs, pb_b2n, pb_bz0, pb_bz1, pb_10, pb_01, pb_i31, ck_is0 hk, ck_r0_0 hk, ck_r0_1 hk, ck_r0_2 hk, ck_r0_3 hk, ck_r0_4 hk, ck_r0_5 hk, ck_r0_6 hk, ck_r0_7 hk, ck_r0_8 hk, ck_r0_9 hk, ck_is1 hk, ck_r1_0 hk, ck_is3 hk, ck_r3_0 hk, ck_r3_1 hk, ck_is20 hk, ck_r20_0 hk, ck_r20_1 hk, ck_r20_2 hk, ck_is24 hk, ck_r24_1 hk, ck_r24_2 hk, ck_r24_3 hk, ck_r24_4 hk, ck_is33 hk, ck_r33_0 hk, ck_r33_1 hk, ck_is40 hk, ck_r40_0 hk, ck_is102 hk, ck_r102_0 hk, ck_r102_1 hk, ck_r102_2 hk, ck_r102_3 hk, ck_r102_4 hk, ck_r102_5 hk, ck_is103 hk, ck_r103_0 hk, ck_r103_1 hk, ck_is111 hk, ck_r111_0 hk, ck_r111_1 hk, ck_r111_2 hk, ck_r111_3 hk, ck_r111_4 hk, ck_is114 hk, ck_r114_0 hk, ck_r114_1 hk, ck_r114_2 hk, ck_r114_3 hk, ck_r114_4 hk, bV, bI, bT, bF, bD, bS, bH, bR0, bR1, bR2, bR3, bR4, bFo, bX, bNo, bG0, bG1, bG2, bG3, t1, pq_withinC, pb_ct cy, pb_ct cw, r1, e1, ck_is0 k1, ck_r0_0 k1, ck_r0_1 k1, ck_r0_2 k1, ck_r0_3 k1, ck_r0_4 k1, ck_r0_5 k1, ck_r0_6 k1, ck_r0_7 k1, ck_r0_8 k1, ck_r0_9 k1, ck_is1 k1, ck_r1_0 k1, ck_is3 k1, ck_r3_0 k1, ck_r3_1 k1, ck_is20 k1, ck_r20_0 k1, ck_r20_1 k1, ck_r20_2 k1, ck_is24 k1, ck_r24_1 k1, ck_r24_2 k1, ck_r24_3 k1, ck_r24_4 k1, ck_is33 k1, ck_r33_0 k1, ck_r33_1 k1, ck_is40 k1, ck_r40_0 k1, ck_is102 k1, ck_r102_0 k1, ck_r102_1 k1, ck_r102_2 k1, ck_r102_3 k1, ck_r102_4 k1, ck_r102_5 k1, ck_is103 k1, ck_r103_0 k1, ck_r103_1 k1, ck_is111 k1, ck_r111_0 k1, ck_r111_1 k1, ck_r111_2 k1, ck_r111_3 k1, ck_r111_4 k1, ck_is114 k1, ck_r114_0 k1, ck_r114_1 k1, ck_r114_2 k1, ck_r114_3 k1, ck_r114_4 k1, l1, Option.elim]
        · simp (disch := omega) only [pb_its, pb_l2, pb_ll, nI_add, pb_mul, if_true, if_false, pb_bs, pb_b2n, pb_bz0, pb_bz1, pb_10, pb_01, pb_i31, ck_is0 hk, ck_r0_0 hk, ck_r0_1 hk, ck_r0_2 hk, ck_r0_3 hk, ck_r0_4 hk, ck_r0_5 hk, ck_r0_6 hk, ck_r0_7 hk, ck_r0_8 hk, ck_r0_9 hk, ck_is1 hk, ck_r1_0 hk, ck_is3 hk, ck_r3_0 hk, ck_r3_1 hk, ck_is20 hk, ck_r20_0 hk, ck_r20_1 hk, ck_r20_2 hk, ck_is24 hk, ck_r24_1 hk, ck_r24_2 hk, ck_r24_3 hk, ck_r24_4 hk, ck_is33 hk, ck_r33_0 hk, ck_r33_1 hk, ck_is40 hk, ck_r40_0 hk, ck_is102 hk, ck_r102_0 hk, ck_r102_1 hk, ck_r102_2 hk, ck_r102_3 hk, ck_r102_4 hk, ck_r102_5 hk, ck_is103 hk, ck_r103_0 hk, ck_r103_1 hk, ck_is111 hk, ck_r111_0 hk, ck_r111_1 hk, ck_r111_2 hk, ck_r111_3 hk, ck_r111_4 hk, ck_is114 hk, ck_r114_0 hk, ck_r114_1 hk, ck_r114_2 hk, ck_r114_3 hk, ck_r114_4 hk, bV, bI, bT, bF, bD, bS, bH, bR0, bR1, bR2, bR3, bR4, bFo, bX, bNo, bG0, bG1, bG2, bG3, t1, pq_withinC, pb_ct cy, pb_ct cw, r1, e1, ck_is0 k1, ck_r0_0 k1, ck_r0_1 k1, ck_r0_2 k1, ck_r0_3 k1, ck_r0_4 k1, ck_r0_5 k1, ck_r0_6 k1, ck_r0_7 k1, ck_r0_8 k1, ck_r0_9 k1, ck_is1 k1, ck_r1_0 k1, ck_is3 k1, ck_r3_0 k1, ck_r3_1 k1, ck_is20 k1, ck_r20_0 k1, ck_r20_1 k1, ck_r20_2 k1, ck_is24 k1, ck_r24_1 k1, ck_r24_2 k1, ck_r24_3 k1, ck_r24_4 k1, ck_is33 k1, ck_r33_0 k1, ck_r33_1 k1, ck_is40 k1, ck_r40_0 k1, ck_is102 k1, ck_r102_0 k1, ck_r102_1 k1, ck_r102_2 k1, ck_r102_3 k1, ck_r102_4 k1, ck_r102_5 k1, ck_is103 k1, ck_r103_0 k1, ck_r103_1 k1, ck_is111 k1, ck_r111_0 k1, ck_r111_1 k1, ck_r111_2 k1, ck_r111_3 k1, ck_r111_4 k1, ck_is114 k1, ck_r114_0 k1, ck_r114_1 k1, ck_r114_2 k1, ck_r114_3 k1, ck_r114_4 k1, l1, Option.elim]
      · unfold mm_M_look mm_M_look_j107
        rcases w01 with e | e <;> subst e
        · simp (disch := omega) only [pb_its, pb_l2, pb_ll, nI_add, pb_mul, if_true, if_false, pb_bs, pb_b2n, pb_bz0, pb_bz1, pb_10, pb_01, pb_i31, mk_is hk2, mk_g0 hk2, mk_g1 hk2, mk_g2 hk2, mk_g3 hk2, mk_g4 hk2, mk_g5 hk2, mk_g6 hk2, mk_g7 hk2, mk_g8 hk2, mk_g9 hk2, mk_g10 hk2, mk_g11 hk2, mk_g12 hk2, mk_g13 hk2, mk_g14 hk2, mk_g15 hk2, mk_g16 hk2, mk_g17 hk2, mk_g18 hk2, mk_g19 hk2, mk_g20 hk2, mk_g21 hk2, mk_g22 hk2, mb_isValley hm1 Hl, t1, po_inC, pb_ct cy, pb_ct cw, f1, l2, Option.elim]
        · simp (disch := omega) only [pb_its, pb_l2, pb_ll, nI_add, pb_mul, if_true, if_false, pb_bs, pb_b2n, pb_bz0, pb_bz1, pb_10, pb_01, pb_i31, mk_is hk2, mk_g0 hk2, mk_g1 hk2, mk_g2 hk2, mk_g3 hk2, mk_g4 hk2, mk_g5 hk2, mk_g6 hk2, mk_g7 hk2, mk_g8 hk2, mk_g9 hk2, mk_g10 hk2, mk_g11 hk2, mk_g12 hk2, mk_g13 hk2, mk_g14 hk2, mk_g15 hk2, mk_g16 hk2, mk_g17 hk2, mk_g18 hk2, mk_g19 hk2, mk_g20 hk2, mk_g21 hk2, mk_g22 hk2, mb_isValley hm1 Hl, t1, po_inC, pb_ct cy, pb_ct cw, f1, l2, Option.elim]
    | some t =>
      rw [hf] at l1 l2
      have htk : t < 2 ^ 31 := by
        have : ∀ s t, fM A s = some t → t < s := by
          intro s
          induction s with
          | zero => intro t h; cases h
          | succ s ih =>
            intro t h
            rw [fM] at h
            cases hs : fM A s with
            | none => rw [hs] at h; cases h; omega
            | some u =>
              rw [hs] at h
              have := ih u hs
              by_cases c : A s < A u
              · simp only [if_pos c] at h; cases h; omega
              · simp only [if_neg c] at h; cases h; omega
        have := this k t hf
        omega
      have n2 : ¬ nI t = -nI 2 := fun e => by
        have : -nI 2 < nI 0 := by decide
        rw [← e] at this
        exact absurd this (nI_nlt (by omega) htk)
      rcases w01 with e | e <;> subst e
      · refine jo_ask ha0 c1 m1 (r := nI t) ?_ ?_
        · unfold mm_S_look mm_S_look_j60 mm_F_partingStep mm_F_partingStep_j71 mm_F_partingStep_j72
          simp (disch := omega) only [pb_its, pb_l2, pb_ll, nI_add, pb_mul, if_true, if_false, pb_bs, pb_b2n, pb_bz0, pb_bz1, pb_10, pb_01, pb_i31, ck_is0 hk, ck_r0_0 hk, ck_r0_1 hk, ck_r0_2 hk, ck_r0_3 hk, ck_r0_4 hk, ck_r0_5 hk, ck_r0_6 hk, ck_r0_7 hk, ck_r0_8 hk, ck_r0_9 hk, ck_is1 hk, ck_r1_0 hk, ck_is3 hk, ck_r3_0 hk, ck_r3_1 hk, ck_is20 hk, ck_r20_0 hk, ck_r20_1 hk, ck_r20_2 hk, ck_is24 hk, ck_r24_1 hk, ck_r24_2 hk, ck_r24_3 hk, ck_r24_4 hk, ck_is33 hk, ck_r33_0 hk, ck_r33_1 hk, ck_is40 hk, ck_r40_0 hk, ck_is102 hk, ck_r102_0 hk, ck_r102_1 hk, ck_r102_2 hk, ck_r102_3 hk, ck_r102_4 hk, ck_r102_5 hk, ck_is103 hk, ck_r103_0 hk, ck_r103_1 hk, ck_is111 hk, ck_r111_0 hk, ck_r111_1 hk, ck_r111_2 hk, ck_r111_3 hk, ck_r111_4 hk, ck_is114 hk, ck_r114_0 hk, ck_r114_1 hk, ck_r114_2 hk, ck_r114_3 hk, ck_r114_4 hk, bV, bI, bT, bF, bD, bS, bH, bR0, bR1, bR2, bR3, bR4, bFo, bX, bNo, bG0, bG1, bG2, bG3, t1, pq_withinC, pb_ct cy, pb_ct cw, r1, e1, ck_is0 k1, ck_r0_0 k1, ck_r0_1 k1, ck_r0_2 k1, ck_r0_3 k1, ck_r0_4 k1, ck_r0_5 k1, ck_r0_6 k1, ck_r0_7 k1, ck_r0_8 k1, ck_r0_9 k1, ck_is1 k1, ck_r1_0 k1, ck_is3 k1, ck_r3_0 k1, ck_r3_1 k1, ck_is20 k1, ck_r20_0 k1, ck_r20_1 k1, ck_r20_2 k1, ck_is24 k1, ck_r24_1 k1, ck_r24_2 k1, ck_r24_3 k1, ck_r24_4 k1, ck_is33 k1, ck_r33_0 k1, ck_r33_1 k1, ck_is40 k1, ck_r40_0 k1, ck_is102 k1, ck_r102_0 k1, ck_r102_1 k1, ck_r102_2 k1, ck_r102_3 k1, ck_r102_4 k1, ck_r102_5 k1, ck_is103 k1, ck_r103_0 k1, ck_r103_1 k1, ck_is111 k1, ck_r111_0 k1, ck_r111_1 k1, ck_r111_2 k1, ck_r111_3 k1, ck_r111_4 k1, ck_is114 k1, ck_r114_0 k1, ck_r114_1 k1, ck_r114_2 k1, ck_r114_3 k1, ck_r114_4 k1, l1, Option.elim, n2]
        · unfold mm_M_look mm_M_look_j107
          simp (disch := omega) only [pb_its, pb_l2, pb_ll, nI_add, pb_mul, if_true, if_false, pb_bs, pb_b2n, pb_bz0, pb_bz1, pb_10, pb_01, pb_i31, mk_is hk2, mk_g0 hk2, mk_g1 hk2, mk_g2 hk2, mk_g3 hk2, mk_g4 hk2, mk_g5 hk2, mk_g6 hk2, mk_g7 hk2, mk_g8 hk2, mk_g9 hk2, mk_g10 hk2, mk_g11 hk2, mk_g12 hk2, mk_g13 hk2, mk_g14 hk2, mk_g15 hk2, mk_g16 hk2, mk_g17 hk2, mk_g18 hk2, mk_g19 hk2, mk_g20 hk2, mk_g21 hk2, mk_g22 hk2, mb_isValley hm1 Hl, t1, po_inC, pb_ct cy, pb_ct cw, f1, l2, Option.elim]
      · refine jo_ask ha0 c1 m1 (r := nI (A t)) ?_ ?_
        · unfold mm_S_look mm_S_look_j60 mm_F_partingStep mm_F_partingStep_j72
          simp (disch := omega) only [pb_its, pb_l2, pb_ll, nI_add, pb_mul, if_true, if_false, pb_bs, pb_b2n, pb_bz0, pb_bz1, pb_10, pb_01, pb_i31, ck_is0 hk, ck_r0_0 hk, ck_r0_1 hk, ck_r0_2 hk, ck_r0_3 hk, ck_r0_4 hk, ck_r0_5 hk, ck_r0_6 hk, ck_r0_7 hk, ck_r0_8 hk, ck_r0_9 hk, ck_is1 hk, ck_r1_0 hk, ck_is3 hk, ck_r3_0 hk, ck_r3_1 hk, ck_is20 hk, ck_r20_0 hk, ck_r20_1 hk, ck_r20_2 hk, ck_is24 hk, ck_r24_1 hk, ck_r24_2 hk, ck_r24_3 hk, ck_r24_4 hk, ck_is33 hk, ck_r33_0 hk, ck_r33_1 hk, ck_is40 hk, ck_r40_0 hk, ck_is102 hk, ck_r102_0 hk, ck_r102_1 hk, ck_r102_2 hk, ck_r102_3 hk, ck_r102_4 hk, ck_r102_5 hk, ck_is103 hk, ck_r103_0 hk, ck_r103_1 hk, ck_is111 hk, ck_r111_0 hk, ck_r111_1 hk, ck_r111_2 hk, ck_r111_3 hk, ck_r111_4 hk, ck_is114 hk, ck_r114_0 hk, ck_r114_1 hk, ck_r114_2 hk, ck_r114_3 hk, ck_r114_4 hk, bV, bI, bT, bF, bD, bS, bH, bR0, bR1, bR2, bR3, bR4, bFo, bX, bNo, bG0, bG1, bG2, bG3, t1, pq_withinC, pb_ct cy, pb_ct cw, r1, e1, ck_is0 k1, ck_r0_0 k1, ck_r0_1 k1, ck_r0_2 k1, ck_r0_3 k1, ck_r0_4 k1, ck_r0_5 k1, ck_r0_6 k1, ck_r0_7 k1, ck_r0_8 k1, ck_r0_9 k1, ck_is1 k1, ck_r1_0 k1, ck_is3 k1, ck_r3_0 k1, ck_r3_1 k1, ck_is20 k1, ck_r20_0 k1, ck_r20_1 k1, ck_r20_2 k1, ck_is24 k1, ck_r24_1 k1, ck_r24_2 k1, ck_r24_3 k1, ck_r24_4 k1, ck_is33 k1, ck_r33_0 k1, ck_r33_1 k1, ck_is40 k1, ck_r40_0 k1, ck_is102 k1, ck_r102_0 k1, ck_r102_1 k1, ck_r102_2 k1, ck_r102_3 k1, ck_r102_4 k1, ck_r102_5 k1, ck_is103 k1, ck_r103_0 k1, ck_r103_1 k1, ck_is111 k1, ck_r111_0 k1, ck_r111_1 k1, ck_r111_2 k1, ck_r111_3 k1, ck_r111_4 k1, ck_is114 k1, ck_r114_0 k1, ck_r114_1 k1, ck_r114_2 k1, ck_r114_3 k1, ck_r114_4 k1, l1, Option.elim, n2]
        · unfold mm_M_look mm_M_look_j107
          simp (disch := omega) only [pb_its, pb_l2, pb_ll, nI_add, pb_mul, if_true, if_false, pb_bs, pb_b2n, pb_bz0, pb_bz1, pb_10, pb_01, pb_i31, mk_is hk2, mk_g0 hk2, mk_g1 hk2, mk_g2 hk2, mk_g3 hk2, mk_g4 hk2, mk_g5 hk2, mk_g6 hk2, mk_g7 hk2, mk_g8 hk2, mk_g9 hk2, mk_g10 hk2, mk_g11 hk2, mk_g12 hk2, mk_g13 hk2, mk_g14 hk2, mk_g15 hk2, mk_g16 hk2, mk_g17 hk2, mk_g18 hk2, mk_g19 hk2, mk_g20 hk2, mk_g21 hk2, mk_g22 hk2, mb_isValley hm1 Hl, t1, po_inC, pb_ct cy, pb_ct cw, f1, l2, Option.elim]
  · have hno : ∀ q, ¬ P q := fun q p => ce ⟨q, p⟩
    have rc0 : nI (ct P 7) ≤ nI 0 := by
      rw [ct_zero (fun q _ => hno q)]
      exact Int32.le_refl _
    have A0 : ∀ s, A s = 0 := fun s => by
      rw [hA]
      exact mK_zero hno _
    have l1 : ∀ w : Int32, ss_lp (mm_F_partingStep_b9 N (some 111) w h1) N (-nI 2, nI 8, nI 0) = some (-nI 2, nI 8) := by
      intro w
      refine pb_mono 1 N _ _ (pb_stop ?_) (by omega)
      unfold mm_F_partingStep_b9
      by_cases c : nI k ≤ nI 0
      · simp (disch := omega) only [pb_its, pb_l2, pb_ll, nI_add, pb_mul, if_true, if_false, pb_bs, pb_b2n, pb_bz0, pb_bz1, pb_10, pb_01, pb_i31, ck_is0 k1, ck_r0_0 k1, ck_r0_1 k1, ck_r0_2 k1, ck_r0_3 k1, ck_r0_4 k1, ck_r0_5 k1, ck_r0_6 k1, ck_r0_7 k1, ck_r0_8 k1, ck_r0_9 k1, ck_is1 k1, ck_r1_0 k1, ck_is3 k1, ck_r3_0 k1, ck_r3_1 k1, ck_is20 k1, ck_r20_0 k1, ck_r20_1 k1, ck_r20_2 k1, ck_is24 k1, ck_r24_1 k1, ck_r24_2 k1, ck_r24_3 k1, ck_r24_4 k1, ck_is33 k1, ck_r33_0 k1, ck_r33_1 k1, ck_is40 k1, ck_r40_0 k1, ck_is102 k1, ck_r102_0 k1, ck_r102_1 k1, ck_r102_2 k1, ck_r102_3 k1, ck_r102_4 k1, ck_r102_5 k1, ck_is103 k1, ck_r103_0 k1, ck_r103_1 k1, ck_is111 k1, ck_r111_0 k1, ck_r111_1 k1, ck_r111_2 k1, ck_r111_3 k1, ck_r111_4 k1, ck_is114 k1, ck_r114_0 k1, ck_r114_1 k1, ck_r114_2 k1, ck_r114_3 k1, ck_r114_4 k1, bVx, bIx, bTx, bFx, bDx, bSx, bHx, bR0x, bR1x, bR2x, bR3x, bR4x, bFox, bXx, bNox, bG0x, bG1x, bG2x, bG3x, c]
      · simp (disch := omega) only [pb_its, pb_l2, pb_ll, nI_add, pb_mul, if_true, if_false, pb_bs, pb_b2n, pb_bz0, pb_bz1, pb_10, pb_01, pb_i31, ck_is0 k1, ck_r0_0 k1, ck_r0_1 k1, ck_r0_2 k1, ck_r0_3 k1, ck_r0_4 k1, ck_r0_5 k1, ck_r0_6 k1, ck_r0_7 k1, ck_r0_8 k1, ck_r0_9 k1, ck_is1 k1, ck_r1_0 k1, ck_is3 k1, ck_r3_0 k1, ck_r3_1 k1, ck_is20 k1, ck_r20_0 k1, ck_r20_1 k1, ck_r20_2 k1, ck_is24 k1, ck_r24_1 k1, ck_r24_2 k1, ck_r24_3 k1, ck_r24_4 k1, ck_is33 k1, ck_r33_0 k1, ck_r33_1 k1, ck_is40 k1, ck_r40_0 k1, ck_is102 k1, ck_r102_0 k1, ck_r102_1 k1, ck_r102_2 k1, ck_r102_3 k1, ck_r102_4 k1, ck_r102_5 k1, ck_is103 k1, ck_r103_0 k1, ck_r103_1 k1, ck_is111 k1, ck_r111_0 k1, ck_r111_1 k1, ck_r111_2 k1, ck_r111_3 k1, ck_r111_4 k1, ck_is114 k1, ck_r114_0 k1, ck_r114_1 k1, ck_r114_2 k1, ck_r114_3 k1, ck_r114_4 k1, bVx, bIx, bTx, bFx, bDx, bSx, bHx, bR0x, bR1x, bR2x, bR3x, bR4x, bFox, bXx, bNox, bG0x, bG1x, bG2x, bG3x, c, RC, rc0]
    have l2 : ss_lp (mm_M_look_b46 N (some 118) w g1) N (-nI 2, -nI 2, nI 0) = some (-nI 2, -nI 2) := by
      refine pb_lp (fun s => (-nI 2, -nI 2, nI s)) k (by omega) (fun s hs => ?_) ?_
      · have hlt : ¬ nI k ≤ nI s := nI_ge hs (by omega)
        have aa := AA s (by omega)
        rw [A0 s] at aa
        unfold mm_M_look_b46 mm_M_look_j91
        simp (disch := omega) only [pb_its, pb_l2, pb_ll, nI_add, pb_mul, if_true, if_false, pb_bs, pb_b2n, pb_bz0, pb_bz1, pb_10, pb_01, pb_i31, mk_is k2, mk_g0 k2, mk_g1 k2, mk_g2 k2, mk_g3 k2, mk_g4 k2, mk_g5 k2, mk_g6 k2, mk_g7 k2, mk_g8 k2, mk_g9 k2, mk_g10 k2, mk_g11 k2, mk_g12 k2, mk_g13 k2, mk_g14 k2, mk_g15 k2, mk_g16 k2, mk_g17 k2, mk_g18 k2, mk_g19 k2, mk_g20 k2, mk_g21 k2, mk_g22 k2, s2, hlt, aa]
      · unfold mm_M_look_b46
        simp (disch := omega) only [pb_its, pb_l2, pb_ll, nI_add, pb_mul, if_true, if_false, pb_bs, pb_b2n, pb_bz0, pb_bz1, pb_10, pb_01, pb_i31, mk_is k2, mk_g0 k2, mk_g1 k2, mk_g2 k2, mk_g3 k2, mk_g4 k2, mk_g5 k2, mk_g6 k2, mk_g7 k2, mk_g8 k2, mk_g9 k2, mk_g10 k2, mk_g11 k2, mk_g12 k2, mk_g13 k2, mk_g14 k2, mk_g15 k2, mk_g16 k2, mk_g17 k2, mk_g18 k2, mk_g19 k2, mk_g20 k2, mk_g21 k2, mk_g22 k2, s2, nI_le (Nat.le_refl k) (by omega : k < 2 ^ 31)]
    refine jo_ask ha0 c1 m1 (r := -nI 2) ?_ ?_
    · unfold mm_S_look mm_S_look_j60 mm_F_partingStep mm_F_partingStep_j71 mm_F_partingStep_j72
      rcases w01 with e | e <;> subst e
      · simp (disch := omega) only [pb_its, pb_l2, pb_ll, nI_add, pb_mul, if_true, if_false, pb_bs, pb_b2n, pb_bz0, pb_bz1, pb_10, pb_01, pb_i31, ck_is0 hk, ck_r0_0 hk, ck_r0_1 hk, ck_r0_2 hk, ck_r0_3 hk, ck_r0_4 hk, ck_r0_5 hk, ck_r0_6 hk, ck_r0_7 hk, ck_r0_8 hk, ck_r0_9 hk, ck_is1 hk, ck_r1_0 hk, ck_is3 hk, ck_r3_0 hk, ck_r3_1 hk, ck_is20 hk, ck_r20_0 hk, ck_r20_1 hk, ck_r20_2 hk, ck_is24 hk, ck_r24_1 hk, ck_r24_2 hk, ck_r24_3 hk, ck_r24_4 hk, ck_is33 hk, ck_r33_0 hk, ck_r33_1 hk, ck_is40 hk, ck_r40_0 hk, ck_is102 hk, ck_r102_0 hk, ck_r102_1 hk, ck_r102_2 hk, ck_r102_3 hk, ck_r102_4 hk, ck_r102_5 hk, ck_is103 hk, ck_r103_0 hk, ck_r103_1 hk, ck_is111 hk, ck_r111_0 hk, ck_r111_1 hk, ck_r111_2 hk, ck_r111_3 hk, ck_r111_4 hk, ck_is114 hk, ck_r114_0 hk, ck_r114_1 hk, ck_r114_2 hk, ck_r114_3 hk, ck_r114_4 hk, bV, bI, bT, bF, bD, bS, bH, bR0, bR1, bR2, bR3, bR4, bFo, bX, bNo, bG0, bG1, bG2, bG3, t1, pq_withinC, pb_ct cy, pb_ct cw, r1, e1, ck_is0 k1, ck_r0_0 k1, ck_r0_1 k1, ck_r0_2 k1, ck_r0_3 k1, ck_r0_4 k1, ck_r0_5 k1, ck_r0_6 k1, ck_r0_7 k1, ck_r0_8 k1, ck_r0_9 k1, ck_is1 k1, ck_r1_0 k1, ck_is3 k1, ck_r3_0 k1, ck_r3_1 k1, ck_is20 k1, ck_r20_0 k1, ck_r20_1 k1, ck_r20_2 k1, ck_is24 k1, ck_r24_1 k1, ck_r24_2 k1, ck_r24_3 k1, ck_r24_4 k1, ck_is33 k1, ck_r33_0 k1, ck_r33_1 k1, ck_is40 k1, ck_r40_0 k1, ck_is102 k1, ck_r102_0 k1, ck_r102_1 k1, ck_r102_2 k1, ck_r102_3 k1, ck_r102_4 k1, ck_r102_5 k1, ck_is103 k1, ck_r103_0 k1, ck_r103_1 k1, ck_is111 k1, ck_r111_0 k1, ck_r111_1 k1, ck_r111_2 k1, ck_r111_3 k1, ck_r111_4 k1, ck_is114 k1, ck_r114_0 k1, ck_r114_1 k1, ck_r114_2 k1, ck_r114_3 k1, ck_r114_4 k1, l1]
      · simp (disch := omega) only [pb_its, pb_l2, pb_ll, nI_add, pb_mul, if_true, if_false, pb_bs, pb_b2n, pb_bz0, pb_bz1, pb_10, pb_01, pb_i31, ck_is0 hk, ck_r0_0 hk, ck_r0_1 hk, ck_r0_2 hk, ck_r0_3 hk, ck_r0_4 hk, ck_r0_5 hk, ck_r0_6 hk, ck_r0_7 hk, ck_r0_8 hk, ck_r0_9 hk, ck_is1 hk, ck_r1_0 hk, ck_is3 hk, ck_r3_0 hk, ck_r3_1 hk, ck_is20 hk, ck_r20_0 hk, ck_r20_1 hk, ck_r20_2 hk, ck_is24 hk, ck_r24_1 hk, ck_r24_2 hk, ck_r24_3 hk, ck_r24_4 hk, ck_is33 hk, ck_r33_0 hk, ck_r33_1 hk, ck_is40 hk, ck_r40_0 hk, ck_is102 hk, ck_r102_0 hk, ck_r102_1 hk, ck_r102_2 hk, ck_r102_3 hk, ck_r102_4 hk, ck_r102_5 hk, ck_is103 hk, ck_r103_0 hk, ck_r103_1 hk, ck_is111 hk, ck_r111_0 hk, ck_r111_1 hk, ck_r111_2 hk, ck_r111_3 hk, ck_r111_4 hk, ck_is114 hk, ck_r114_0 hk, ck_r114_1 hk, ck_r114_2 hk, ck_r114_3 hk, ck_r114_4 hk, bV, bI, bT, bF, bD, bS, bH, bR0, bR1, bR2, bR3, bR4, bFo, bX, bNo, bG0, bG1, bG2, bG3, t1, pq_withinC, pb_ct cy, pb_ct cw, r1, e1, ck_is0 k1, ck_r0_0 k1, ck_r0_1 k1, ck_r0_2 k1, ck_r0_3 k1, ck_r0_4 k1, ck_r0_5 k1, ck_r0_6 k1, ck_r0_7 k1, ck_r0_8 k1, ck_r0_9 k1, ck_is1 k1, ck_r1_0 k1, ck_is3 k1, ck_r3_0 k1, ck_r3_1 k1, ck_is20 k1, ck_r20_0 k1, ck_r20_1 k1, ck_r20_2 k1, ck_is24 k1, ck_r24_1 k1, ck_r24_2 k1, ck_r24_3 k1, ck_r24_4 k1, ck_is33 k1, ck_r33_0 k1, ck_r33_1 k1, ck_is40 k1, ck_r40_0 k1, ck_is102 k1, ck_r102_0 k1, ck_r102_1 k1, ck_r102_2 k1, ck_r102_3 k1, ck_r102_4 k1, ck_r102_5 k1, ck_is103 k1, ck_r103_0 k1, ck_r103_1 k1, ck_is111 k1, ck_r111_0 k1, ck_r111_1 k1, ck_r111_2 k1, ck_r111_3 k1, ck_r111_4 k1, ck_is114 k1, ck_r114_0 k1, ck_r114_1 k1, ck_r114_2 k1, ck_r114_3 k1, ck_r114_4 k1, l1]
    · unfold mm_M_look mm_M_look_j107
      rcases w01 with e | e <;> subst e
      · simp (disch := omega) only [pb_its, pb_l2, pb_ll, nI_add, pb_mul, if_true, if_false, pb_bs, pb_b2n, pb_bz0, pb_bz1, pb_10, pb_01, pb_i31, mk_is hk2, mk_g0 hk2, mk_g1 hk2, mk_g2 hk2, mk_g3 hk2, mk_g4 hk2, mk_g5 hk2, mk_g6 hk2, mk_g7 hk2, mk_g8 hk2, mk_g9 hk2, mk_g10 hk2, mk_g11 hk2, mk_g12 hk2, mk_g13 hk2, mk_g14 hk2, mk_g15 hk2, mk_g16 hk2, mk_g17 hk2, mk_g18 hk2, mk_g19 hk2, mk_g20 hk2, mk_g21 hk2, mk_g22 hk2, mb_isValley hm1 Hl, t1, po_inC, pb_ct cy, pb_ct cw, f1, l2]
      · simp (disch := omega) only [pb_its, pb_l2, pb_ll, nI_add, pb_mul, if_true, if_false, pb_bs, pb_b2n, pb_bz0, pb_bz1, pb_10, pb_01, pb_i31, mk_is hk2, mk_g0 hk2, mk_g1 hk2, mk_g2 hk2, mk_g3 hk2, mk_g4 hk2, mk_g5 hk2, mk_g6 hk2, mk_g7 hk2, mk_g8 hk2, mk_g9 hk2, mk_g10 hk2, mk_g11 hk2, mk_g12 hk2, mk_g13 hk2, mk_g14 hk2, mk_g15 hk2, mk_g16 hk2, mk_g17 hk2, mk_g18 hk2, mk_g19 hk2, mk_g20 hk2, mk_g21 hk2, mk_g22 hk2, mb_isValley hm1 Hl, t1, po_inC, pb_ct cy, pb_ct cw, f1, l2]
