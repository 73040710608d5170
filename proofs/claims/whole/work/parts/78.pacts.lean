/-! ===== pacts: what is asked ===== -/
def sM (F : Nat → Nat → Int32) (q : Nat) : Nat → Int32
  | 0 => nI 0
  | i + 1 => sM F q i + F q i
def pP (F : Nat → Nat → Int32) (m q : Nat) : Prop := ∀ i, i < m → F (q ^^^ 2 ^ i) i ≤ F q i
theorem pb_xs {q i m : Nat} (hq : q < 2 ^ m) (hi : i < m) : q ^^^ 2 ^ i < 2 ^ m := Nat.xor_lt_two_pow hq (Nat.pow_lt_pow_right (by omega) hi)
theorem cb_sumOf {N : Nat} {h0 h : ss_Hp} {T : List Nat} {a : List Int32} {fo x : Int32} {RS : List (List ru_C)} {US : List (List Int32)} {I : Nat → Option (List Int32 × Int32 × Int32)} {Z : Nat → List Int32} {m q : Nat} {F : Nat → Nat → Int32} (hc : cb_h h0 h T a fo x RS US I Z) (hm : m ≤ 4) (h3 : pv a 3 = nI m) (hq : q < 2 ^ m) (hr : ∀ q i, q < 2 ^ m → i < 4 → pv (Z 4) (4 * q + i) = F q i) (hN : 5000 < N) : mm_P_sumOf N (some 114) (nI q) h = some (sM F q m) := by
  have hp2 : 2 ^ m ≤ 16 := Nat.pow_le_pow_right (n := 2) (by omega) (show m ≤ 4 from hm)
  obtain ⟨v, ⟨⟨bV, bI, bT, bF, bD, bS, bH⟩, ⟨bR0, bR1, bR2, bR3, bR4⟩, ⟨bFo, bX, bNo⟩, ⟨bG0, bG1, bG2, bG3⟩, bOwn, bStr, bBes, bSn, bWl, bNd, bCl⟩⟩ := cb_r hc
  rw [h3] at bH
  have hk := cb_ck hc
  have l : ss_lp (mm_P_sumOf_b4 N (some 114) (nI q) h) N (nI 0, nI 0) = some (sM F q m) := by
    refine pb_lp (fun i => (sM F q i, nI i)) m (by omega) (fun i hi => ?_) ?_
    · have hlt : ¬ nI m ≤ nI i := nI_ge hi (by omega)
      have z4 := cb_z4 hc (show 4 * q + i < 64 by omega)
      rw [hr q i hq (by omega)] at z4
      unfold mm_P_sumOf_b4
      simp (disch := omega) only [pb_its, pb_l2, pb_ll, nI_add, pb_mul, if_true, if_false, pb_bs, pb_b2n, pb_bz0, pb_bz1, pb_10, pb_01, pb_i31, ck_is0 hk, ck_r0_0 hk, ck_r0_1 hk, ck_r0_2 hk, ck_r0_3 hk, ck_r0_4 hk, ck_r0_5 hk, ck_r0_6 hk, ck_r0_7 hk, ck_r0_8 hk, ck_r0_9 hk, ck_is1 hk, ck_r1_0 hk, ck_is3 hk, ck_r3_0 hk, ck_r3_1 hk, ck_is20 hk, ck_r20_0 hk, ck_r20_1 hk, ck_r20_2 hk, ck_is24 hk, ck_r24_1 hk, ck_r24_2 hk, ck_r24_3 hk, ck_r24_4 hk, ck_is33 hk, ck_r33_0 hk, ck_r33_1 hk, ck_is40 hk, ck_r40_0 hk, ck_is102 hk, ck_r102_0 hk, ck_r102_1 hk, ck_r102_2 hk, ck_r102_3 hk, ck_r102_4 hk, ck_r102_5 hk, ck_is103 hk, ck_r103_0 hk, ck_r103_1 hk, ck_is111 hk, ck_r111_0 hk, ck_r111_1 hk, ck_r111_2 hk, ck_r111_3 hk, ck_r111_4 hk, ck_is114 hk, ck_r114_0 hk, ck_r114_1 hk, ck_r114_2 hk, ck_r114_3 hk, ck_r114_4 hk, bV, bI, bT, bF, bD, bS, bH, bR0, bR1, bR2, bR3, bR4, bFo, bX, bNo, bG0, bG1, bG2, bG3, hlt, pb_i4, z4]
      rfl
    · unfold mm_P_sumOf_b4
      simp (disch := omega) only [pb_its, pb_l2, pb_ll, nI_add, pb_mul, if_true, if_false, pb_bs, pb_b2n, pb_bz0, pb_bz1, pb_10, pb_01, pb_i31, ck_is0 hk, ck_r0_0 hk, ck_r0_1 hk, ck_r0_2 hk, ck_r0_3 hk, ck_r0_4 hk, ck_r0_5 hk, ck_r0_6 hk, ck_r0_7 hk, ck_r0_8 hk, ck_r0_9 hk, ck_is1 hk, ck_r1_0 hk, ck_is3 hk, ck_r3_0 hk, ck_r3_1 hk, ck_is20 hk, ck_r20_0 hk, ck_r20_1 hk, ck_r20_2 hk, ck_is24 hk, ck_r24_1 hk, ck_r24_2 hk, ck_r24_3 hk, ck_r24_4 hk, ck_is33 hk, ck_r33_0 hk, ck_r33_1 hk, ck_is40 hk, ck_r40_0 hk, ck_is102 hk, ck_r102_0 hk, ck_r102_1 hk, ck_r102_2 hk, ck_r102_3 hk, ck_r102_4 hk, ck_r102_5 hk, ck_is103 hk, ck_r103_0 hk, ck_r103_1 hk, ck_is111 hk, ck_r111_0 hk, ck_r111_1 hk, ck_r111_2 hk, ck_r111_3 hk, ck_r111_4 hk, ck_is114 hk, ck_r114_0 hk, ck_r114_1 hk, ck_r114_2 hk, ck_r114_3 hk, ck_r114_4 hk, bV, bI, bT, bF, bD, bS, bH, bR0, bR1, bR2, bR3, bR4, bFo, bX, bNo, bG0, bG1, bG2, bG3, nI_le (Nat.le_refl m) (by omega : m < 2 ^ 31)]
  unfold mm_P_sumOf
  simp (disch := omega) only [pb_its, pb_l2, pb_ll, nI_add, pb_mul, if_true, if_false, pb_bs, pb_b2n, pb_bz0, pb_bz1, pb_10, pb_01, pb_i31, ck_is0 hk, ck_r0_0 hk, ck_r0_1 hk, ck_r0_2 hk, ck_r0_3 hk, ck_r0_4 hk, ck_r0_5 hk, ck_r0_6 hk, ck_r0_7 hk, ck_r0_8 hk, ck_r0_9 hk, ck_is1 hk, ck_r1_0 hk, ck_is3 hk, ck_r3_0 hk, ck_r3_1 hk, ck_is20 hk, ck_r20_0 hk, ck_r20_1 hk, ck_r20_2 hk, ck_is24 hk, ck_r24_1 hk, ck_r24_2 hk, ck_r24_3 hk, ck_r24_4 hk, ck_is33 hk, ck_r33_0 hk, ck_r33_1 hk, ck_is40 hk, ck_r40_0 hk, ck_is102 hk, ck_r102_0 hk, ck_r102_1 hk, ck_r102_2 hk, ck_r102_3 hk, ck_r102_4 hk, ck_r102_5 hk, ck_is103 hk, ck_r103_0 hk, ck_r103_1 hk, ck_is111 hk, ck_r111_0 hk, ck_r111_1 hk, ck_r111_2 hk, ck_r111_3 hk, ck_r111_4 hk, ck_is114 hk, ck_r114_0 hk, ck_r114_1 hk, ck_r114_2 hk, ck_r114_3 hk, ck_r114_4 hk, l]
theorem mb_allBy {N : Nat} {h0 h : ss_Hp} {T : List Nat} {a : List Int32} {fo x : Int32} {RS : List (List ru_C)} {US : List (List Int32)} {I : Nat → Option (List Int32 × Int32 × Int32)} {th2 fa2 kp2 : List Int32} {dx2 : Int64} {Z : Nat → List Int32} {m q : Nat} {F : Nat → Nat → Int32} (hc : mb_h h0 h T a fo x RS US I fo a th2 fa2 kp2 dx2 Z) (hl : a.length = 124) (hm : m ≤ 4) (h3 : pv a 3 = nI m) (hq : q < 2 ^ m) (hr : ∀ q i, q < 2 ^ m → i < 4 → pv (Z 2) (4 * q + i) = F q i) (hN : 5000 < N) : mm_M_allBy N (some 118) (nI q) h = some (sM F q m) := by
  have hp2 : 2 ^ m ≤ 16 := Nat.pow_le_pow_right (n := 2) (by omega) (show m ≤ 4 from hm)
  have hk := mb_mk hc
  have s3 := mb_said hc hl (show 3 < 124 by omega)
  rw [h3] at s3
  have l : ss_lp (mm_M_allBy_b4 N (some 118) (nI q) h) N (nI 0, nI 0) = some (sM F q m) := by
    refine pb_lp (fun i => (sM F q i, nI i)) m (by omega) (fun i hi => ?_) ?_
    · have hlt : ¬ nI m ≤ nI i := nI_ge hi (by omega)
      have z4 := mb_z2 hc (show 4 * q + i < 64 by omega)
      rw [hr q i hq (by omega)] at z4
      unfold mm_M_allBy_b4
      simp (disch := omega) only [pb_its, pb_l2, pb_ll, nI_add, pb_mul, if_true, if_false, pb_bs, pb_b2n, pb_bz0, pb_bz1, pb_10, pb_01, pb_i31, mk_is hk, mk_g0 hk, mk_g1 hk, mk_g2 hk, mk_g3 hk, mk_g4 hk, mk_g5 hk, mk_g6 hk, mk_g7 hk, mk_g8 hk, mk_g9 hk, mk_g10 hk, mk_g11 hk, mk_g12 hk, mk_g13 hk, mk_g14 hk, mk_g15 hk, mk_g16 hk, mk_g17 hk, mk_g18 hk, mk_g19 hk, mk_g20 hk, mk_g21 hk, mk_g22 hk, s3, hlt, z4]
      rfl
    · unfold mm_M_allBy_b4
      simp (disch := omega) only [pb_its, pb_l2, pb_ll, nI_add, pb_mul, if_true, if_false, pb_bs, pb_b2n, pb_bz0, pb_bz1, pb_10, pb_01, pb_i31, mk_is hk, mk_g0 hk, mk_g1 hk, mk_g2 hk, mk_g3 hk, mk_g4 hk, mk_g5 hk, mk_g6 hk, mk_g7 hk, mk_g8 hk, mk_g9 hk, mk_g10 hk, mk_g11 hk, mk_g12 hk, mk_g13 hk, mk_g14 hk, mk_g15 hk, mk_g16 hk, mk_g17 hk, mk_g18 hk, mk_g19 hk, mk_g20 hk, mk_g21 hk, mk_g22 hk, s3, nI_le (Nat.le_refl m) (by omega : m < 2 ^ 31)]
  unfold mm_M_allBy
  simp (disch := omega) only [pb_its, pb_l2, pb_ll, nI_add, pb_mul, if_true, if_false, pb_bs, pb_b2n, pb_bz0, pb_bz1, pb_10, pb_01, pb_i31, mk_is hk, mk_g0 hk, mk_g1 hk, mk_g2 hk, mk_g3 hk, mk_g4 hk, mk_g5 hk, mk_g6 hk, mk_g7 hk, mk_g8 hk, mk_g9 hk, mk_g10 hk, mk_g11 hk, mk_g12 hk, mk_g13 hk, mk_g14 hk, mk_g15 hk, mk_g16 hk, mk_g17 hk, mk_g18 hk, mk_g19 hk, mk_g20 hk, mk_g21 hk, mk_g22 hk, l]
theorem cb_isPact {N : Nat} {h0 h : ss_Hp} {T : List Nat} {a : List Int32} {fo x : Int32} {RS : List (List ru_C)} {US : List (List Int32)} {I : Nat → Option (List Int32 × Int32 × Int32)} {Z : Nat → List Int32} {m q : Nat} {F : Nat → Nat → Int32} (hc : cb_h h0 h T a fo x RS US I Z) (hm : m ≤ 4) (h3 : pv a 3 = nI m) (hq : q < 2 ^ m) (hr : ∀ q i, q < 2 ^ m → i < 4 → pv (Z 4) (4 * q + i) = F q i) (hN : 5000 < N) : mm_P_isPact N (some 114) (nI q) h = some (pI (pP F m q) (nI 1) (nI 0)) := by
  have hp2 : 2 ^ m ≤ 16 := Nat.pow_le_pow_right (n := 2) (by omega) (show m ≤ 4 from hm)
  obtain ⟨v, ⟨⟨bV, bI, bT, bF, bD, bS, bH⟩, ⟨bR0, bR1, bR2, bR3, bR4⟩, ⟨bFo, bX, bNo⟩, ⟨bG0, bG1, bG2, bG3⟩, bOwn, bStr, bBes, bSn, bWl, bNd, bCl⟩⟩ := cb_r hc
  rw [h3] at bH
  have hk := cb_ck hc
  have step : ∀ i, i < m → mm_P_isPact_b2 N (some 114) (nI q) h (nI i) = some (pI (F (q ^^^ 2 ^ i) i ≤ F q i) (.inl (nI (i + 1))) (.inr (.inr ()))) := by
    intro i hi
    have hlt : ¬ nI m ≤ nI i := nI_ge hi (by omega)
    have hx := pb_xs hq hi
    have z4 := cb_z4 hc (show 4 * q + i < 64 by omega)
    rw [hr q i hq (by omega)] at z4
    have y4 := cb_z4 hc (show 4 * (q ^^^ 2 ^ i) + i < 64 by omega)
    rw [hr _ i hx (by omega)] at y4
    unfold mm_P_isPact_b2
    by_cases c : F (q ^^^ 2 ^ i) i ≤ F q i
    · rw [pI_t c]
      simp (disch := omega) only [pb_its, pb_l2, pb_ll, nI_add, pb_mul, if_true, if_false, pb_bs, pb_b2n, pb_bz0, pb_bz1, pb_10, pb_01, pb_i31, ck_is0 hk, ck_r0_0 hk, ck_r0_1 hk, ck_r0_2 hk, ck_r0_3 hk, ck_r0_4 hk, ck_r0_5 hk, ck_r0_6 hk, ck_r0_7 hk, ck_r0_8 hk, ck_r0_9 hk, ck_is1 hk, ck_r1_0 hk, ck_is3 hk, ck_r3_0 hk, ck_r3_1 hk, ck_is20 hk, ck_r20_0 hk, ck_r20_1 hk, ck_r20_2 hk, ck_is24 hk, ck_r24_1 hk, ck_r24_2 hk, ck_r24_3 hk, ck_r24_4 hk, ck_is33 hk, ck_r33_0 hk, ck_r33_1 hk, ck_is40 hk, ck_r40_0 hk, ck_is102 hk, ck_r102_0 hk, ck_r102_1 hk, ck_r102_2 hk, ck_r102_3 hk, ck_r102_4 hk, ck_r102_5 hk, ck_is103 hk, ck_r103_0 hk, ck_r103_1 hk, ck_is111 hk, ck_r111_0 hk, ck_r111_1 hk, ck_r111_2 hk, ck_r111_3 hk, ck_r111_4 hk, ck_is114 hk, ck_r114_0 hk, ck_r114_1 hk, ck_r114_2 hk, ck_r114_3 hk, ck_r114_4 hk, bV, bI, bT, bF, bD, bS, bH, bR0, bR1, bR2, bR3, bR4, bFo, bX, bNo, bG0, bG1, bG2, bG3, hlt, pb_sh1 i (by omega), pb_xor, pb_i4, z4, y4, c]
    · rw [pI_f c]
      simp (disch := omega) only [pb_its, pb_l2, pb_ll, nI_add, pb_mul, if_true, if_false, pb_bs, pb_b2n, pb_bz0, pb_bz1, pb_10, pb_01, pb_i31, ck_is0 hk, ck_r0_0 hk, ck_r0_1 hk, ck_r0_2 hk, ck_r0_3 hk, ck_r0_4 hk, ck_r0_5 hk, ck_r0_6 hk, ck_r0_7 hk, ck_r0_8 hk, ck_r0_9 hk, ck_is1 hk, ck_r1_0 hk, ck_is3 hk, ck_r3_0 hk, ck_r3_1 hk, ck_is20 hk, ck_r20_0 hk, ck_r20_1 hk, ck_r20_2 hk, ck_is24 hk, ck_r24_1 hk, ck_r24_2 hk, ck_r24_3 hk, ck_r24_4 hk, ck_is33 hk, ck_r33_0 hk, ck_r33_1 hk, ck_is40 hk, ck_r40_0 hk, ck_is102 hk, ck_r102_0 hk, ck_r102_1 hk, ck_r102_2 hk, ck_r102_3 hk, ck_r102_4 hk, ck_r102_5 hk, ck_is103 hk, ck_r103_0 hk, ck_r103_1 hk, ck_is111 hk, ck_r111_0 hk, ck_r111_1 hk, ck_r111_2 hk, ck_r111_3 hk, ck_r111_4 hk, ck_is114 hk, ck_r114_0 hk, ck_r114_1 hk, ck_r114_2 hk, ck_r114_3 hk, ck_r114_4 hk, bV, bI, bT, bF, bD, bS, bH, bR0, bR1, bR2, bR3, bR4, bFo, bX, bNo, bG0, bG1, bG2, bG3, hlt, pb_sh1 i (by omega), pb_xor, pb_i4, z4, y4, c]
  unfold mm_P_isPact
  rcases ex_least (fun i => ¬ F (q ^^^ 2 ^ i) i ≤ F q i) m with hno | ⟨i, i1, i2, i3⟩
  · have e : ss_lp (mm_P_isPact_b2 N (some 114) (nI q) h) N (nI 0) = some (.inl ()) := by
      refine pb_lp (fun i => nI i) m (by omega) (fun i hi => ?_) ?_
      · rw [step i hi, pI_t (Classical.not_not.mp (hno i hi))]
      · unfold mm_P_isPact_b2
        simp (disch := omega) only [pb_its, pb_l2, pb_ll, nI_add, pb_mul, if_true, if_false, pb_bs, pb_b2n, pb_bz0, pb_bz1, pb_10, pb_01, pb_i31, ck_is0 hk, ck_r0_0 hk, ck_r0_1 hk, ck_r0_2 hk, ck_r0_3 hk, ck_r0_4 hk, ck_r0_5 hk, ck_r0_6 hk, ck_r0_7 hk, ck_r0_8 hk, ck_r0_9 hk, ck_is1 hk, ck_r1_0 hk, ck_is3 hk, ck_r3_0 hk, ck_r3_1 hk, ck_is20 hk, ck_r20_0 hk, ck_r20_1 hk, ck_r20_2 hk, ck_is24 hk, ck_r24_1 hk, ck_r24_2 hk, ck_r24_3 hk, ck_r24_4 hk, ck_is33 hk, ck_r33_0 hk, ck_r33_1 hk, ck_is40 hk, ck_r40_0 hk, ck_is102 hk, ck_r102_0 hk, ck_r102_1 hk, ck_r102_2 hk, ck_r102_3 hk, ck_r102_4 hk, ck_r102_5 hk, ck_is103 hk, ck_r103_0 hk, ck_r103_1 hk, ck_is111 hk, ck_r111_0 hk, ck_r111_1 hk, ck_r111_2 hk, ck_r111_3 hk, ck_r111_4 hk, ck_is114 hk, ck_r114_0 hk, ck_r114_1 hk, ck_r114_2 hk, ck_r114_3 hk, ck_r114_4 hk, bV, bI, bT, bF, bD, bS, bH, bR0, bR1, bR2, bR3, bR4, bFo, bX, bNo, bG0, bG1, bG2, bG3, nI_le (Nat.le_refl m) (by omega : m < 2 ^ 31)]
    rw [pI_t (show pP F m q from fun i hi => Classical.not_not.mp (hno i hi))]
    simp (disch := omega) only [pb_its, pb_l2, pb_ll, nI_add, pb_mul, if_true, if_false, pb_bs, pb_b2n, pb_bz0, pb_bz1, pb_10, pb_01, pb_i31, ck_is0 hk, ck_r0_0 hk, ck_r0_1 hk, ck_r0_2 hk, ck_r0_3 hk, ck_r0_4 hk, ck_r0_5 hk, ck_r0_6 hk, ck_r0_7 hk, ck_r0_8 hk, ck_r0_9 hk, ck_is1 hk, ck_r1_0 hk, ck_is3 hk, ck_r3_0 hk, ck_r3_1 hk, ck_is20 hk, ck_r20_0 hk, ck_r20_1 hk, ck_r20_2 hk, ck_is24 hk, ck_r24_1 hk, ck_r24_2 hk, ck_r24_3 hk, ck_r24_4 hk, ck_is33 hk, ck_r33_0 hk, ck_r33_1 hk, ck_is40 hk, ck_r40_0 hk, ck_is102 hk, ck_r102_0 hk, ck_r102_1 hk, ck_r102_2 hk, ck_r102_3 hk, ck_r102_4 hk, ck_r102_5 hk, ck_is103 hk, ck_r103_0 hk, ck_r103_1 hk, ck_is111 hk, ck_r111_0 hk, ck_r111_1 hk, ck_r111_2 hk, ck_r111_3 hk, ck_r111_4 hk, ck_is114 hk, ck_r114_0 hk, ck_r114_1 hk, ck_r114_2 hk, ck_r114_3 hk, ck_r114_4 hk, e]
  · have e : ss_lp (mm_P_isPact_b2 N (some 114) (nI q) h) N (nI 0) = some (.inr ()) := by
      refine pb_lp (fun i => nI i) i (by omega) (fun j hj => ?_) ?_
      · rw [step j (by omega), pI_t (Classical.not_not.mp (i3 j hj))]
      · rw [step i i1, pI_f i2]
    rw [pI_f (show ¬ pP F m q from fun p => i2 (p i i1))]
    simp (disch := omega) only [pb_its, pb_l2, pb_ll, nI_add, pb_mul, if_true, if_false, pb_bs, pb_b2n, pb_bz0, pb_bz1, pb_10, pb_01, pb_i31, ck_is0 hk, ck_r0_0 hk, ck_r0_1 hk, ck_r0_2 hk, ck_r0_3 hk, ck_r0_4 hk, ck_r0_5 hk, ck_r0_6 hk, ck_r0_7 hk, ck_r0_8 hk, ck_r0_9 hk, ck_is1 hk, ck_r1_0 hk, ck_is3 hk, ck_r3_0 hk, ck_r3_1 hk, ck_is20 hk, ck_r20_0 hk, ck_r20_1 hk, ck_r20_2 hk, ck_is24 hk, ck_r24_1 hk, ck_r24_2 hk, ck_r24_3 hk, ck_r24_4 hk, ck_is33 hk, ck_r33_0 hk, ck_r33_1 hk, ck_is40 hk, ck_r40_0 hk, ck_is102 hk, ck_r102_0 hk, ck_r102_1 hk, ck_r102_2 hk, ck_r102_3 hk, ck_r102_4 hk, ck_r102_5 hk, ck_is103 hk, ck_r103_0 hk, ck_r103_1 hk, ck_is111 hk, ck_r111_0 hk, ck_r111_1 hk, ck_r111_2 hk, ck_r111_3 hk, ck_r111_4 hk, ck_is114 hk, ck_r114_0 hk, ck_r114_1 hk, ck_r114_2 hk, ck_r114_3 hk, ck_r114_4 hk, e]
theorem mb_isPact {N : Nat} {h0 h : ss_Hp} {T : List Nat} {a : List Int32} {fo x : Int32} {RS : List (List ru_C)} {US : List (List Int32)} {I : Nat → Option (List Int32 × Int32 × Int32)} {th2 fa2 kp2 : List Int32} {dx2 : Int64} {Z : Nat → List Int32} {m q : Nat} {F : Nat → Nat → Int32} (hc : mb_h h0 h T a fo x RS US I fo a th2 fa2 kp2 dx2 Z) (hl : a.length = 124) (hm : m ≤ 4) (h3 : pv a 3 = nI m) (hq : q < 2 ^ m) (hr : ∀ q i, q < 2 ^ m → i < 4 → pv (Z 2) (4 * q + i) = F q i) (hN : 5000 < N) : mm_M_isPact N (some 118) (nI q) h = some (pI (pP F m q) (nI 1) (nI 0)) := by
  have hp2 : 2 ^ m ≤ 16 := Nat.pow_le_pow_right (n := 2) (by omega) (show m ≤ 4 from hm)
  have hk := mb_mk hc
  have s3 := mb_said hc hl (show 3 < 124 by omega)
  rw [h3] at s3
  have step : ∀ i, i < m → mm_M_isPact_b2 N (some 118) (nI q) h (nI i) = some (pI (F (q ^^^ 2 ^ i) i ≤ F q i) (.inl (nI (i + 1))) (.inr (.inr ()))) := by
    intro i hi
    have hlt : ¬ nI m ≤ nI i := nI_ge hi (by omega)
    have hx := pb_xs hq hi
    have z4 := mb_z2 hc (show 4 * q + i < 64 by omega)
    rw [hr q i hq (by omega)] at z4
    have y4 := mb_z2 hc (show 4 * (q ^^^ 2 ^ i) + i < 64 by omega)
    rw [hr _ i hx (by omega)] at y4
    unfold mm_M_isPact_b2
    by_cases c : F (q ^^^ 2 ^ i) i ≤ F q i
    · rw [pI_t c]
      simp (disch := omega) only [pb_its, pb_l2, pb_ll, nI_add, pb_mul, if_true, if_false, pb_bs, pb_b2n, pb_bz0, pb_bz1, pb_10, pb_01, pb_i31, mk_is hk, mk_g0 hk, mk_g1 hk, mk_g2 hk, mk_g3 hk, mk_g4 hk, mk_g5 hk, mk_g6 hk, mk_g7 hk, mk_g8 hk, mk_g9 hk, mk_g10 hk, mk_g11 hk, mk_g12 hk, mk_g13 hk, mk_g14 hk, mk_g15 hk, mk_g16 hk, mk_g17 hk, mk_g18 hk, mk_g19 hk, mk_g20 hk, mk_g21 hk, mk_g22 hk, s3, hlt, pb_sh1 i (by omega), pb_xor, z4, y4, c]
    · rw [pI_f c]
      simp (disch := omega) only [pb_its, pb_l2, pb_ll, nI_add, pb_mul, if_true, if_false, pb_bs, pb_b2n, pb_bz0, pb_bz1, pb_10, pb_01, pb_i31, mk_is hk, mk_g0 hk, mk_g1 hk, mk_g2 hk, mk_g3 hk, mk_g4 hk, mk_g5 hk, mk_g6 hk, mk_g7 hk, mk_g8 hk, mk_g9 hk, mk_g10 hk, mk_g11 hk, mk_g12 hk, mk_g13 hk, mk_g14 hk, mk_g15 hk, mk_g16 hk, mk_g17 hk, mk_g18 hk, mk_g19 hk, mk_g20 hk, mk_g21 hk, mk_g22 hk, s3, hlt, pb_sh1 i (by omega), pb_xor, z4, y4, c]
  unfold mm_M_isPact
  rcases ex_least (fun i => ¬ F (q ^^^ 2 ^ i) i ≤ F q i) m with hno | ⟨i, i1, i2, i3⟩
  · have e : ss_lp (mm_M_isPact_b2 N (some 118) (nI q) h) N (nI 0) = some (.inl ()) := by
      refine pb_lp (fun i => nI i) m (by omega) (fun i hi => ?_) ?_
      · rw [step i hi, pI_t (Classical.not_not.mp (hno i hi))]
      · unfold mm_M_isPact_b2
        simp (disch := omega) only [pb_its, pb_l2, pb_ll, nI_add, pb_mul, if_true, if_false, pb_bs, pb_b2n, pb_bz0, pb_bz1, pb_10, pb_01, pb_i31, mk_is hk, mk_g0 hk, mk_g1 hk, mk_g2 hk, mk_g3 hk, mk_g4 hk, mk_g5 hk, mk_g6 hk, mk_g7 hk, mk_g8 hk, mk_g9 hk, mk_g10 hk, mk_g11 hk, mk_g12 hk, mk_g13 hk, mk_g14 hk, mk_g15 hk, mk_g16 hk, mk_g17 hk, mk_g18 hk, mk_g19 hk, mk_g20 hk, mk_g21 hk, mk_g22 hk, s3, nI_le (Nat.le_refl m) (by omega : m < 2 ^ 31)]
    rw [pI_t (show pP F m q from fun i hi => Classical.not_not.mp (hno i hi))]
    simp (disch := omega) only [pb_its, pb_l2, pb_ll, nI_add, pb_mul, if_true, if_false, pb_bs, pb_b2n, pb_bz0, pb_bz1, pb_10, pb_01, pb_i31, mk_is hk, mk_g0 hk, mk_g1 hk, mk_g2 hk, mk_g3 hk, mk_g4 hk, mk_g5 hk, mk_g6 hk, mk_g7 hk, mk_g8 hk, mk_g9 hk, mk_g10 hk, mk_g11 hk, mk_g12 hk, mk_g13 hk, mk_g14 hk, mk_g15 hk, mk_g16 hk, mk_g17 hk, mk_g18 hk, mk_g19 hk, mk_g20 hk, mk_g21 hk, mk_g22 hk, e]
  · have e : ss_lp (mm_M_isPact_b2 N (some 118) (nI q) h) N (nI 0) = some (.inr ()) := by
      refine pb_lp (fun i => nI i) i (by omega) (fun j hj => ?_) ?_
      · rw [step j (by omega), pI_t (Classical.not_not.mp (i3 j hj))]
      · rw [step i i1, pI_f i2]
    rw [pI_f (show ¬ pP F m q from fun p => i2 (p i i1))]
    simp (disch := omega) only [pb_its, pb_l2, pb_ll, nI_add, pb_mul, if_true, if_false, pb_bs, pb_b2n, pb_bz0, pb_bz1, pb_10, pb_01, pb_i31, mk_is hk, mk_g0 hk, mk_g1 hk, mk_g2 hk, mk_g3 hk, mk_g4 hk, mk_g5 hk, mk_g6 hk, mk_g7 hk, mk_g8 hk, mk_g9 hk, mk_g10 hk, mk_g11 hk, mk_g12 hk, mk_g13 hk, mk_g14 hk, mk_g15 hk, mk_g16 hk, mk_g17 hk, mk_g18 hk, mk_g19 hk, mk_g20 hk, mk_g21 hk, mk_g22 hk, e]
/-! counted up and down -/
noncomputable def ct (P : Nat → Prop) : Nat → Nat
  | 0 => 0
  | q + 1 => ct P q + pI (P q) 1 0
noncomputable def lD (P : Nat → Prop) (M : Nat) : Nat → Int32
  | 0 => -nI 2
  | j + 1 => pI (P (M - 1 - j)) (nI (M - 1 - j)) (lD P M j)
theorem lD_no {P : Nat → Prop} { M : Nat} (h : ∀ q, q < M → ¬ P q) : ∀ j, j ≤ M → lD P M j = -nI 2 := by
  intro j
  induction j with
  | zero => intro _; rfl
  | succ j ih => intro hj; rw [lD, pI_f (h _ (by omega)), ih (by omega)]
theorem lD_at {P : Nat → Prop} { M s : Nat} (hs : s < M) (hp : P s) (h : ∀ q, q < s → ¬ P q) : ∀ j, M - s ≤ j → j ≤ M → lD P M j = nI s := by
  intro j
  induction j with
  | zero => intro h1 _; omega
  | succ j ih =>
    intro h1 h2
    rw [lD]
    by_cases c : M - 1 - j = s
    · rw [c, pI_t hp]
    · rw [pI_f (h _ (by omega)), ih (by omega) (by omega)]
noncomputable def cD (P : Nat → Prop) (M : Nat) : Nat → Nat
  | 0 => 0
  | j + 1 => cD P M j + pI (P (M - 1 - j)) 1 0
theorem cD_s {P : Nat → Prop} { M : Nat} : ∀ j, j ≤ M → cD P M j + ct P (M - j) = ct P M := by
  intro j
  induction j with
  | zero => intro _; rw [cD]; simp
  | succ j ih =>
    intro hj
    have := ih (by omega)
    have e : M - j = (M - 1 - j) + 1 := by omega
    rw [e, ct] at this
    rw [cD, show M - (j + 1) = M - 1 - j by omega]
    omega
def mA (S : Nat → Int32) : Nat → Int32
  | 0 => S 0
  | j + 1 => if mA S j < S (j + 1) then S (j + 1) else mA S j
def nA (S : Nat → Int32) : Nat → Int32
  | 0 => S 0
  | j + 1 => if S (j + 1) < nA S j then S (j + 1) else nA S j
def mD (S : Nat → Int32) (M : Nat) : Nat → Int32
  | 0 => S 0
  | j + 1 => if S (M - 1 - j) ≤ mD S M j then mD S M j else S (M - 1 - j)
def nD (S : Nat → Int32) (M : Nat) : Nat → Int32
  | 0 => S 0
  | j + 1 => if nD S M j ≤ S (M - 1 - j) then nD S M j else S (M - 1 - j)
theorem mA_s (S : Nat → Int32) : ∀ j, (∃ s, s ≤ j ∧ mA S j = S s) ∧ ∀ s, s ≤ j → S s ≤ mA S j := by
  intro j
  induction j with
  | zero => exact ⟨⟨0, by omega, rfl⟩, fun s hs => by rw [show s = 0 by omega]; exact Int32.le_refl _⟩
  | succ j ih =>
    obtain ⟨⟨t, t1, t2⟩, h⟩ := ih
    rw [mA]
    by_cases c : mA S j < S (j + 1)
    · rw [if_pos c]
      refine ⟨⟨j + 1, by omega, rfl⟩, fun s hs => ?_⟩
      by_cases e : s = j + 1
      · rw [e]; exact Int32.le_refl _
      · exact Int32.le_of_lt (Int32.lt_of_le_of_lt (h s (by omega)) c)
    · rw [if_neg c]
      refine ⟨⟨t, by omega, t2⟩, fun s hs => ?_⟩
      by_cases e : s = j + 1
      · rw [e]; exact Int32.not_lt.mp c
      · exact h s (by omega)
theorem nA_s (S : Nat → Int32) : ∀ j, (∃ s, s ≤ j ∧ nA S j = S s) ∧ ∀ s, s ≤ j → nA S j ≤ S s := by
  intro j
  induction j with
  | zero => exact ⟨⟨0, by omega, rfl⟩, fun s hs => by rw [show s = 0 by omega]; exact Int32.le_refl _⟩
  | succ j ih =>
    obtain ⟨⟨t, t1, t2⟩, h⟩ := ih
    rw [nA]
    by_cases c : S (j + 1) < nA S j
    · rw [if_pos c]
      refine ⟨⟨j + 1, by omega, rfl⟩, fun s hs => ?_⟩
      by_cases e : s = j + 1
      · rw [e]; exact Int32.le_refl _
      · exact Int32.le_of_lt (Int32.lt_of_lt_of_le c (h s (by omega)))
    · rw [if_neg c]
      refine ⟨⟨t, by omega, t2⟩, fun s hs => ?_⟩
      by_cases e : s = j + 1
      · rw [e]; exact Int32.not_lt.mp c
      · exact h s (by omega)
theorem mD_s (S : Nat → Int32) { M : Nat} (hM : 0 < M) : ∀ j, j ≤ M → (∃ s, s < M ∧ mD S M j = S s) ∧ ∀ s, M - j ≤ s → s < M → S s ≤ mD S M j := by
  intro j
  induction j with
  | zero => intro _; exact ⟨⟨0, hM, rfl⟩, fun s h1 h2 => by omega⟩
  | succ j ih =>
    intro hj
    obtain ⟨⟨t, t1, t2⟩, h⟩ := ih (by omega)
    rw [mD]
    by_cases c : S (M - 1 - j) ≤ mD S M j
    · rw [if_pos c]
      refine ⟨⟨t, t1, t2⟩, fun s h1 h2 => ?_⟩
      by_cases e : s = M - 1 - j
      · rw [e]; exact c
      · exact h s (by omega) h2
    · rw [if_neg c]
      refine ⟨⟨_, by omega, rfl⟩, fun s h1 h2 => ?_⟩
      by_cases e : s = M - 1 - j
      · rw [e]; exact Int32.le_refl _
      · exact Int32.le_of_lt (Int32.lt_of_le_of_lt (h s (by omega) h2) (Int32.not_le.mp c))
theorem nD_s (S : Nat → Int32) { M : Nat} (hM : 0 < M) : ∀ j, j ≤ M → (∃ s, s < M ∧ nD S M j = S s) ∧ ∀ s, M - j ≤ s → s < M → nD S M j ≤ S s := by
  intro j
  induction j with
  | zero => intro _; exact ⟨⟨0, hM, rfl⟩, fun s h1 h2 => by omega⟩
  | succ j ih =>
    intro hj
    obtain ⟨⟨t, t1, t2⟩, h⟩ := ih (by omega)
    rw [nD]
    by_cases c : nD S M j ≤ S (M - 1 - j)
    · rw [if_pos c]
      refine ⟨⟨t, t1, t2⟩, fun s h1 h2 => ?_⟩
      by_cases e : s = M - 1 - j
      · rw [e]; exact c
      · exact h s (by omega) h2
    · rw [if_neg c]
      refine ⟨⟨_, by omega, rfl⟩, fun s h1 h2 => ?_⟩
      by_cases e : s = M - 1 - j
      · rw [e]; exact Int32.le_refl _
      · exact Int32.le_of_lt (Int32.lt_of_lt_of_le (Int32.not_le.mp c) (h s (by omega) h2))
theorem mAD (S : Nat → Int32) { M : Nat} (hM : 0 < M) : mD S M M = mA S (M - 1) ∧ nD S M M = nA S (M - 1) := by
  obtain ⟨⟨t, t1, t2⟩, h⟩ := mD_s S hM M (Nat.le_refl M)
  obtain ⟨⟨u, u1, u2⟩, g⟩ := mA_s S (M - 1)
  obtain ⟨⟨t', t1', t2'⟩, h'⟩ := nD_s S hM M (Nat.le_refl M)
  obtain ⟨⟨u', u1', u2'⟩, g'⟩ := nA_s S (M - 1)
  constructor
  · refine Int32.le_antisymm ?_ ?_
    · rw [t2]; exact g t (by omega)
    · rw [u2]; exact h u (by omega) (by omega)
  · refine Int32.le_antisymm ?_ ?_
    · rw [u2']; exact h' u' (by omega) (by omega)
    · rw [t2']; exact g' t' (by omega)
theorem jx_pacts {N : Nat} {h h2 : ss_Hp} {y w : Int32} {T : List Nat} {a : List Int32} {fo x : Int32} {RS : List (List ru_C)} {US : List (List Int32)} {I : Nat → Option (List Int32 × Int32 × Int32)} (hc : cl_h h T a fo x RS US I) (hm : mo_h h2 T a fo x RS US I) (ha : as_ok T a fo x RS US I) (hN : 5000 < N) : jo (mm_S_pacts N (some 0) y w h) (mm_M_pacts N (some 118) y w h2) h h2 := by
  obtain ⟨Z, hb⟩ := cb_of hc
  obtain ⟨v, ⟨⟨bV, bI, bT, bF, bD, bS, bH⟩, ⟨bR0, bR1, bR2, bR3, bR4⟩, ⟨bFo, bX, bNo⟩, ⟨bG0, bG1, bG2, bG3⟩, bOwn, bStr, bBes, bSn, bWl, bNd, bCl⟩⟩ := cb_r hb
  have hk := cb_ck hb
  obtain ⟨th, fa, kp, dx, Y, hm1⟩ := mb_of hm
  have hk2 := mb_mk hm1
  have ha0 := ha
  obtain ⟨⟨Ht1, Ht2⟩, ⟨k, m, d, Hsd, Hul, Hu⟩, HRS, Hfo, Hx, HI⟩ := ha
  have Hok := Hsd.1
  obtain ⟨Hl, ⟨Hk, H2⟩, ⟨Hm, H3⟩, ⟨Hd, H10⟩, Hwl, Hbe, How⟩ := Hok
  by_cases ht : pv a 0 ≤ nI 0
  · have t0 : sa_told a = nI 0 := if_pos ht
    refine jo_no hc hm ha0 (r := -nI 1) ?_ ?_
    · unfold mm_S_pacts mm_S_pacts_j32
      simp (disch := omega) only [pb_its, pb_l2, pb_ll, nI_add, pb_mul, if_true, if_false, pb_bs, pb_b2n, pb_bz0, pb_bz1, pb_10, pb_01, pb_i31, ck_is0 hk, ck_r0_0 hk, ck_r0_1 hk, ck_r0_2 hk, ck_r0_3 hk, ck_r0_4 hk, ck_r0_5 hk, ck_r0_6 hk, ck_r0_7 hk, ck_r0_8 hk, ck_r0_9 hk, ck_is1 hk, ck_r1_0 hk, ck_is3 hk, ck_r3_0 hk, ck_r3_1 hk, ck_is20 hk, ck_r20_0 hk, ck_r20_1 hk, ck_r20_2 hk, ck_is24 hk, ck_r24_1 hk, ck_r24_2 hk, ck_r24_3 hk, ck_r24_4 hk, ck_is33 hk, ck_r33_0 hk, ck_r33_1 hk, ck_is40 hk, ck_r40_0 hk, ck_is102 hk, ck_r102_0 hk, ck_r102_1 hk, ck_r102_2 hk, ck_r102_3 hk, ck_r102_4 hk, ck_r102_5 hk, ck_is103 hk, ck_r103_0 hk, ck_r103_1 hk, ck_is111 hk, ck_r111_0 hk, ck_r111_1 hk, ck_r111_2 hk, ck_r111_3 hk, ck_r111_4 hk, ck_is114 hk, ck_r114_0 hk, ck_r114_1 hk, ck_r114_2 hk, ck_r114_3 hk, ck_r114_4 hk, bV, bI, bT, bF, bD, bS, bH, bR0, bR1, bR2, bR3, bR4, bFo, bX, bNo, bG0, bG1, bG2, bG3, t0]
    · unfold mm_M_pacts mm_M_pacts_j31
      simp (disch := omega) only [pb_its, pb_l2, pb_ll, nI_add, pb_mul, if_true, if_false, pb_bs, pb_b2n, pb_bz0, pb_bz1, pb_10, pb_01, pb_i31, mk_is hk2, mk_g0 hk2, mk_g1 hk2, mk_g2 hk2, mk_g3 hk2, mk_g4 hk2, mk_g5 hk2, mk_g6 hk2, mk_g7 hk2, mk_g8 hk2, mk_g9 hk2, mk_g10 hk2, mk_g11 hk2, mk_g12 hk2, mk_g13 hk2, mk_g14 hk2, mk_g15 hk2, mk_g16 hk2, mk_g17 hk2, mk_g18 hk2, mk_g19 hk2, mk_g20 hk2, mk_g21 hk2, mk_g22 hk2, mb_isValley hm1 Hl, t0]
  have t1 : sa_told a = nI 1 := if_neg ht
  have hR := sd_told Hsd ht
  have Hd9 : d ≤ 999 := Hsd.2.2.2.2.1
  by_cases cy : ¬ sp_in y 1 30
  · refine jo_no hc hm ha0 (r := -nI 1) ?_ ?_
    · unfold mm_S_pacts mm_S_pacts_j32
      simp (disch := omega) only [pb_its, pb_l2, pb_ll, nI_add, pb_mul, if_true, if_false, pb_bs, pb_b2n, pb_bz0, pb_bz1, pb_10, pb_01, pb_i31, ck_is0 hk, ck_r0_0 hk, ck_r0_1 hk, ck_r0_2 hk, ck_r0_3 hk, ck_r0_4 hk, ck_r0_5 hk, ck_r0_6 hk, ck_r0_7 hk, ck_r0_8 hk, ck_r0_9 hk, ck_is1 hk, ck_r1_0 hk, ck_is3 hk, ck_r3_0 hk, ck_r3_1 hk, ck_is20 hk, ck_r20_0 hk, ck_r20_1 hk, ck_r20_2 hk, ck_is24 hk, ck_r24_1 hk, ck_r24_2 hk, ck_r24_3 hk, ck_r24_4 hk, ck_is33 hk, ck_r33_0 hk, ck_r33_1 hk, ck_is40 hk, ck_r40_0 hk, ck_is102 hk, ck_r102_0 hk, ck_r102_1 hk, ck_r102_2 hk, ck_r102_3 hk, ck_r102_4 hk, ck_r102_5 hk, ck_is103 hk, ck_r103_0 hk, ck_r103_1 hk, ck_is111 hk, ck_r111_0 hk, ck_r111_1 hk, ck_r111_2 hk, ck_r111_3 hk, ck_r111_4 hk, ck_is114 hk, ck_r114_0 hk, ck_r114_1 hk, ck_r114_2 hk, ck_r114_3 hk, ck_r114_4 hk, bV, bI, bT, bF, bD, bS, bH, bR0, bR1, bR2, bR3, bR4, bFo, bX, bNo, bG0, bG1, bG2, bG3, t1, pq_withinC, pb_cf cy]
    · unfold mm_M_pacts mm_M_pacts_j31
      simp (disch := omega) only [pb_its, pb_l2, pb_ll, nI_add, pb_mul, if_true, if_false, pb_bs, pb_b2n, pb_bz0, pb_bz1, pb_10, pb_01, pb_i31, mk_is hk2, mk_g0 hk2, mk_g1 hk2, mk_g2 hk2, mk_g3 hk2, mk_g4 hk2, mk_g5 hk2, mk_g6 hk2, mk_g7 hk2, mk_g8 hk2, mk_g9 hk2, mk_g10 hk2, mk_g11 hk2, mk_g12 hk2, mk_g13 hk2, mk_g14 hk2, mk_g15 hk2, mk_g16 hk2, mk_g17 hk2, mk_g18 hk2, mk_g19 hk2, mk_g20 hk2, mk_g21 hk2, mk_g22 hk2, mb_isValley hm1 Hl, t1, po_inC, pb_cf cy]
  replace cy := Classical.not_not.mp cy
  by_cases cw : ¬ sp_in w 0 2
  · refine jo_no hc hm ha0 (r := -nI 1) ?_ ?_
    · unfold mm_S_pacts mm_S_pacts_j32
      simp (disch := omega) only [pb_its, pb_l2, pb_ll, nI_add, pb_mul, if_true, if_false, pb_bs, pb_b2n, pb_bz0, pb_bz1, pb_10, pb_01, pb_i31, ck_is0 hk, ck_r0_0 hk, ck_r0_1 hk, ck_r0_2 hk, ck_r0_3 hk, ck_r0_4 hk, ck_r0_5 hk, ck_r0_6 hk, ck_r0_7 hk, ck_r0_8 hk, ck_r0_9 hk, ck_is1 hk, ck_r1_0 hk, ck_is3 hk, ck_r3_0 hk, ck_r3_1 hk, ck_is20 hk, ck_r20_0 hk, ck_r20_1 hk, ck_r20_2 hk, ck_is24 hk, ck_r24_1 hk, ck_r24_2 hk, ck_r24_3 hk, ck_r24_4 hk, ck_is33 hk, ck_r33_0 hk, ck_r33_1 hk, ck_is40 hk, ck_r40_0 hk, ck_is102 hk, ck_r102_0 hk, ck_r102_1 hk, ck_r102_2 hk, ck_r102_3 hk, ck_r102_4 hk, ck_r102_5 hk, ck_is103 hk, ck_r103_0 hk, ck_r103_1 hk, ck_is111 hk, ck_r111_0 hk, ck_r111_1 hk, ck_r111_2 hk, ck_r111_3 hk, ck_r111_4 hk, ck_is114 hk, ck_r114_0 hk, ck_r114_1 hk, ck_r114_2 hk, ck_r114_3 hk, ck_r114_4 hk, bV, bI, bT, bF, bD, bS, bH, bR0, bR1, bR2, bR3, bR4, bFo, bX, bNo, bG0, bG1, bG2, bG3, t1, pq_withinC, pb_ct cy, pb_cf cw]
    · unfold mm_M_pacts mm_M_pacts_j31
      simp (disch := omega) only [pb_its, pb_l2, pb_ll, nI_add, pb_mul, if_true, if_false, pb_bs, pb_b2n, pb_bz0, pb_bz1, pb_10, pb_01, pb_i31, mk_is hk2, mk_g0 hk2, mk_g1 hk2, mk_g2 hk2, mk_g3 hk2, mk_g4 hk2, mk_g5 hk2, mk_g6 hk2, mk_g7 hk2, mk_g8 hk2, mk_g9 hk2, mk_g10 hk2, mk_g11 hk2, mk_g12 hk2, mk_g13 hk2, mk_g14 hk2, mk_g15 hk2, mk_g16 hk2, mk_g17 hk2, mk_g18 hk2, mk_g19 hk2, mk_g20 hk2, mk_g21 hk2, mk_g22 hk2, mb_isValley hm1 Hl, t1, po_inC, pb_ct cy, pb_cf cw]
  replace cw := Classical.not_not.mp cw
  obtain ⟨n, -, hn, rfl⟩ := sp_in_n cy (by omega) (by omega)
  have hp2 : 2 ^ m ≤ 16 := Nat.pow_le_pow_right (n := 2) (by omega) (show m ≤ 4 from Hm)
  have hp1 : 0 < 2 ^ m := Nat.two_pow_pos m
  have sh : nI 1 <<< nI m = nI (2 ^ m) := pb_sh1 m (by omega)
  have s3 := mb_said hm1 Hl (show 3 < 124 by omega)
  rw [H3] at s3
  obtain ⟨h1, Z1, e1, c1, r1⟩ := cb_weigh (N := N) (n := n) hb ht hR (by omega) (by omega) hN
  have k1 := cb_ck c1
  obtain ⟨g1, f1, m1⟩ := mb_keeps (N := N) hm1 Hl (by omega)
  have key := pb_for (body := mm_M_pacts_b49 N (some 118) (nI n) w (nI (2 ^ m))) (2 ^ m) (fun q s => ∃ h' Y' th fa, s = (nI q, h') ∧ mb_h h2 h' T a fo x RS US I fo a th fa (sl a 10 20) dx Y' ∧ ∀ q' i, q' < q → i < 4 → pv (Y' 2) (4 * q' + i) = pF a k m n q' i) (fun e => ∃ Y' th fa, mb_h h2 e T a fo x RS US I fo a th fa (sl a 10 20) dx Y' ∧ ∀ q' i, q' < 2 ^ m → i < 4 → pv (Y' 2) (4 * q' + i) = pF a k m n q' i) (N := N) (s := (nI 0, g1)) (by omega) ⟨g1, Y, _, _, rfl, m1, fun q i hq => by omega⟩ (by
    rintro q s hq ⟨h', Y', th, fa, rfl, c, r⟩
    left
    have hlt : ¬ nI (2 ^ m) ≤ nI q := nI_ge hq (by omega)
    obtain ⟨h4, th4, fa4, Y4, e4, c4, r4⟩ := mb_fills (N := N) (n := n) c hR (by omega) (by omega) (show q < 16 by omega) r hN
    obtain ⟨p1, p2⟩ := pN_R (q := q) hR n (by omega)
    obtain ⟨h5, e5, c5⟩ := mb_lays (N := N) c4 p1.1.1 (by omega)
    rw [sa_back Hl p1.1.1 (fun j hj => p2 j (by omega))] at c5
    refine ⟨(nI (q + 1), h5), ?_, h5, Y4, _, _, rfl, c5, r4⟩
    unfold mm_M_pacts_b49
    simp (disch := omega) only [pb_its, pb_l2, pb_ll, nI_add, pb_mul, if_true, if_false, pb_bs, pb_b2n, pb_bz0, pb_bz1, pb_10, pb_01, pb_i31, hlt, e4, e5]) (by
    rintro s ⟨h', Y', th, fa, rfl, c, r⟩
    refine ⟨h', ?_, Y', th, fa, c, r⟩
    unfold mm_M_pacts_b49
    simp (disch := omega) only [pb_its, pb_l2, pb_ll, nI_add, pb_mul, if_true, if_false, pb_bs, pb_b2n, pb_bz0, pb_bz1, pb_10, pb_01, pb_i31, nI_le (Nat.le_refl (2 ^ m)) (by omega : 2 ^ m < 2 ^ 31)])
  obtain ⟨g2, l2, Y2, th2, fa2, m2, r2⟩ := key
  have hF : ∃ F, F = pF a k m n := ⟨_, rfl⟩
  obtain ⟨F, hF⟩ := hF
  rw [← hF] at r1 r2
  have SO := fun q (hq : q < 2 ^ m) => cb_sumOf (N := N) c1 Hm H3 hq r1 hN
  have AB := fun q (hq : q < 2 ^ m) => mb_allBy (N := N) m2 Hl Hm H3 hq r2 hN
  have IP := fun q (hq : q < 2 ^ m) => cb_isPact (N := N) c1 Hm H3 hq r1 hN
  have JP := fun q (hq : q < 2 ^ m) => mb_isPact (N := N) m2 Hl Hm H3 hq r2 hN
  have SC := cb_setCount (N := N) c1 Hm H3
  have hP : ∃ P : Nat → Prop, P = pP F m := ⟨_, rfl⟩
  obtain ⟨P, hP⟩ := hP
  have hS : ∃ S : Nat → Int32, S = fun q => sM F q m := ⟨_, rfl⟩
  obtain ⟨S, hS⟩ := hS
  have SO : ∀ q, q < 2 ^ m → mm_P_sumOf N (some 114) (nI q) h1 = some (S q) := fun q hq => by rw [hS]; exact SO q hq
  have AB : ∀ q, q < 2 ^ m → mm_M_allBy N (some 118) (nI q) g2 = some (S q) := fun q hq => by rw [hS]; exact AB q hq
  rw [← hP] at IP JP
  have M0 : ∃ M, M = 2 ^ m := ⟨_, rfl⟩
  obtain ⟨M, hM⟩ := M0
  rw [← hM] at SO AB IP JP SC l2 hp1 hp2 sh
  have ml : ss_lp (mm_M_pacts_b98 N (some 118) w g2) N (nI 0, -nI 2, S 0, S 0, nI (M - 0) - nI 1) = some (nI (cD P M M), lD P M M, mD S M M, nD S M M) := by
    refine pb_lp (fun j => (nI (cD P M j), lD P M j, mD S M j, nD S M j, nI (M - j) - nI 1)) M (by omega) (fun j hj => ?_) ?_
    · have e8 : nI (M - j) - nI 1 = nI (M - 1 - j) := by
        rw [pb_subn (by omega)]
        congr 1
        omega
      have e9 : nI (M - 1 - j) + -nI 1 = nI (M - (j + 1)) - nI 1 := by
        rw [← Int32.sub_eq_add_neg]
        congr 2
        omega
      have n0 : ¬ nI (M - 1 - j) < nI 0 := nI_nlt (by omega) (by omega)
      have ab := AB (M - 1 - j) (by omega)
      have jp := JP (M - 1 - j) (by omega)
      simp only [e8]
      rw [cD, lD, mD, nD]
      unfold mm_M_pacts_b98 mm_M_pacts_j125 mm_M_pacts_j149 mm_M_pacts_j170
      by_cases cp : P (M - 1 - j)
      · rw [pI_t cp] at jp
        rw [pI_t cp, pI_t cp]
        by_cases c1 : S (M - 1 - j) ≤ mD S M j
        · by_cases c2 : nD S M j ≤ S (M - 1 - j)
          · simp (disch := omega) only [pb_its, pb_l2, pb_ll, nI_add, pb_mul, if_true, if_false, pb_bs, pb_b2n, pb_bz0, pb_bz1, pb_10, pb_01, pb_i31, n0, ab, c1, c2, jp, e9]
          · simp (disch := omega) only [pb_its, pb_l2, pb_ll, nI_add, pb_mul, if_true, if_false, pb_bs, pb_b2n, pb_bz0, pb_bz1, pb_10, pb_01, pb_i31, n0, ab, c1, c2, jp, e9]
        · by_cases c2 : nD S M j ≤ S (M - 1 - j)
          · simp (disch := omega) only [pb_its, pb_l2, pb_ll, nI_add, pb_mul, if_true, if_false, pb_bs, pb_b2n, pb_bz0, pb_bz1, pb_10, pb_01, pb_i31, n0, ab, c1, c2, jp, e9]
          · simp (disch := omega) only [pb_its, pb_l2, pb_ll, nI_add, pb_mul, if_true, if_false, pb_bs, pb_b2n, pb_bz0, pb_bz1, pb_10, pb_01, pb_i31, n0, ab, c1, c2, jp, e9]
      · rw [pI_f cp] at jp
        rw [pI_f cp, pI_f cp, Nat.add_zero]
        by_cases c1 : S (M - 1 - j) ≤ mD S M j
        · by_cases c2 : nD S M j ≤ S (M - 1 - j)
          · simp (disch := omega) only [pb_its, pb_l2, pb_ll, nI_add, pb_mul, if_true, if_false, pb_bs, pb_b2n, pb_bz0, pb_bz1, pb_10, pb_01, pb_i31, n0, ab, c1, c2, jp, e9]
          · simp (disch := omega) only [pb_its, pb_l2, pb_ll, nI_add, pb_mul, if_true, if_false, pb_bs, pb_b2n, pb_bz0, pb_bz1, pb_10, pb_01, pb_i31, n0, ab, c1, c2, jp, e9]
        · by_cases c2 : nD S M j ≤ S (M - 1 - j)
          · simp (disch := omega) only [pb_its, pb_l2, pb_ll, nI_add, pb_mul, if_true, if_false, pb_bs, pb_b2n, pb_bz0, pb_bz1, pb_10, pb_01, pb_i31, n0, ab, c1, c2, jp, e9]
          · simp (disch := omega) only [pb_its, pb_l2, pb_ll, nI_add, pb_mul, if_true, if_false, pb_bs, pb_b2n, pb_bz0, pb_bz1, pb_10, pb_01, pb_i31, n0, ab, c1, c2, jp, e9]
    · have n0 : nI (M - M) - nI 1 < nI 0 := by
        rw [Nat.sub_self]
        decide
      unfold mm_M_pacts_b98
      simp (disch := omega) only [pb_its, pb_l2, pb_ll, nI_add, pb_mul, if_true, if_false, pb_bs, pb_b2n, pb_bz0, pb_bz1, pb_10, pb_01, pb_i31, n0]
  rw [Nat.sub_zero] at ml
  have ab0 := AB 0 hp1
  have ec := cD_s (P := P) (M := M) M (Nat.le_refl M)
  rw [Nat.sub_self, ct, Nat.add_zero] at ec
  rw [ec, (mAD S hp1).1, (mAD S hp1).2] at ml
  have hw3 : w = nI 0 ∨ w = nI 1 ∨ w = nI 2 := by
    obtain ⟨q, -, hq, e⟩ := sp_in_n cw (by omega) (by omega)
    have : q = 0 ∨ q = 1 ∨ q = 2 := by omega
    rcases this with e' | e' | e' <;> subst e'
    · exact Or.inl e
    · exact Or.inr (Or.inl e)
    · exact Or.inr (Or.inr e)
  rcases hw3 with e | e | e <;> subst e
  · have l1 : ss_lp (mm_P_pactCount_b4 N (some 114) h1) N (nI 0, nI 0) = some (nI (ct P M)) := by
      refine pb_lp (fun q => (nI (ct P q), nI q)) M (by omega) (fun q hq => ?_) ?_
      · have hlt : ¬ nI M ≤ nI q := nI_ge hq (by omega)
        have ip := IP q hq
        unfold mm_P_pactCount_b4 mm_P_pactCount_j26
        rw [ct]
        by_cases cp : P q
        · rw [pI_t cp] at ip ⊢
          simp (disch := omega) only [pb_its, pb_l2, pb_ll, nI_add, pb_mul, if_true, if_false, pb_bs, pb_b2n, pb_bz0, pb_bz1, pb_10, pb_01, pb_i31, SC, hlt, ip]
        · rw [pI_f cp] at ip ⊢
          simp (disch := omega) only [pb_its, pb_l2, pb_ll, nI_add, pb_mul, if_true, if_false, pb_bs, pb_b2n, pb_bz0, pb_bz1, pb_10, pb_01, pb_i31, SC, hlt, ip]
      · unfold mm_P_pactCount_b4
        simp (disch := omega) only [pb_its, pb_l2, pb_ll, nI_add, pb_mul, if_true, if_false, pb_bs, pb_b2n, pb_bz0, pb_bz1, pb_10, pb_01, pb_i31, SC, nI_le (Nat.le_refl M) (by omega : M < 2 ^ 31)]
    refine jo_ask ha0 c1 m2 (r := nI (ct P M)) ?_ ?_
    · unfold mm_S_pacts mm_S_pacts_j76 mm_P_pactCount
      simp (disch := omega) only [pb_its, pb_l2, pb_ll, nI_add, pb_mul, if_true, if_false, pb_bs, pb_b2n, pb_bz0, pb_bz1, pb_10, pb_01, pb_i31, ck_is0 hk, ck_r0_0 hk, ck_r0_1 hk, ck_r0_2 hk, ck_r0_3 hk, ck_r0_4 hk, ck_r0_5 hk, ck_r0_6 hk, ck_r0_7 hk, ck_r0_8 hk, ck_r0_9 hk, ck_is1 hk, ck_r1_0 hk, ck_is3 hk, ck_r3_0 hk, ck_r3_1 hk, ck_is20 hk, ck_r20_0 hk, ck_r20_1 hk, ck_r20_2 hk, ck_is24 hk, ck_r24_1 hk, ck_r24_2 hk, ck_r24_3 hk, ck_r24_4 hk, ck_is33 hk, ck_r33_0 hk, ck_r33_1 hk, ck_is40 hk, ck_r40_0 hk, ck_is102 hk, ck_r102_0 hk, ck_r102_1 hk, ck_r102_2 hk, ck_r102_3 hk, ck_r102_4 hk, ck_r102_5 hk, ck_is103 hk, ck_r103_0 hk, ck_r103_1 hk, ck_is111 hk, ck_r111_0 hk, ck_r111_1 hk, ck_r111_2 hk, ck_r111_3 hk, ck_r111_4 hk, ck_is114 hk, ck_r114_0 hk, ck_r114_1 hk, ck_r114_2 hk, ck_r114_3 hk, ck_r114_4 hk, bV, bI, bT, bF, bD, bS, bH, bR0, bR1, bR2, bR3, bR4, bFo, bX, bNo, bG0, bG1, bG2, bG3, t1, pq_withinC, pb_ct cy, pb_ct cw, e1, pb_nn, ck_is0 k1, ck_r0_0 k1, ck_r0_1 k1, ck_r0_2 k1, ck_r0_3 k1, ck_r0_4 k1, ck_r0_5 k1, ck_r0_6 k1, ck_r0_7 k1, ck_r0_8 k1, ck_r0_9 k1, ck_is1 k1, ck_r1_0 k1, ck_is3 k1, ck_r3_0 k1, ck_r3_1 k1, ck_is20 k1, ck_r20_0 k1, ck_r20_1 k1, ck_r20_2 k1, ck_is24 k1, ck_r24_1 k1, ck_r24_2 k1, ck_r24_3 k1, ck_r24_4 k1, ck_is33 k1, ck_r33_0 k1, ck_r33_1 k1, ck_is40 k1, ck_r40_0 k1, ck_is102 k1, ck_r102_0 k1, ck_r102_1 k1, ck_r102_2 k1, ck_r102_3 k1, ck_r102_4 k1, ck_r102_5 k1, ck_is103 k1, ck_r103_0 k1, ck_r103_1 k1, ck_is111 k1, ck_r111_0 k1, ck_r111_1 k1, ck_r111_2 k1, ck_r111_3 k1, ck_r111_4 k1, ck_is114 k1, ck_r114_0 k1, ck_r114_1 k1, ck_r114_2 k1, ck_r114_3 k1, ck_r114_4 k1, l1]
    · unfold mm_M_pacts mm_M_pacts_j200
      simp (disch := omega) only [pb_its, pb_l2, pb_ll, nI_add, pb_mul, if_true, if_false, pb_bs, pb_b2n, pb_bz0, pb_bz1, pb_10, pb_01, pb_i31, mk_is hk2, mk_g0 hk2, mk_g1 hk2, mk_g2 hk2, mk_g3 hk2, mk_g4 hk2, mk_g5 hk2, mk_g6 hk2, mk_g7 hk2, mk_g8 hk2, mk_g9 hk2, mk_g10 hk2, mk_g11 hk2, mk_g12 hk2, mk_g13 hk2, mk_g14 hk2, mk_g15 hk2, mk_g16 hk2, mk_g17 hk2, mk_g18 hk2, mk_g19 hk2, mk_g20 hk2, mk_g21 hk2, mk_g22 hk2, mb_isValley hm1 Hl, t1, po_inC, pb_ct cy, pb_ct cw, s3, sh, f1, l2, ab0, ml]
  · have ell : ∃ r, lD P M M = r ∧ mm_P_leastPact N (some 114) h1 = some r := by
      rcases ex_least P M with hno | ⟨s, s1, s2, s3⟩
      · refine ⟨-nI 2, lD_no hno M (Nat.le_refl M), ?_⟩
        have l1 : ss_lp (mm_P_leastPact_b2 N (some 114) h1) N (nI 0) = some (.inl ()) := by
          refine pb_lp (fun q => nI q) M (by omega) (fun q hq => ?_) ?_
          · have hlt : ¬ nI M ≤ nI q := nI_ge hq (by omega)
            have ip := IP q hq
            rw [pI_f (hno q hq)] at ip
            unfold mm_P_leastPact_b2
            simp (disch := omega) only [pb_its, pb_l2, pb_ll, nI_add, pb_mul, if_true, if_false, pb_bs, pb_b2n, pb_bz0, pb_bz1, pb_10, pb_01, pb_i31, SC, hlt, ip]
          · unfold mm_P_leastPact_b2
            simp (disch := omega) only [pb_its, pb_l2, pb_ll, nI_add, pb_mul, if_true, if_false, pb_bs, pb_b2n, pb_bz0, pb_bz1, pb_10, pb_01, pb_i31, SC, nI_le (Nat.le_refl M) (by omega : M < 2 ^ 31)]
        unfold mm_P_leastPact
        simp (disch := omega) only [pb_its, pb_l2, pb_ll, nI_add, pb_mul, if_true, if_false, pb_bs, pb_b2n, pb_bz0, pb_bz1, pb_10, pb_01, pb_i31, ck_is0 k1, ck_r0_0 k1, ck_r0_1 k1, ck_r0_2 k1, ck_r0_3 k1, ck_r0_4 k1, ck_r0_5 k1, ck_r0_6 k1, ck_r0_7 k1, ck_r0_8 k1, ck_r0_9 k1, ck_is1 k1, ck_r1_0 k1, ck_is3 k1, ck_r3_0 k1, ck_r3_1 k1, ck_is20 k1, ck_r20_0 k1, ck_r20_1 k1, ck_r20_2 k1, ck_is24 k1, ck_r24_1 k1, ck_r24_2 k1, ck_r24_3 k1, ck_r24_4 k1, ck_is33 k1, ck_r33_0 k1, ck_r33_1 k1, ck_is40 k1, ck_r40_0 k1, ck_is102 k1, ck_r102_0 k1, ck_r102_1 k1, ck_r102_2 k1, ck_r102_3 k1, ck_r102_4 k1, ck_r102_5 k1, ck_is103 k1, ck_r103_0 k1, ck_r103_1 k1, ck_is111 k1, ck_r111_0 k1, ck_r111_1 k1, ck_r111_2 k1, ck_r111_3 k1, ck_r111_4 k1, ck_is114 k1, ck_r114_0 k1, ck_r114_1 k1, ck_r114_2 k1, ck_r114_3 k1, ck_r114_4 k1, l1]
      · refine ⟨nI s, lD_at s1 s2 s3 M (by omega) (Nat.le_refl M), ?_⟩
        have l1 : ss_lp (mm_P_leastPact_b2 N (some 114) h1) N (nI 0) = some (.inr (nI s)) := by
          refine pb_lp (fun q => nI q) s (by omega) (fun q hq => ?_) ?_
          · have hlt : ¬ nI M ≤ nI q := nI_ge (by omega) (by omega)
            have ip := IP q (by omega)
            rw [pI_f (s3 q hq)] at ip
            unfold mm_P_leastPact_b2
            simp (disch := omega) only [pb_its, pb_l2, pb_ll, nI_add, pb_mul, if_true, if_false, pb_bs, pb_b2n, pb_bz0, pb_bz1, pb_10, pb_01, pb_i31, SC, hlt, ip]
          · have hlt : ¬ nI M ≤ nI s := nI_ge (by omega) (by omega)
            have ip := IP s s1
            rw [pI_t s2] at ip
            unfold mm_P_leastPact_b2
            simp (disch := omega) only [pb_its, pb_l2, pb_ll, nI_add, pb_mul, if_true, if_false, pb_bs, pb_b2n, pb_bz0, pb_bz1, pb_10, pb_01, pb_i31, SC, hlt, ip]
        unfold mm_P_leastPact
        simp (disch := omega) only [pb_its, pb_l2, pb_ll, nI_add, pb_mul, if_true, if_false, pb_bs, pb_b2n, pb_bz0, pb_bz1, pb_10, pb_01, pb_i31, ck_is0 k1, ck_r0_0 k1, ck_r0_1 k1, ck_r0_2 k1, ck_r0_3 k1, ck_r0_4 k1, ck_r0_5 k1, ck_r0_6 k1, ck_r0_7 k1, ck_r0_8 k1, ck_r0_9 k1, ck_is1 k1, ck_r1_0 k1, ck_is3 k1, ck_r3_0 k1, ck_r3_1 k1, ck_is20 k1, ck_r20_0 k1, ck_r20_1 k1, ck_r20_2 k1, ck_is24 k1, ck_r24_1 k1, ck_r24_2 k1, ck_r24_3 k1, ck_r24_4 k1, ck_is33 k1, ck_r33_0 k1, ck_r33_1 k1, ck_is40 k1, ck_r40_0 k1, ck_is102 k1, ck_r102_0 k1, ck_r102_1 k1, ck_r102_2 k1, ck_r102_3 k1, ck_r102_4 k1, ck_r102_5 k1, ck_is103 k1, ck_r103_0 k1, ck_r103_1 k1, ck_is111 k1, ck_r111_0 k1, ck_r111_1 k1, ck_r111_2 k1, ck_r111_3 k1, ck_r111_4 k1, ck_is114 k1, ck_r114_0 k1, ck_r114_1 k1, ck_r114_2 k1, ck_r114_3 k1, ck_r114_4 k1, l1]
    obtain ⟨r, er, l1⟩ := ell
    rw [er] at ml
    refine jo_ask ha0 c1 m2 (r := r) ?_ ?_
    · unfold mm_S_pacts mm_S_pacts_j76
      simp (disch := omega) only [pb_its, pb_l2, pb_ll, nI_add, pb_mul, if_true, if_false, pb_bs, pb_b2n, pb_bz0, pb_bz1, pb_10, pb_01, pb_i31, ck_is0 hk, ck_r0_0 hk, ck_r0_1 hk, ck_r0_2 hk, ck_r0_3 hk, ck_r0_4 hk, ck_r0_5 hk, ck_r0_6 hk, ck_r0_7 hk, ck_r0_8 hk, ck_r0_9 hk, ck_is1 hk, ck_r1_0 hk, ck_is3 hk, ck_r3_0 hk, ck_r3_1 hk, ck_is20 hk, ck_r20_0 hk, ck_r20_1 hk, ck_r20_2 hk, ck_is24 hk, ck_r24_1 hk, ck_r24_2 hk, ck_r24_3 hk, ck_r24_4 hk, ck_is33 hk, ck_r33_0 hk, ck_r33_1 hk, ck_is40 hk, ck_r40_0 hk, ck_is102 hk, ck_r102_0 hk, ck_r102_1 hk, ck_r102_2 hk, ck_r102_3 hk, ck_r102_4 hk, ck_r102_5 hk, ck_is103 hk, ck_r103_0 hk, ck_r103_1 hk, ck_is111 hk, ck_r111_0 hk, ck_r111_1 hk, ck_r111_2 hk, ck_r111_3 hk, ck_r111_4 hk, ck_is114 hk, ck_r114_0 hk, ck_r114_1 hk, ck_r114_2 hk, ck_r114_3 hk, ck_r114_4 hk, bV, bI, bT, bF, bD, bS, bH, bR0, bR1, bR2, bR3, bR4, bFo, bX, bNo, bG0, bG1, bG2, bG3, t1, pq_withinC, pb_ct cy, pb_ct cw, e1, pb_nn, ck_is0 k1, ck_r0_0 k1, ck_r0_1 k1, ck_r0_2 k1, ck_r0_3 k1, ck_r0_4 k1, ck_r0_5 k1, ck_r0_6 k1, ck_r0_7 k1, ck_r0_8 k1, ck_r0_9 k1, ck_is1 k1, ck_r1_0 k1, ck_is3 k1, ck_r3_0 k1, ck_r3_1 k1, ck_is20 k1, ck_r20_0 k1, ck_r20_1 k1, ck_r20_2 k1, ck_is24 k1, ck_r24_1 k1, ck_r24_2 k1, ck_r24_3 k1, ck_r24_4 k1, ck_is33 k1, ck_r33_0 k1, ck_r33_1 k1, ck_is40 k1, ck_r40_0 k1, ck_is102 k1, ck_r102_0 k1, ck_r102_1 k1, ck_r102_2 k1, ck_r102_3 k1, ck_r102_4 k1, ck_r102_5 k1, ck_is103 k1, ck_r103_0 k1, ck_r103_1 k1, ck_is111 k1, ck_r111_0 k1, ck_r111_1 k1, ck_r111_2 k1, ck_r111_3 k1, ck_r111_4 k1, ck_is114 k1, ck_r114_0 k1, ck_r114_1 k1, ck_r114_2 k1, ck_r114_3 k1, ck_r114_4 k1, l1]
    · unfold mm_M_pacts mm_M_pacts_j200
      simp (disch := omega) only [pb_its, pb_l2, pb_ll, nI_add, pb_mul, if_true, if_false, pb_bs, pb_b2n, pb_bz0, pb_bz1, pb_10, pb_01, pb_i31, mk_is hk2, mk_g0 hk2, mk_g1 hk2, mk_g2 hk2, mk_g3 hk2, mk_g4 hk2, mk_g5 hk2, mk_g6 hk2, mk_g7 hk2, mk_g8 hk2, mk_g9 hk2, mk_g10 hk2, mk_g11 hk2, mk_g12 hk2, mk_g13 hk2, mk_g14 hk2, mk_g15 hk2, mk_g16 hk2, mk_g17 hk2, mk_g18 hk2, mk_g19 hk2, mk_g20 hk2, mk_g21 hk2, mk_g22 hk2, mb_isValley hm1 Hl, t1, po_inC, pb_ct cy, pb_ct cw, s3, sh, f1, l2, ab0, ml]
  · have l1 : ss_lp (mm_P_spread_b10 N (some 114) h1) N (S 0, S 0, nI 1) = some (mA S (M - 1), nA S (M - 1)) := by
      refine pb_lp (fun j => (mA S j, nA S j, nI (j + 1))) (M - 1) (by omega) (fun j hj => ?_) ?_
      · have hlt : ¬ nI M ≤ nI (j + 1) := nI_ge (by omega) (by omega)
        have so := SO (j + 1) (by omega)
        unfold mm_P_spread_b10
        rw [mA, nA]
        simp (disch := omega) only [pb_its, pb_l2, pb_ll, nI_add, pb_mul, if_true, if_false, pb_bs, pb_b2n, pb_bz0, pb_bz1, pb_10, pb_01, pb_i31, SC, hlt, so]
      · have hge : nI M ≤ nI (M - 1 + 1) := nI_le (by omega) (by omega)
        unfold mm_P_spread_b10
        simp (disch := omega) only [pb_its, pb_l2, pb_ll, nI_add, pb_mul, if_true, if_false, pb_bs, pb_b2n, pb_bz0, pb_bz1, pb_10, pb_01, pb_i31, SC, hge]
    have so0 := SO 0 hp1
    refine jo_ask ha0 c1 m2 (r := mA S (M - 1) - nA S (M - 1)) ?_ ?_
    · unfold mm_S_pacts mm_P_spread
      simp (disch := omega) only [pb_its, pb_l2, pb_ll, nI_add, pb_mul, if_true, if_false, pb_bs, pb_b2n, pb_bz0, pb_bz1, pb_10, pb_01, pb_i31, ck_is0 hk, ck_r0_0 hk, ck_r0_1 hk, ck_r0_2 hk, ck_r0_3 hk, ck_r0_4 hk, ck_r0_5 hk, ck_r0_6 hk, ck_r0_7 hk, ck_r0_8 hk, ck_r0_9 hk, ck_is1 hk, ck_r1_0 hk, ck_is3 hk, ck_r3_0 hk, ck_r3_1 hk, ck_is20 hk, ck_r20_0 hk, ck_r20_1 hk, ck_r20_2 hk, ck_is24 hk, ck_r24_1 hk, ck_r24_2 hk, ck_r24_3 hk, ck_r24_4 hk, ck_is33 hk, ck_r33_0 hk, ck_r33_1 hk, ck_is40 hk, ck_r40_0 hk, ck_is102 hk, ck_r102_0 hk, ck_r102_1 hk, ck_r102_2 hk, ck_r102_3 hk, ck_r102_4 hk, ck_r102_5 hk, ck_is103 hk, ck_r103_0 hk, ck_r103_1 hk, ck_is111 hk, ck_r111_0 hk, ck_r111_1 hk, ck_r111_2 hk, ck_r111_3 hk, ck_r111_4 hk, ck_is114 hk, ck_r114_0 hk, ck_r114_1 hk, ck_r114_2 hk, ck_r114_3 hk, ck_r114_4 hk, bV, bI, bT, bF, bD, bS, bH, bR0, bR1, bR2, bR3, bR4, bFo, bX, bNo, bG0, bG1, bG2, bG3, t1, pq_withinC, pb_ct cy, pb_ct cw, e1, ck_is0 k1, ck_r0_0 k1, ck_r0_1 k1, ck_r0_2 k1, ck_r0_3 k1, ck_r0_4 k1, ck_r0_5 k1, ck_r0_6 k1, ck_r0_7 k1, ck_r0_8 k1, ck_r0_9 k1, ck_is1 k1, ck_r1_0 k1, ck_is3 k1, ck_r3_0 k1, ck_r3_1 k1, ck_is20 k1, ck_r20_0 k1, ck_r20_1 k1, ck_r20_2 k1, ck_is24 k1, ck_r24_1 k1, ck_r24_2 k1, ck_r24_3 k1, ck_r24_4 k1, ck_is33 k1, ck_r33_0 k1, ck_r33_1 k1, ck_is40 k1, ck_r40_0 k1, ck_is102 k1, ck_r102_0 k1, ck_r102_1 k1, ck_r102_2 k1, ck_r102_3 k1, ck_r102_4 k1, ck_r102_5 k1, ck_is103 k1, ck_r103_0 k1, ck_r103_1 k1, ck_is111 k1, ck_r111_0 k1, ck_r111_1 k1, ck_r111_2 k1, ck_r111_3 k1, ck_r111_4 k1, ck_is114 k1, ck_r114_0 k1, ck_r114_1 k1, ck_r114_2 k1, ck_r114_3 k1, ck_r114_4 k1, so0, l1]
    · unfold mm_M_pacts mm_M_pacts_j200
      simp (disch := omega) only [pb_its, pb_l2, pb_ll, nI_add, pb_mul, if_true, if_false, pb_bs, pb_b2n, pb_bz0, pb_bz1, pb_10, pb_01, pb_i31, mk_is hk2, mk_g0 hk2, mk_g1 hk2, mk_g2 hk2, mk_g3 hk2, mk_g4 hk2, mk_g5 hk2, mk_g6 hk2, mk_g7 hk2, mk_g8 hk2, mk_g9 hk2, mk_g10 hk2, mk_g11 hk2, mk_g12 hk2, mk_g13 hk2, mk_g14 hk2, mk_g15 hk2, mk_g16 hk2, mk_g17 hk2, mk_g18 hk2, mk_g19 hk2, mk_g20 hk2, mk_g21 hk2, mk_g22 hk2, mb_isValley hm1 Hl, t1, po_inC, pb_ct cy, pb_ct cw, s3, sh, f1, l2, ab0, ml, pb_nn]
