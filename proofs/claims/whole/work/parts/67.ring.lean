/-! ===== ring ===== -/
theorem cb_same {N : Nat} {h0 h : ss_Hp} {T : List Nat} {a : List Int32} {fo x : Int32} {RS : List (List ru_C)} {US : List (List Int32)} {I : Nat → Option (List Int32 × Int32 × Int32)} {Z : Nat → List Int32} {ro : Option (List ru_C)} {k m : Nat} (hc : cb_h h0 h T a fo x RS US I Z) (hk8 : k ≤ 8) (h2 : pv a 2 = nI k) (hrow : ∀ j, j < 61 → ∀ s, s < 8 → pv (Z 0) (j * 8 + s) = pv (dN ro k m a j) (14 + s)) (hN : 100 < N) : rw_S (fun i j => mm_F_isSameRow N (some 111) (nI i) (nI j) h) (rwQ ro k m a) := by
  intro i j hi hj
  obtain ⟨v, ⟨⟨bV, bI, bT, bF, bD, bS, bH⟩, ⟨bR0, bR1, bR2, bR3, bR4⟩, ⟨bFo, bX, bNo⟩, ⟨bG0, bG1, bG2, bG3⟩, bOwn, bStr, bBes, bSn, bWl, bNd, bCl⟩⟩ := cb_r hc
  have hk := cb_ck hc
  have rd : ∀ i s, i < 61 → s < 8 → ss_ai h (some 112) 20 (nI (i * 8 + s)) = some (pv (dN ro k m a i) (14 + s)) := fun i s h1 h2 => by rw [cb_z0 hc (by omega), hrow i h1 s h2]
  unfold mm_F_isSameRow
  rcases ex_least (fun s => pv (dN ro k m a i) (14 + s) ≠ pv (dN ro k m a j) (14 + s)) k with hno | ⟨s, s1, s2, s3⟩
  · have e : ss_lp (mm_F_isSameRow_b2 N (some 111) (nI i) (nI j) h) N (nI 0) = some (.inl ()) := by
      refine pb_lp (fun t => nI t) k (by omega) (fun t ht => ?_) ?_
      · unfold mm_F_isSameRow_b2
        have h6 : ¬ nI k ≤ nI t := nI_ge ht (by omega)
        simp (disch := omega) only [pb_its, pb_l2, pb_ll, nI_add, pb_mul, if_true, if_false, pb_bs, pb_b2n, pb_bz0, pb_bz1, pb_10, pb_01, pb_i31, ck_is0 hk, ck_r0_0 hk, ck_r0_1 hk, ck_r0_2 hk, ck_r0_3 hk, ck_r0_4 hk, ck_r0_5 hk, ck_r0_6 hk, ck_r0_7 hk, ck_r0_8 hk, ck_r0_9 hk, ck_is1 hk, ck_r1_0 hk, ck_is3 hk, ck_r3_0 hk, ck_r3_1 hk, ck_is20 hk, ck_r20_0 hk, ck_r20_1 hk, ck_r20_2 hk, ck_is24 hk, ck_r24_1 hk, ck_r24_2 hk, ck_r24_3 hk, ck_r24_4 hk, ck_is33 hk, ck_r33_0 hk, ck_r33_1 hk, ck_is40 hk, ck_r40_0 hk, ck_is102 hk, ck_r102_0 hk, ck_r102_1 hk, ck_r102_2 hk, ck_r102_3 hk, ck_r102_4 hk, ck_r102_5 hk, ck_is103 hk, ck_r103_0 hk, ck_r103_1 hk, ck_is111 hk, ck_r111_0 hk, ck_r111_1 hk, ck_r111_2 hk, ck_r111_3 hk, ck_r111_4 hk, ck_is114 hk, ck_r114_0 hk, ck_r114_1 hk, ck_r114_2 hk, ck_r114_3 hk, ck_r114_4 hk, bV, bI, bT, bF, bD, bS, bH, bR0, bR1, bR2, bR3, bR4, bFo, bX, bNo, bG0, bG1, bG2, bG3, h2, h6, rd i t hi (by omega), rd j t hj (by omega), Classical.not_not.mp (hno t ht)]
      · unfold mm_F_isSameRow_b2
        simp (disch := omega) only [pb_its, pb_l2, pb_ll, nI_add, pb_mul, if_true, if_false, pb_bs, pb_b2n, pb_bz0, pb_bz1, pb_10, pb_01, pb_i31, ck_is0 hk, ck_r0_0 hk, ck_r0_1 hk, ck_r0_2 hk, ck_r0_3 hk, ck_r0_4 hk, ck_r0_5 hk, ck_r0_6 hk, ck_r0_7 hk, ck_r0_8 hk, ck_r0_9 hk, ck_is1 hk, ck_r1_0 hk, ck_is3 hk, ck_r3_0 hk, ck_r3_1 hk, ck_is20 hk, ck_r20_0 hk, ck_r20_1 hk, ck_r20_2 hk, ck_is24 hk, ck_r24_1 hk, ck_r24_2 hk, ck_r24_3 hk, ck_r24_4 hk, ck_is33 hk, ck_r33_0 hk, ck_r33_1 hk, ck_is40 hk, ck_r40_0 hk, ck_is102 hk, ck_r102_0 hk, ck_r102_1 hk, ck_r102_2 hk, ck_r102_3 hk, ck_r102_4 hk, ck_r102_5 hk, ck_is103 hk, ck_r103_0 hk, ck_r103_1 hk, ck_is111 hk, ck_r111_0 hk, ck_r111_1 hk, ck_r111_2 hk, ck_r111_3 hk, ck_r111_4 hk, ck_is114 hk, ck_r114_0 hk, ck_r114_1 hk, ck_r114_2 hk, ck_r114_3 hk, ck_r114_4 hk, bV, bI, bT, bF, bD, bS, bH, bR0, bR1, bR2, bR3, bR4, bFo, bX, bNo, bG0, bG1, bG2, bG3, h2, nI_le (Nat.le_refl k) (by omega : k < 2 ^ 31)]
    have q : rwQ ro k m a i j := fun s hs => Classical.not_not.mp (hno s hs)
    simp (disch := omega) only [pb_its, pb_l2, pb_ll, nI_add, pb_mul, if_true, if_false, pb_bs, pb_b2n, pb_bz0, pb_bz1, pb_10, pb_01, pb_i31, ck_is0 hk, ck_r0_0 hk, ck_r0_1 hk, ck_r0_2 hk, ck_r0_3 hk, ck_r0_4 hk, ck_r0_5 hk, ck_r0_6 hk, ck_r0_7 hk, ck_r0_8 hk, ck_r0_9 hk, ck_is1 hk, ck_r1_0 hk, ck_is3 hk, ck_r3_0 hk, ck_r3_1 hk, ck_is20 hk, ck_r20_0 hk, ck_r20_1 hk, ck_r20_2 hk, ck_is24 hk, ck_r24_1 hk, ck_r24_2 hk, ck_r24_3 hk, ck_r24_4 hk, ck_is33 hk, ck_r33_0 hk, ck_r33_1 hk, ck_is40 hk, ck_r40_0 hk, ck_is102 hk, ck_r102_0 hk, ck_r102_1 hk, ck_r102_2 hk, ck_r102_3 hk, ck_r102_4 hk, ck_r102_5 hk, ck_is103 hk, ck_r103_0 hk, ck_r103_1 hk, ck_is111 hk, ck_r111_0 hk, ck_r111_1 hk, ck_r111_2 hk, ck_r111_3 hk, ck_r111_4 hk, ck_is114 hk, ck_r114_0 hk, ck_r114_1 hk, ck_r114_2 hk, ck_r114_3 hk, ck_r114_4 hk, e, pb_ct q]
  · have e : ss_lp (mm_F_isSameRow_b2 N (some 111) (nI i) (nI j) h) N (nI 0) = some (.inr ()) := by
      refine pb_lp (fun t => nI t) s (by omega) (fun t ht => ?_) ?_
      · unfold mm_F_isSameRow_b2
        have h6 : ¬ nI k ≤ nI t := nI_ge (by omega) (by omega)
        simp (disch := omega) only [pb_its, pb_l2, pb_ll, nI_add, pb_mul, if_true, if_false, pb_bs, pb_b2n, pb_bz0, pb_bz1, pb_10, pb_01, pb_i31, ck_is0 hk, ck_r0_0 hk, ck_r0_1 hk, ck_r0_2 hk, ck_r0_3 hk, ck_r0_4 hk, ck_r0_5 hk, ck_r0_6 hk, ck_r0_7 hk, ck_r0_8 hk, ck_r0_9 hk, ck_is1 hk, ck_r1_0 hk, ck_is3 hk, ck_r3_0 hk, ck_r3_1 hk, ck_is20 hk, ck_r20_0 hk, ck_r20_1 hk, ck_r20_2 hk, ck_is24 hk, ck_r24_1 hk, ck_r24_2 hk, ck_r24_3 hk, ck_r24_4 hk, ck_is33 hk, ck_r33_0 hk, ck_r33_1 hk, ck_is40 hk, ck_r40_0 hk, ck_is102 hk, ck_r102_0 hk, ck_r102_1 hk, ck_r102_2 hk, ck_r102_3 hk, ck_r102_4 hk, ck_r102_5 hk, ck_is103 hk, ck_r103_0 hk, ck_r103_1 hk, ck_is111 hk, ck_r111_0 hk, ck_r111_1 hk, ck_r111_2 hk, ck_r111_3 hk, ck_r111_4 hk, ck_is114 hk, ck_r114_0 hk, ck_r114_1 hk, ck_r114_2 hk, ck_r114_3 hk, ck_r114_4 hk, bV, bI, bT, bF, bD, bS, bH, bR0, bR1, bR2, bR3, bR4, bFo, bX, bNo, bG0, bG1, bG2, bG3, h2, h6, rd i t hi (by omega), rd j t hj (by omega), Classical.not_not.mp (s3 t ht)]
      · unfold mm_F_isSameRow_b2
        have h6 : ¬ nI k ≤ nI s := nI_ge (by omega) (by omega)
        simp (disch := omega) only [pb_its, pb_l2, pb_ll, nI_add, pb_mul, if_true, if_false, pb_bs, pb_b2n, pb_bz0, pb_bz1, pb_10, pb_01, pb_i31, ck_is0 hk, ck_r0_0 hk, ck_r0_1 hk, ck_r0_2 hk, ck_r0_3 hk, ck_r0_4 hk, ck_r0_5 hk, ck_r0_6 hk, ck_r0_7 hk, ck_r0_8 hk, ck_r0_9 hk, ck_is1 hk, ck_r1_0 hk, ck_is3 hk, ck_r3_0 hk, ck_r3_1 hk, ck_is20 hk, ck_r20_0 hk, ck_r20_1 hk, ck_r20_2 hk, ck_is24 hk, ck_r24_1 hk, ck_r24_2 hk, ck_r24_3 hk, ck_r24_4 hk, ck_is33 hk, ck_r33_0 hk, ck_r33_1 hk, ck_is40 hk, ck_r40_0 hk, ck_is102 hk, ck_r102_0 hk, ck_r102_1 hk, ck_r102_2 hk, ck_r102_3 hk, ck_r102_4 hk, ck_r102_5 hk, ck_is103 hk, ck_r103_0 hk, ck_r103_1 hk, ck_is111 hk, ck_r111_0 hk, ck_r111_1 hk, ck_r111_2 hk, ck_r111_3 hk, ck_r111_4 hk, ck_is114 hk, ck_r114_0 hk, ck_r114_1 hk, ck_r114_2 hk, ck_r114_3 hk, ck_r114_4 hk, bV, bI, bT, bF, bD, bS, bH, bR0, bR1, bR2, bR3, bR4, bFo, bX, bNo, bG0, bG1, bG2, bG3, h2, h6, rd i s hi (by omega), rd j s hj (by omega), s2]
    have q : ¬ rwQ ro k m a i j := fun q => s2 (q s s1)
    simp (disch := omega) only [pb_its, pb_l2, pb_ll, nI_add, pb_mul, if_true, if_false, pb_bs, pb_b2n, pb_bz0, pb_bz1, pb_10, pb_01, pb_i31, ck_is0 hk, ck_r0_0 hk, ck_r0_1 hk, ck_r0_2 hk, ck_r0_3 hk, ck_r0_4 hk, ck_r0_5 hk, ck_r0_6 hk, ck_r0_7 hk, ck_r0_8 hk, ck_r0_9 hk, ck_is1 hk, ck_r1_0 hk, ck_is3 hk, ck_r3_0 hk, ck_r3_1 hk, ck_is20 hk, ck_r20_0 hk, ck_r20_1 hk, ck_r20_2 hk, ck_is24 hk, ck_r24_1 hk, ck_r24_2 hk, ck_r24_3 hk, ck_r24_4 hk, ck_is33 hk, ck_r33_0 hk, ck_r33_1 hk, ck_is40 hk, ck_r40_0 hk, ck_is102 hk, ck_r102_0 hk, ck_r102_1 hk, ck_r102_2 hk, ck_r102_3 hk, ck_r102_4 hk, ck_r102_5 hk, ck_is103 hk, ck_r103_0 hk, ck_r103_1 hk, ck_is111 hk, ck_r111_0 hk, ck_r111_1 hk, ck_r111_2 hk, ck_r111_3 hk, ck_r111_4 hk, ck_is114 hk, ck_r114_0 hk, ck_r114_1 hk, ck_r114_2 hk, ck_r114_3 hk, ck_r114_4 hk, e, pb_cf q]
theorem mb_same {N : Nat} {h0 h : ss_Hp} {T : List Nat} {a : List Int32} {fo x : Int32} {RS : List (List ru_C)} {US : List (List Int32)} {I : Nat → Option (List Int32 × Int32 × Int32)} {fo2 : Int32} {b th2 fa2 kp2 : List Int32} {dx2 : Int64} {Z : Nat → List Int32} {ro : Option (List ru_C)} {k m : Nat} (hc : mb_h h0 h T a fo x RS US I fo2 b th2 fa2 kp2 dx2 Z) (hl : b.length = 124) (hk8 : k ≤ 8) (h2 : pv b 2 = nI k) (hrow : ∀ j, j < 61 → ∀ s, s < 8 → pv (Z 0) (8 * j + s) = pv (dN ro k m a j) (14 + s)) (hN : 100 < N) : rw_S (fun i j => mm_M_areAlike N (some 118) (nI i) (nI j) h) (rwQ ro k m a) := by
  intro i j hi hj
  have hk := mb_mk hc
  have e2 := mb_said hc hl (show 2 < 124 by omega)
  rw [h2] at e2
  have rd : ∀ i s, i < 61 → s < 8 → ss_ai h (some 133) 20 (nI (8 * i + s)) = some (pv (dN ro k m a i) (14 + s)) := fun i s h1 h2 => by rw [mb_z0 hc (by omega), hrow i h1 s h2]
  unfold mm_M_areAlike
  rcases ex_least (fun s => pv (dN ro k m a i) (14 + s) ≠ pv (dN ro k m a j) (14 + s)) k with hno | ⟨s, s1, s2, s3⟩
  · have e : ss_lp (mm_M_areAlike_b2 N (some 118) (nI i) (nI j) h) N (nI 0) = some (.inl ()) := by
      refine pb_lp (fun t => nI t) k (by omega) (fun t ht => ?_) ?_
      · unfold mm_M_areAlike_b2
        have h6 : ¬ nI k ≤ nI t := nI_ge ht (by omega)
        simp (disch := omega) only [pb_its, pb_l2, pb_ll, nI_add, pb_mul, if_true, if_false, pb_bs, pb_b2n, pb_bz0, pb_bz1, pb_10, pb_01, pb_i31, mk_is hk, mk_g0 hk, mk_g1 hk, mk_g2 hk, mk_g3 hk, mk_g4 hk, mk_g5 hk, mk_g6 hk, mk_g7 hk, mk_g8 hk, mk_g9 hk, mk_g10 hk, mk_g11 hk, mk_g12 hk, mk_g13 hk, mk_g14 hk, mk_g15 hk, mk_g16 hk, mk_g17 hk, mk_g18 hk, mk_g19 hk, mk_g20 hk, mk_g21 hk, mk_g22 hk, e2, h6, rd i t hi (by omega), rd j t hj (by omega), Classical.not_not.mp (hno t ht)]
      · unfold mm_M_areAlike_b2
        simp (disch := omega) only [pb_its, pb_l2, pb_ll, nI_add, pb_mul, if_true, if_false, pb_bs, pb_b2n, pb_bz0, pb_bz1, pb_10, pb_01, pb_i31, mk_is hk, mk_g0 hk, mk_g1 hk, mk_g2 hk, mk_g3 hk, mk_g4 hk, mk_g5 hk, mk_g6 hk, mk_g7 hk, mk_g8 hk, mk_g9 hk, mk_g10 hk, mk_g11 hk, mk_g12 hk, mk_g13 hk, mk_g14 hk, mk_g15 hk, mk_g16 hk, mk_g17 hk, mk_g18 hk, mk_g19 hk, mk_g20 hk, mk_g21 hk, mk_g22 hk, e2, nI_le (Nat.le_refl k) (by omega : k < 2 ^ 31)]
    have q : rwQ ro k m a i j := fun s hs => Classical.not_not.mp (hno s hs)
    simp (disch := omega) only [pb_its, pb_l2, pb_ll, nI_add, pb_mul, if_true, if_false, pb_bs, pb_b2n, pb_bz0, pb_bz1, pb_10, pb_01, pb_i31, mk_is hk, mk_g0 hk, mk_g1 hk, mk_g2 hk, mk_g3 hk, mk_g4 hk, mk_g5 hk, mk_g6 hk, mk_g7 hk, mk_g8 hk, mk_g9 hk, mk_g10 hk, mk_g11 hk, mk_g12 hk, mk_g13 hk, mk_g14 hk, mk_g15 hk, mk_g16 hk, mk_g17 hk, mk_g18 hk, mk_g19 hk, mk_g20 hk, mk_g21 hk, mk_g22 hk, e, pb_ct q]
  · have e : ss_lp (mm_M_areAlike_b2 N (some 118) (nI i) (nI j) h) N (nI 0) = some (.inr ()) := by
      refine pb_lp (fun t => nI t) s (by omega) (fun t ht => ?_) ?_
      · unfold mm_M_areAlike_b2
        have h6 : ¬ nI k ≤ nI t := nI_ge (by omega) (by omega)
        simp (disch := omega) only [pb_its, pb_l2, pb_ll, nI_add, pb_mul, if_true, if_false, pb_bs, pb_b2n, pb_bz0, pb_bz1, pb_10, pb_01, pb_i31, mk_is hk, mk_g0 hk, mk_g1 hk, mk_g2 hk, mk_g3 hk, mk_g4 hk, mk_g5 hk, mk_g6 hk, mk_g7 hk, mk_g8 hk, mk_g9 hk, mk_g10 hk, mk_g11 hk, mk_g12 hk, mk_g13 hk, mk_g14 hk, mk_g15 hk, mk_g16 hk, mk_g17 hk, mk_g18 hk, mk_g19 hk, mk_g20 hk, mk_g21 hk, mk_g22 hk, e2, h6, rd i t hi (by omega), rd j t hj (by omega), Classical.not_not.mp (s3 t ht)]
      · unfold mm_M_areAlike_b2
        have h6 : ¬ nI k ≤ nI s := nI_ge (by omega) (by omega)
        simp (disch := omega) only [pb_its, pb_l2, pb_ll, nI_add, pb_mul, if_true, if_false, pb_bs, pb_b2n, pb_bz0, pb_bz1, pb_10, pb_01, pb_i31, mk_is hk, mk_g0 hk, mk_g1 hk, mk_g2 hk, mk_g3 hk, mk_g4 hk, mk_g5 hk, mk_g6 hk, mk_g7 hk, mk_g8 hk, mk_g9 hk, mk_g10 hk, mk_g11 hk, mk_g12 hk, mk_g13 hk, mk_g14 hk, mk_g15 hk, mk_g16 hk, mk_g17 hk, mk_g18 hk, mk_g19 hk, mk_g20 hk, mk_g21 hk, mk_g22 hk, e2, h6, rd i s hi (by omega), rd j s hj (by omega), s2]
    have q : ¬ rwQ ro k m a i j := fun q => s2 (q s s1)
    simp (disch := omega) only [pb_its, pb_l2, pb_ll, nI_add, pb_mul, if_true, if_false, pb_bs, pb_b2n, pb_bz0, pb_bz1, pb_10, pb_01, pb_i31, mk_is hk, mk_g0 hk, mk_g1 hk, mk_g2 hk, mk_g3 hk, mk_g4 hk, mk_g5 hk, mk_g6 hk, mk_g7 hk, mk_g8 hk, mk_g9 hk, mk_g10 hk, mk_g11 hk, mk_g12 hk, mk_g13 hk, mk_g14 hk, mk_g15 hk, mk_g16 hk, mk_g17 hk, mk_g18 hk, mk_g19 hk, mk_g20 hk, mk_g21 hk, mk_g22 hk, e, pb_cf q]
theorem cb_rings {N : Nat} {h0 h : ss_Hp} {T : List Nat} {a : List Int32} {fo x : Int32} {RS : List (List ru_C)} {US : List (List Int32)} {I : Nat → Option (List Int32 × Int32 × Int32)} {Z : Nat → List Int32} {k m d : Nat} {w : Int32} (hc : cb_h h0 h T a fo x RS US I Z) (ht : ¬ pv a 0 ≤ nI 0) (hu : fo = -nI 1 ∨ ∃ r, r < RS.length ∧ fo = nI r) (h6 : RS.length ≤ 6) (hR : sa_R a k m d) (hd : d < 10000) (hN : 5000 < N) : ∃ h1 h' Z', mm_F_start N (some 111) h = some h1 ∧ ss_lp (mm_F_ringOf_b6 N (some 111) w) N (nI 0, h1) = some h' ∧ cb_h h0 h' T a fo x RS US I Z' ∧ ∀ j, j < 61 → ∀ s, s < 8 → pv (Z' 0) (j * 8 + s) = pv (dN (ro_of fo RS) k m a j) (14 + s) := by
  obtain ⟨h1, e1, w1⟩ := cb_start (N := N) hc ht hu h6 (by omega)
  generalize ro_of fo RS = ro at w1 ⊢
  have key := pb_for (body := mm_F_ringOf_b6 N (some 111) w) 61 (fun i s => ∃ h', s = (nI i, h') ∧ ∃ Z' th fa, cw_h h0 h' T a fo x RS US I Z' ro (dN ro k m a i) (pv (dN ro k m a i) 13) th fa ∧ ∀ j, j < i → ∀ s, s < 8 → pv (Z' 0) (j * 8 + s) = pv (dN ro k m a j) (14 + s)) (fun e => ∃ Z', cb_h h0 e T a fo x RS US I Z' ∧ ∀ j, j < 61 → ∀ s, s < 8 → pv (Z' 0) (j * 8 + s) = pv (dN ro k m a j) (14 + s)) (N := N) (s := (nI 0, h1)) (by omega) ⟨h1, rfl, _, _, _, w1, fun j hj => by omega⟩ (by
    rintro i s hi ⟨h', rfl, Z', th, fa, w, hrow⟩
    left
    have hRi := dN_R (ro := ro) hR i (by omega)
    obtain ⟨h2, c1, c2⟩ := cw_rows w hi
    obtain ⟨h3, p1, p2⟩ := cw_pass (N := N) c2 rfl hRi (by omega) (by omega)
    have ckw := cw_ck w
    have ckw2 := cw_ck c2
    have hlen := (cb_len (cw_cb w)).1
    have hlt : ¬ nI 60 < nI i := nI_nlt (by omega) (by omega)
    refine ⟨_, ?_, h3, rfl, _, _, _, p2, fun j hj s hs => ?_⟩
    · unfold mm_F_ringOf_b6
      simp (disch := omega) only [pb_its, pb_l2, pb_ll, nI_add, pb_mul, if_true, if_false, pb_bs, pb_b2n, pb_bz0, pb_bz1, pb_10, pb_01, pb_i31, ck_is0 ckw, ck_r0_0 ckw, ck_r0_1 ckw, ck_r0_2 ckw, ck_r0_3 ckw, ck_r0_4 ckw, ck_r0_5 ckw, ck_r0_6 ckw, ck_r0_7 ckw, ck_r0_8 ckw, ck_r0_9 ckw, ck_is1 ckw, ck_r1_0 ckw, ck_is3 ckw, ck_r3_0 ckw, ck_r3_1 ckw, ck_is20 ckw, ck_r20_0 ckw, ck_r20_1 ckw, ck_r20_2 ckw, ck_is24 ckw, ck_r24_1 ckw, ck_r24_2 ckw, ck_r24_3 ckw, ck_r24_4 ckw, ck_is33 ckw, ck_r33_0 ckw, ck_r33_1 ckw, ck_is40 ckw, ck_r40_0 ckw, ck_is102 ckw, ck_r102_0 ckw, ck_r102_1 ckw, ck_r102_2 ckw, ck_r102_3 ckw, ck_r102_4 ckw, ck_r102_5 ckw, ck_is103 ckw, ck_r103_0 ckw, ck_r103_1 ckw, ck_is111 ckw, ck_r111_0 ckw, ck_r111_1 ckw, ck_r111_2 ckw, ck_r111_3 ckw, ck_r111_4 ckw, ck_is114 ckw, ck_r114_0 ckw, ck_r114_1 ckw, ck_r114_2 ckw, ck_r114_3 ckw, ck_r114_4 ckw, ck_is0 ckw2, ck_r0_0 ckw2, ck_r0_1 ckw2, ck_r0_2 ckw2, ck_r0_3 ckw2, ck_r0_4 ckw2, ck_r0_5 ckw2, ck_r0_6 ckw2, ck_r0_7 ckw2, ck_r0_8 ckw2, ck_r0_9 ckw2, ck_is1 ckw2, ck_r1_0 ckw2, ck_is3 ckw2, ck_r3_0 ckw2, ck_r3_1 ckw2, ck_is20 ckw2, ck_r20_0 ckw2, ck_r20_1 ckw2, ck_r20_2 ckw2, ck_is24 ckw2, ck_r24_1 ckw2, ck_r24_2 ckw2, ck_r24_3 ckw2, ck_r24_4 ckw2, ck_is33 ckw2, ck_r33_0 ckw2, ck_r33_1 ckw2, ck_is40 ckw2, ck_r40_0 ckw2, ck_is102 ckw2, ck_r102_0 ckw2, ck_r102_1 ckw2, ck_r102_2 ckw2, ck_r102_3 ckw2, ck_r102_4 ckw2, ck_r102_5 ckw2, ck_is103 ckw2, ck_r103_0 ckw2, ck_r103_1 ckw2, ck_is111 ckw2, ck_r111_0 ckw2, ck_r111_1 ckw2, ck_r111_2 ckw2, ck_r111_3 ckw2, ck_r111_4 ckw2, ck_is114 ckw2, ck_r114_0 ckw2, ck_r114_1 ckw2, ck_r114_2 ckw2, ck_r114_3 ckw2, ck_r114_4 ckw2, hlt, c1, p1]
    · rw [zs_eq, cpl_pv 8 (by omega)]
      by_cases e : j = i
      · rw [e, if_pos (by omega), sl_pv (by omega)]
        congr 1
        omega
      · rw [if_neg (by omega)]
        exact hrow j (by omega) s hs) (by
    rintro s ⟨h', rfl, Z', th, fa, w, hrow⟩
    refine ⟨h', ?_, Z', cw_cb w, hrow⟩
    unfold mm_F_ringOf_b6
    simp (disch := omega) only [pb_its, pb_l2, pb_ll, nI_add, pb_mul, if_true, if_false, pb_bs, pb_b2n, pb_bz0, pb_bz1, pb_10, pb_01, pb_i31, nI_lt (show 60 < 61 by omega) (by omega : 61 < 2 ^ 31)])
  obtain ⟨h', l1, Z', l2, l3⟩ := key
  exact ⟨h1, h', Z', e1, l1, l2, l3⟩
theorem mb_rings {N : Nat} {h0 h : ss_Hp} {T : List Nat} {a : List Int32} {fo x : Int32} {RS : List (List ru_C)} {US : List (List Int32)} {I : Nat → Option (List Int32 × Int32 × Int32)} {th2 fa2 kp2 : List Int32} {dx2 : Int64} {Z : Nat → List Int32} {k m d : Nat} {w : Int32} (hc : mb_h h0 h T a fo x RS US I fo a th2 fa2 kp2 dx2 Z) (ht : ¬ pv a 0 ≤ nI 0) (hu : fo = -nI 1 ∨ ∃ r, r < RS.length ∧ fo = nI r) (h6 : RS.length ≤ 6) (hR : sa_R a k m d) (hd : d < 10000) (hN : 5000 < N) : ∃ h1 h2 h' Z' th fa kp, mm_M_keeps N (some 118) h = some h1 ∧ ss_lp (mm_M_ring_b25 N (some 118) w) N (nI 0, h1) = some h2 ∧ mm_M_laysBack N (some 118) h2 = some h' ∧ mb_h h0 h' T a fo x RS US I fo a th fa kp dx2 Z' ∧ ∀ j, j < 61 → ∀ s, s < 8 → pv (Z' 0) (8 * j + s) = pv (dN (ro_of fo RS) k m a j) (14 + s) := by
  obtain ⟨g1, f1, m1⟩ := mb_keeps (N := N) hc hR.1.1 (by omega)
  have key := pb_for (body := mm_M_ring_b25 N (some 118) w) 61 (fun i s => ∃ h', s = (nI i, h') ∧ ∃ Z' th fa, mb_h h0 h' T a fo x RS US I fo (dN (ro_of fo RS) k m a i) th fa (sl a 10 20) dx2 Z' ∧ ∀ j, j < i → ∀ s, s < 8 → pv (Z' 0) (8 * j + s) = pv (dN (ro_of fo RS) k m a j) (14 + s)) (fun e => ∃ Z' th fa, mb_h h0 e T a fo x RS US I fo (dN (ro_of fo RS) k m a 61) th fa (sl a 10 20) dx2 Z' ∧ ∀ j, j < 61 → ∀ s, s < 8 → pv (Z' 0) (8 * j + s) = pv (dN (ro_of fo RS) k m a j) (14 + s)) (N := N) (s := (nI 0, g1)) (by omega) ⟨g1, rfl, _, _, _, m1, fun j hj => by omega⟩ (by
    rintro i s hi ⟨h', rfl, Z', th, fa, w', hrow⟩
    left
    have hRi := dN_R (ro := ro_of fo RS) hR i (by omega)
    have inn := pb_for (body := mm_M_ring_b33 N (some 118) w (nI i)) 8 (fun t s => ∃ h', s = (nI t, h') ∧ ∃ Z', mb_h h0 h' T a fo x RS US I fo (dN (ro_of fo RS) k m a i) th fa (sl a 10 20) dx2 Z' ∧ (∀ j, j < i → ∀ s, s < 8 → pv (Z' 0) (8 * j + s) = pv (dN (ro_of fo RS) k m a j) (14 + s)) ∧ ∀ s, s < t → pv (Z' 0) (8 * i + s) = pv (dN (ro_of fo RS) k m a i) (14 + s)) (fun e => ∃ Z', mb_h h0 e T a fo x RS US I fo (dN (ro_of fo RS) k m a i) th fa (sl a 10 20) dx2 Z' ∧ ∀ j, j < i + 1 → ∀ s, s < 8 → pv (Z' 0) (8 * j + s) = pv (dN (ro_of fo RS) k m a j) (14 + s)) (N := N) (s := (nI 0, h')) (by omega) ⟨h', rfl, Z', w', hrow, fun s hs => by omega⟩ (by
      rintro t s ht ⟨h', rfl, Z', q, r1, r2⟩
      left
      have hkq := mb_mk q
      have hlen := (mb_len q).2.1
      obtain ⟨h3, p1, p2⟩ := mb_y0 (i := 8 * i + t) (y := pv (dN (ro_of fo RS) k m a i) (14 + t)) q (by omega)
      have hlt : ¬ nI 8 ≤ nI t := nI_ge ht (by omega)
      refine ⟨_, ?_, h3, rfl, _, p2, fun j hj s hs => ?_, fun s hs => ?_⟩
      · unfold mm_M_ring_b33
        simp (disch := omega) only [pb_its, pb_l2, pb_ll, nI_add, pb_mul, if_true, if_false, pb_bs, pb_b2n, pb_bz0, pb_bz1, pb_10, pb_01, pb_i31, mk_is hkq, mk_g0 hkq, mk_g1 hkq, mk_g2 hkq, mk_g3 hkq, mk_g4 hkq, mk_g5 hkq, mk_g6 hkq, mk_g7 hkq, mk_g8 hkq, mk_g9 hkq, mk_g10 hkq, mk_g11 hkq, mk_g12 hkq, mk_g13 hkq, mk_g14 hkq, mk_g15 hkq, mk_g16 hkq, mk_g17 hkq, mk_g18 hkq, mk_g19 hkq, mk_g20 hkq, mk_g21 hkq, mk_g22 hkq, hlt, mb_said q hRi.1.1 (show 14 + t < 124 by omega), p1]
      · rw [zs_eq, pv_ne (by omega)]
        exact r1 j hj s hs
      · rw [zs_eq, pv_set (by omega)]
        by_cases e : s = t
        · rw [e, if_pos rfl]
        · rw [if_neg (by omega)]
          exact r2 s (by omega)) (by
      rintro s ⟨h', rfl, Z', q, r1, r2⟩
      refine ⟨h', ?_, Z', q, fun j hj s hs => ?_⟩
      · unfold mm_M_ring_b33
        simp (disch := omega) only [pb_its, pb_l2, pb_ll, nI_add, pb_mul, if_true, if_false, pb_bs, pb_b2n, pb_bz0, pb_bz1, pb_10, pb_01, pb_i31, nI_le (Nat.le_refl 8) (by omega : 8 < 2 ^ 31)]
      · by_cases e : j = i
        · rw [e]; exact r2 s hs
        · exact r1 j (by omega) s hs)
    obtain ⟨h3, i1, Z3, i2, i3⟩ := inn
    obtain ⟨h4, p1, p2⟩ := mb_pass (N := N) i2 hRi hu h6 (by omega)
    have hlt : ¬ nI 60 < nI i := nI_nlt (by omega) (by omega)
    refine ⟨_, ?_, h4, rfl, _, _, _, p2, i3⟩
    unfold mm_M_ring_b25
    simp (disch := omega) only [pb_its, pb_l2, pb_ll, nI_add, pb_mul, if_true, if_false, pb_bs, pb_b2n, pb_bz0, pb_bz1, pb_10, pb_01, pb_i31, hlt, i1, p1]) (by
    rintro s ⟨h', rfl, q⟩
    refine ⟨h', ?_, q⟩
    unfold mm_M_ring_b25
    simp (disch := omega) only [pb_its, pb_l2, pb_ll, nI_add, pb_mul, if_true, if_false, pb_bs, pb_b2n, pb_bz0, pb_bz1, pb_10, pb_01, pb_i31, nI_lt (show 60 < 61 by omega) (by omega : 61 < 2 ^ 31)])
  obtain ⟨g2, f2, Z', th', fa', m2, hrow⟩ := key
  have hRn := dN_R (ro := ro_of fo RS) hR 61 (by omega)
  obtain ⟨g3, f3, m3⟩ := mb_lays (N := N) m2 hRn.1.1 (by omega)
  rw [sa_back hR.1.1 hRn.1.1 (fun j hj => dN_pv hR (by omega) 61 (by omega))] at m3
  exact ⟨g1, g2, g3, Z', _, _, _, f1, f2, f3, m3, hrow⟩
theorem jx_ring {N : Nat} {h h2 : ss_Hp} {w : Int32} {T : List Nat} {a : List Int32} {fo x : Int32} {RS : List (List ru_C)} {US : List (List Int32)} {I : Nat → Option (List Int32 × Int32 × Int32)} (hc : cl_h h T a fo x RS US I) (hm : mo_h h2 T a fo x RS US I) (ha : as_ok T a fo x RS US I) (hN : 5000 < N) : jo (mm_S_ring N (some 0) w h) (mm_M_ring N (some 118) w h2) h h2 := by
  obtain ⟨Z, hb⟩ := cb_of hc
  obtain ⟨v, ⟨⟨bV, bI, bT, bF, bD, bS, bH⟩, ⟨bR0, bR1, bR2, bR3, bR4⟩, ⟨bFo, bX, bNo⟩, ⟨bG0, bG1, bG2, bG3⟩, bOwn, bStr, bBes, bSn, bWl, bNd, bCl⟩⟩ := cb_r hb
  have hk := cb_ck hb
  obtain ⟨th, fa, kp, dx, Y, hm1⟩ := mb_of hm
  have hk2 := mb_mk hm1
  have ha0 := ha
  obtain ⟨⟨Ht1, Ht2⟩, ⟨k, m, d, Hsd, Hul, Hu⟩, HRS, Hfo, Hx, HI⟩ := ha
  have Hok := Hsd.1
  obtain ⟨Hl, ⟨Hk, H2⟩, ⟨Hm, H3⟩, ⟨Hd, H10⟩, Hwl, Hbe, How⟩ := Hok
  by_cases ht : pv a 0 ≤ nI 0
  · have t0 : sa_told a = nI 0 := if_pos ht
    refine jo_no hc hm ha0 (r := -nI 1) ?_ ?_
    · unfold mm_S_ring mm_S_ring_j42 mm_S_ring_j43
      simp (disch := omega) only [pb_its, pb_l2, pb_ll, nI_add, pb_mul, if_true, if_false, pb_bs, pb_b2n, pb_bz0, pb_bz1, pb_10, pb_01, pb_i31, ck_is0 hk, ck_r0_0 hk, ck_r0_1 hk, ck_r0_2 hk, ck_r0_3 hk, ck_r0_4 hk, ck_r0_5 hk, ck_r0_6 hk, ck_r0_7 hk, ck_r0_8 hk, ck_r0_9 hk, ck_is1 hk, ck_r1_0 hk, ck_is3 hk, ck_r3_0 hk, ck_r3_1 hk, ck_is20 hk, ck_r20_0 hk, ck_r20_1 hk, ck_r20_2 hk, ck_is24 hk, ck_r24_1 hk, ck_r24_2 hk, ck_r24_3 hk, ck_r24_4 hk, ck_is33 hk, ck_r33_0 hk, ck_r33_1 hk, ck_is40 hk, ck_r40_0 hk, ck_is102 hk, ck_r102_0 hk, ck_r102_1 hk, ck_r102_2 hk, ck_r102_3 hk, ck_r102_4 hk, ck_r102_5 hk, ck_is103 hk, ck_r103_0 hk, ck_r103_1 hk, ck_is111 hk, ck_r111_0 hk, ck_r111_1 hk, ck_r111_2 hk, ck_r111_3 hk, ck_r111_4 hk, ck_is114 hk, ck_r114_0 hk, ck_r114_1 hk, ck_r114_2 hk, ck_r114_3 hk, ck_r114_4 hk, bV, bI, bT, bF, bD, bS, bH, bR0, bR1, bR2, bR3, bR4, bFo, bX, bNo, bG0, bG1, bG2, bG3, t0]
    · unfold mm_M_ring mm_M_ring_j17
      simp (disch := omega) only [pb_its, pb_l2, pb_ll, nI_add, pb_mul, if_true, if_false, pb_bs, pb_b2n, pb_bz0, pb_bz1, pb_10, pb_01, pb_i31, mk_is hk2, mk_g0 hk2, mk_g1 hk2, mk_g2 hk2, mk_g3 hk2, mk_g4 hk2, mk_g5 hk2, mk_g6 hk2, mk_g7 hk2, mk_g8 hk2, mk_g9 hk2, mk_g10 hk2, mk_g11 hk2, mk_g12 hk2, mk_g13 hk2, mk_g14 hk2, mk_g15 hk2, mk_g16 hk2, mk_g17 hk2, mk_g18 hk2, mk_g19 hk2, mk_g20 hk2, mk_g21 hk2, mk_g22 hk2, mb_isValley hm1 Hl, t0]
  have t1 : sa_told a = nI 1 := if_neg ht
  have hR := sd_told Hsd ht
  have Hd9 : d ≤ 999 := Hsd.2.2.2.2.1
  by_cases cy : ¬ sp_in w 0 1
  · refine jo_no hc hm ha0 (r := -nI 1) ?_ ?_
    · unfold mm_S_ring mm_S_ring_j42 mm_S_ring_j43
      simp (disch := omega) only [pb_its, pb_l2, pb_ll, nI_add, pb_mul, if_true, if_false, pb_bs, pb_b2n, pb_bz0, pb_bz1, pb_10, pb_01, pb_i31, ck_is0 hk, ck_r0_0 hk, ck_r0_1 hk, ck_r0_2 hk, ck_r0_3 hk, ck_r0_4 hk, ck_r0_5 hk, ck_r0_6 hk, ck_r0_7 hk, ck_r0_8 hk, ck_r0_9 hk, ck_is1 hk, ck_r1_0 hk, ck_is3 hk, ck_r3_0 hk, ck_r3_1 hk, ck_is20 hk, ck_r20_0 hk, ck_r20_1 hk, ck_r20_2 hk, ck_is24 hk, ck_r24_1 hk, ck_r24_2 hk, ck_r24_3 hk, ck_r24_4 hk, ck_is33 hk, ck_r33_0 hk, ck_r33_1 hk, ck_is40 hk, ck_r40_0 hk, ck_is102 hk, ck_r102_0 hk, ck_r102_1 hk, ck_r102_2 hk, ck_r102_3 hk, ck_r102_4 hk, ck_r102_5 hk, ck_is103 hk, ck_r103_0 hk, ck_r103_1 hk, ck_is111 hk, ck_r111_0 hk, ck_r111_1 hk, ck_r111_2 hk, ck_r111_3 hk, ck_r111_4 hk, ck_is114 hk, ck_r114_0 hk, ck_r114_1 hk, ck_r114_2 hk, ck_r114_3 hk, ck_r114_4 hk, bV, bI, bT, bF, bD, bS, bH, bR0, bR1, bR2, bR3, bR4, bFo, bX, bNo, bG0, bG1, bG2, bG3, t1, pq_withinC, pb_cf cy]
    · unfold mm_M_ring mm_M_ring_j17
      simp (disch := omega) only [pb_its, pb_l2, pb_ll, nI_add, pb_mul, if_true, if_false, pb_bs, pb_b2n, pb_bz0, pb_bz1, pb_10, pb_01, pb_i31, mk_is hk2, mk_g0 hk2, mk_g1 hk2, mk_g2 hk2, mk_g3 hk2, mk_g4 hk2, mk_g5 hk2, mk_g6 hk2, mk_g7 hk2, mk_g8 hk2, mk_g9 hk2, mk_g10 hk2, mk_g11 hk2, mk_g12 hk2, mk_g13 hk2, mk_g14 hk2, mk_g15 hk2, mk_g16 hk2, mk_g17 hk2, mk_g18 hk2, mk_g19 hk2, mk_g20 hk2, mk_g21 hk2, mk_g22 hk2, mb_isValley hm1 Hl, t1, po_inC, pb_cf cy]
  replace cy := Classical.not_not.mp cy
  have hw : w = nI 0 ∨ w = nI 1 := by
    by_cases c0 : w = nI 0
    · exact Or.inl c0
    · by_cases c1 : w = nI 1
      · exact Or.inr c1
      · exact absurd cy (sp_01 c0 c1)
  obtain ⟨g1, g2, g3, Y', th', fa', kp', f1, f2, f3, m3, hrow2⟩ := mb_rings (N := N) (w := w) hm1 ht Hfo HRS hR (by omega) hN
  have hkm := mb_mk m3
  have S2 := mb_same (N := N) m3 Hl Hk H2 hrow2 (by omega)
  have mS := mb_said m3 Hl (show 10 < 124 by omega)
  rcases hw with rfl | rfl
  · obtain ⟨h1, h', Z', e1, e2, c2, hrow⟩ := cb_rings (N := N) (w := nI 0) hb ht Hfo HRS hR (by omega) hN
    obtain ⟨v2, ⟨⟨bVx, bIx, bTx, bFx, bDx, bSx, bHx⟩, ⟨bR0x, bR1x, bR2x, bR3x, bR4x⟩, ⟨bFox, bXx, bNox⟩, ⟨bG0x, bG1x, bG2x, bG3x⟩, bOwnx, bStrx, bBesx, bSnx, bWlx, bNdx, bClx⟩⟩ := cb_r c2
    have hk4 := cb_ck c2
    have S1 := cb_same (N := N) c2 Hk H2 hrow (by omega)
    rcases rw_first (rwQ (ro_of fo RS) k m a) with hno | ⟨i, j, q1, q2, q3, q4, q5, q6⟩
    · have l1 := rc_out0 (w := nI 0) S1 hno (by omega)
      have l2 := rm_out0 (w := nI 0) S2 hno (by omega)
      refine jo_ask ha0 c2 m3 (r := -nI 2) ?_ ?_
      · unfold mm_S_ring mm_S_ring_j36 mm_S_ring_j43 mm_F_ringOf
        simp (disch := omega) only [pb_its, pb_l2, pb_ll, nI_add, pb_mul, if_true, if_false, pb_bs, pb_b2n, pb_bz0, pb_bz1, pb_10, pb_01, pb_i31, ck_is0 hk, ck_r0_0 hk, ck_r0_1 hk, ck_r0_2 hk, ck_r0_3 hk, ck_r0_4 hk, ck_r0_5 hk, ck_r0_6 hk, ck_r0_7 hk, ck_r0_8 hk, ck_r0_9 hk, ck_is1 hk, ck_r1_0 hk, ck_is3 hk, ck_r3_0 hk, ck_r3_1 hk, ck_is20 hk, ck_r20_0 hk, ck_r20_1 hk, ck_r20_2 hk, ck_is24 hk, ck_r24_1 hk, ck_r24_2 hk, ck_r24_3 hk, ck_r24_4 hk, ck_is33 hk, ck_r33_0 hk, ck_r33_1 hk, ck_is40 hk, ck_r40_0 hk, ck_is102 hk, ck_r102_0 hk, ck_r102_1 hk, ck_r102_2 hk, ck_r102_3 hk, ck_r102_4 hk, ck_r102_5 hk, ck_is103 hk, ck_r103_0 hk, ck_r103_1 hk, ck_is111 hk, ck_r111_0 hk, ck_r111_1 hk, ck_r111_2 hk, ck_r111_3 hk, ck_r111_4 hk, ck_is114 hk, ck_r114_0 hk, ck_r114_1 hk, ck_r114_2 hk, ck_r114_3 hk, ck_r114_4 hk, bV, bI, bT, bF, bD, bS, bH, bR0, bR1, bR2, bR3, bR4, bFo, bX, bNo, bG0, bG1, bG2, bG3, t1, pq_withinC, pb_ct cy, e1, e2, l1]
      · unfold mm_M_ring
        simp (disch := omega) only [pb_its, pb_l2, pb_ll, nI_add, pb_mul, if_true, if_false, pb_bs, pb_b2n, pb_bz0, pb_bz1, pb_10, pb_01, pb_i31, mk_is hk2, mk_g0 hk2, mk_g1 hk2, mk_g2 hk2, mk_g3 hk2, mk_g4 hk2, mk_g5 hk2, mk_g6 hk2, mk_g7 hk2, mk_g8 hk2, mk_g9 hk2, mk_g10 hk2, mk_g11 hk2, mk_g12 hk2, mk_g13 hk2, mk_g14 hk2, mk_g15 hk2, mk_g16 hk2, mk_g17 hk2, mk_g18 hk2, mk_g19 hk2, mk_g20 hk2, mk_g21 hk2, mk_g22 hk2, mb_isValley hm1 Hl, t1, po_inC, pb_ct cy, f1, f2, f3, l2]
    · have l1 := rc_out1 (w := nI 0) S1 q1 q2 q3 q4 q5 q6 (by omega)
      have l2 := rm_out1 (w := nI 0) S2 q1 q2 q3 q4 q5 q6 (by omega)
      refine jo_ask ha0 c2 m3 (r := pv a 10 + nI i) ?_ ?_
      · unfold mm_S_ring mm_S_ring_j36 mm_S_ring_j43 mm_F_ringOf mm_F_ringOf_j99
        simp (disch := omega) only [pb_its, pb_l2, pb_ll, nI_add, pb_mul, if_true, if_false, pb_bs, pb_b2n, pb_bz0, pb_bz1, pb_10, pb_01, pb_i31, ck_is0 hk, ck_r0_0 hk, ck_r0_1 hk, ck_r0_2 hk, ck_r0_3 hk, ck_r0_4 hk, ck_r0_5 hk, ck_r0_6 hk, ck_r0_7 hk, ck_r0_8 hk, ck_r0_9 hk, ck_is1 hk, ck_r1_0 hk, ck_is3 hk, ck_r3_0 hk, ck_r3_1 hk, ck_is20 hk, ck_r20_0 hk, ck_r20_1 hk, ck_r20_2 hk, ck_is24 hk, ck_r24_1 hk, ck_r24_2 hk, ck_r24_3 hk, ck_r24_4 hk, ck_is33 hk, ck_r33_0 hk, ck_r33_1 hk, ck_is40 hk, ck_r40_0 hk, ck_is102 hk, ck_r102_0 hk, ck_r102_1 hk, ck_r102_2 hk, ck_r102_3 hk, ck_r102_4 hk, ck_r102_5 hk, ck_is103 hk, ck_r103_0 hk, ck_r103_1 hk, ck_is111 hk, ck_r111_0 hk, ck_r111_1 hk, ck_r111_2 hk, ck_r111_3 hk, ck_r111_4 hk, ck_is114 hk, ck_r114_0 hk, ck_r114_1 hk, ck_r114_2 hk, ck_r114_3 hk, ck_r114_4 hk, bV, bI, bT, bF, bD, bS, bH, bR0, bR1, bR2, bR3, bR4, bFo, bX, bNo, bG0, bG1, bG2, bG3, t1, pq_withinC, pb_ct cy, e1, e2, l1, ck_is0 hk4, ck_r0_0 hk4, ck_r0_1 hk4, ck_r0_2 hk4, ck_r0_3 hk4, ck_r0_4 hk4, ck_r0_5 hk4, ck_r0_6 hk4, ck_r0_7 hk4, ck_r0_8 hk4, ck_r0_9 hk4, ck_is1 hk4, ck_r1_0 hk4, ck_is3 hk4, ck_r3_0 hk4, ck_r3_1 hk4, ck_is20 hk4, ck_r20_0 hk4, ck_r20_1 hk4, ck_r20_2 hk4, ck_is24 hk4, ck_r24_1 hk4, ck_r24_2 hk4, ck_r24_3 hk4, ck_r24_4 hk4, ck_is33 hk4, ck_r33_0 hk4, ck_r33_1 hk4, ck_is40 hk4, ck_r40_0 hk4, ck_is102 hk4, ck_r102_0 hk4, ck_r102_1 hk4, ck_r102_2 hk4, ck_r102_3 hk4, ck_r102_4 hk4, ck_r102_5 hk4, ck_is103 hk4, ck_r103_0 hk4, ck_r103_1 hk4, ck_is111 hk4, ck_r111_0 hk4, ck_r111_1 hk4, ck_r111_2 hk4, ck_r111_3 hk4, ck_r111_4 hk4, ck_is114 hk4, ck_r114_0 hk4, ck_r114_1 hk4, ck_r114_2 hk4, ck_r114_3 hk4, ck_r114_4 hk4, bVx, bIx, bTx, bFx, bDx, bSx, bHx, bR0x, bR1x, bR2x, bR3x, bR4x, bFox, bXx, bNox, bG0x, bG1x, bG2x, bG3x]
      · unfold mm_M_ring mm_M_ring_j126
        simp (disch := omega) only [pb_its, pb_l2, pb_ll, nI_add, pb_mul, if_true, if_false, pb_bs, pb_b2n, pb_bz0, pb_bz1, pb_10, pb_01, pb_i31, mk_is hk2, mk_g0 hk2, mk_g1 hk2, mk_g2 hk2, mk_g3 hk2, mk_g4 hk2, mk_g5 hk2, mk_g6 hk2, mk_g7 hk2, mk_g8 hk2, mk_g9 hk2, mk_g10 hk2, mk_g11 hk2, mk_g12 hk2, mk_g13 hk2, mk_g14 hk2, mk_g15 hk2, mk_g16 hk2, mk_g17 hk2, mk_g18 hk2, mk_g19 hk2, mk_g20 hk2, mk_g21 hk2, mk_g22 hk2, mb_isValley hm1 Hl, t1, po_inC, pb_ct cy, f1, f2, f3, l2, mk_is hkm, mk_g0 hkm, mk_g1 hkm, mk_g2 hkm, mk_g3 hkm, mk_g4 hkm, mk_g5 hkm, mk_g6 hkm, mk_g7 hkm, mk_g8 hkm, mk_g9 hkm, mk_g10 hkm, mk_g11 hkm, mk_g12 hkm, mk_g13 hkm, mk_g14 hkm, mk_g15 hkm, mk_g16 hkm, mk_g17 hkm, mk_g18 hkm, mk_g19 hkm, mk_g20 hkm, mk_g21 hkm, mk_g22 hkm, mS]
  · obtain ⟨h1, h', Z', e1, e2, c2, hrow⟩ := cb_rings (N := N) (w := nI 1) hb ht Hfo HRS hR (by omega) hN
    obtain ⟨v2, ⟨⟨bVx, bIx, bTx, bFx, bDx, bSx, bHx⟩, ⟨bR0x, bR1x, bR2x, bR3x, bR4x⟩, ⟨bFox, bXx, bNox⟩, ⟨bG0x, bG1x, bG2x, bG3x⟩, bOwnx, bStrx, bBesx, bSnx, bWlx, bNdx, bClx⟩⟩ := cb_r c2
    have hk4 := cb_ck c2
    have S1 := cb_same (N := N) c2 Hk H2 hrow (by omega)
    rcases rw_first (rwQ (ro_of fo RS) k m a) with hno | ⟨i, j, q1, q2, q3, q4, q5, q6⟩
    · have l1 := rc_out0 (w := nI 1) S1 hno (by omega)
      have l2 := rm_out0 (w := nI 1) S2 hno (by omega)
      refine jo_ask ha0 c2 m3 (r := -nI 2) ?_ ?_
      · unfold mm_S_ring mm_S_ring_j36 mm_S_ring_j43 mm_F_ringOf
        simp (disch := omega) only [pb_its, pb_l2, pb_ll, nI_add, pb_mul, if_true, if_false, pb_bs, pb_b2n, pb_bz0, pb_bz1, pb_10, pb_01, pb_i31, ck_is0 hk, ck_r0_0 hk, ck_r0_1 hk, ck_r0_2 hk, ck_r0_3 hk, ck_r0_4 hk, ck_r0_5 hk, ck_r0_6 hk, ck_r0_7 hk, ck_r0_8 hk, ck_r0_9 hk, ck_is1 hk, ck_r1_0 hk, ck_is3 hk, ck_r3_0 hk, ck_r3_1 hk, ck_is20 hk, ck_r20_0 hk, ck_r20_1 hk, ck_r20_2 hk, ck_is24 hk, ck_r24_1 hk, ck_r24_2 hk, ck_r24_3 hk, ck_r24_4 hk, ck_is33 hk, ck_r33_0 hk, ck_r33_1 hk, ck_is40 hk, ck_r40_0 hk, ck_is102 hk, ck_r102_0 hk, ck_r102_1 hk, ck_r102_2 hk, ck_r102_3 hk, ck_r102_4 hk, ck_r102_5 hk, ck_is103 hk, ck_r103_0 hk, ck_r103_1 hk, ck_is111 hk, ck_r111_0 hk, ck_r111_1 hk, ck_r111_2 hk, ck_r111_3 hk, ck_r111_4 hk, ck_is114 hk, ck_r114_0 hk, ck_r114_1 hk, ck_r114_2 hk, ck_r114_3 hk, ck_r114_4 hk, bV, bI, bT, bF, bD, bS, bH, bR0, bR1, bR2, bR3, bR4, bFo, bX, bNo, bG0, bG1, bG2, bG3, t1, pq_withinC, pb_ct cy, e1, e2, l1]
      · unfold mm_M_ring
        simp (disch := omega) only [pb_its, pb_l2, pb_ll, nI_add, pb_mul, if_true, if_false, pb_bs, pb_b2n, pb_bz0, pb_bz1, pb_10, pb_01, pb_i31, mk_is hk2, mk_g0 hk2, mk_g1 hk2, mk_g2 hk2, mk_g3 hk2, mk_g4 hk2, mk_g5 hk2, mk_g6 hk2, mk_g7 hk2, mk_g8 hk2, mk_g9 hk2, mk_g10 hk2, mk_g11 hk2, mk_g12 hk2, mk_g13 hk2, mk_g14 hk2, mk_g15 hk2, mk_g16 hk2, mk_g17 hk2, mk_g18 hk2, mk_g19 hk2, mk_g20 hk2, mk_g21 hk2, mk_g22 hk2, mb_isValley hm1 Hl, t1, po_inC, pb_ct cy, f1, f2, f3, l2]
    · have l1 := rc_out1 (w := nI 1) S1 q1 q2 q3 q4 q5 q6 (by omega)
      have l2 := rm_out1 (w := nI 1) S2 q1 q2 q3 q4 q5 q6 (by omega)
      refine jo_ask ha0 c2 m3 (r := nI j - nI i) ?_ ?_
      · unfold mm_S_ring mm_S_ring_j36 mm_S_ring_j43 mm_F_ringOf mm_F_ringOf_j99
        simp (disch := omega) only [pb_its, pb_l2, pb_ll, nI_add, pb_mul, if_true, if_false, pb_bs, pb_b2n, pb_bz0, pb_bz1, pb_10, pb_01, pb_i31, ck_is0 hk, ck_r0_0 hk, ck_r0_1 hk, ck_r0_2 hk, ck_r0_3 hk, ck_r0_4 hk, ck_r0_5 hk, ck_r0_6 hk, ck_r0_7 hk, ck_r0_8 hk, ck_r0_9 hk, ck_is1 hk, ck_r1_0 hk, ck_is3 hk, ck_r3_0 hk, ck_r3_1 hk, ck_is20 hk, ck_r20_0 hk, ck_r20_1 hk, ck_r20_2 hk, ck_is24 hk, ck_r24_1 hk, ck_r24_2 hk, ck_r24_3 hk, ck_r24_4 hk, ck_is33 hk, ck_r33_0 hk, ck_r33_1 hk, ck_is40 hk, ck_r40_0 hk, ck_is102 hk, ck_r102_0 hk, ck_r102_1 hk, ck_r102_2 hk, ck_r102_3 hk, ck_r102_4 hk, ck_r102_5 hk, ck_is103 hk, ck_r103_0 hk, ck_r103_1 hk, ck_is111 hk, ck_r111_0 hk, ck_r111_1 hk, ck_r111_2 hk, ck_r111_3 hk, ck_r111_4 hk, ck_is114 hk, ck_r114_0 hk, ck_r114_1 hk, ck_r114_2 hk, ck_r114_3 hk, ck_r114_4 hk, bV, bI, bT, bF, bD, bS, bH, bR0, bR1, bR2, bR3, bR4, bFo, bX, bNo, bG0, bG1, bG2, bG3, t1, pq_withinC, pb_ct cy, e1, e2, l1, ck_is0 hk4, ck_r0_0 hk4, ck_r0_1 hk4, ck_r0_2 hk4, ck_r0_3 hk4, ck_r0_4 hk4, ck_r0_5 hk4, ck_r0_6 hk4, ck_r0_7 hk4, ck_r0_8 hk4, ck_r0_9 hk4, ck_is1 hk4, ck_r1_0 hk4, ck_is3 hk4, ck_r3_0 hk4, ck_r3_1 hk4, ck_is20 hk4, ck_r20_0 hk4, ck_r20_1 hk4, ck_r20_2 hk4, ck_is24 hk4, ck_r24_1 hk4, ck_r24_2 hk4, ck_r24_3 hk4, ck_r24_4 hk4, ck_is33 hk4, ck_r33_0 hk4, ck_r33_1 hk4, ck_is40 hk4, ck_r40_0 hk4, ck_is102 hk4, ck_r102_0 hk4, ck_r102_1 hk4, ck_r102_2 hk4, ck_r102_3 hk4, ck_r102_4 hk4, ck_r102_5 hk4, ck_is103 hk4, ck_r103_0 hk4, ck_r103_1 hk4, ck_is111 hk4, ck_r111_0 hk4, ck_r111_1 hk4, ck_r111_2 hk4, ck_r111_3 hk4, ck_r111_4 hk4, ck_is114 hk4, ck_r114_0 hk4, ck_r114_1 hk4, ck_r114_2 hk4, ck_r114_3 hk4, ck_r114_4 hk4, bVx, bIx, bTx, bFx, bDx, bSx, bHx, bR0x, bR1x, bR2x, bR3x, bR4x, bFox, bXx, bNox, bG0x, bG1x, bG2x, bG3x]
      · unfold mm_M_ring mm_M_ring_j126
        simp (disch := omega) only [pb_its, pb_l2, pb_ll, nI_add, pb_mul, if_true, if_false, pb_bs, pb_b2n, pb_bz0, pb_bz1, pb_10, pb_01, pb_i31, mk_is hk2, mk_g0 hk2, mk_g1 hk2, mk_g2 hk2, mk_g3 hk2, mk_g4 hk2, mk_g5 hk2, mk_g6 hk2, mk_g7 hk2, mk_g8 hk2, mk_g9 hk2, mk_g10 hk2, mk_g11 hk2, mk_g12 hk2, mk_g13 hk2, mk_g14 hk2, mk_g15 hk2, mk_g16 hk2, mk_g17 hk2, mk_g18 hk2, mk_g19 hk2, mk_g20 hk2, mk_g21 hk2, mk_g22 hk2, mb_isValley hm1 Hl, t1, po_inC, pb_ct cy, f1, f2, f3, l2, mk_is hkm, mk_g0 hkm, mk_g1 hkm, mk_g2 hkm, mk_g3 hkm, mk_g4 hkm, mk_g5 hkm, mk_g6 hkm, mk_g7 hkm, mk_g8 hkm, mk_g9 hkm, mk_g10 hkm, mk_g11 hkm, mk_g12 hkm, mk_g13 hkm, mk_g14 hkm, mk_g15 hkm, mk_g16 hkm, mk_g17 hkm, mk_g18 hkm, mk_g19 hkm, mk_g20 hkm, mk_g21 hkm, mk_g22 hkm, mS]
