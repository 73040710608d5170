/-! ===== valley: the model's end ===== -/
def vB (r : List Int32) : List Int32 := (List.range 124).map (fun i => if i < 93 then pv r i else nI 0)
theorem vB_len {r : List Int32} : (vB r).length = 124 := by simp [vB]
theorem vB_pv {r : List Int32} {i : Nat} (h : i < 124) : pv (vB r) i = if i < 93 then pv r i else nI 0 := by
  unfold vB
  unfold pv
  simp [h]
section JY
variable {n : Nat} {f : Nat → ss_Cl} {m0 m1 m2 m3 m4 m5 m6 m7 m8 m9 m10 m11 m12 m13 m14 m15 : Int32} {dx : Int64} {tp : List Int32} {sg : List Int32} {lg : List Int32} {cl : List Int32} {cs : List Int32} {rd : List Int32} {op : List Int32} {sk : List Int64} {wd : List Int64} {sd : List Int32} {th : List Int32} {fa : List Int32} {ws : List Int32} {kp : List Int32} {li : List Int32} {pr : List Int32} {hb : List Int32} {fi : List Int32} {st : List Int32} {im : List Int32} {jf : List Int32} {jx : List Int32} {mk : List Int32} {N : Nat}
variable {r b : List Int32} {z2 z3 z4 z8' z10 z11 : Int32}
theorem M_zero (hl : r.length = 93) (hN : 500 < N) : ss_lp (mm_M_valley_b8 N (some 118)) N (nI 0, (pm_M n f (mL m0 m1 m2 m3 m4 m5 m6 m7 m8 m9 m10 m11 m12 m13 m14 m15) dx tp sg lg cl cs r op sk wd sd th fa ws kp li pr hb fi st im jf jx mk)) = some (pm_M n f (mL m0 m1 m2 m3 m4 m5 m6 m7 m8 m9 m10 m11 m12 m13 m14 m15) dx tp sg lg cl cs r93 op sk wd sd th fa ws kp li pr hb fi st im jf jx mk) := by
  have key := pb_for (body := mm_M_valley_b8 N (some 118)) 93 (fun i s => ∃ r', s = (nI i, (pm_M n f (mL m0 m1 m2 m3 m4 m5 m6 m7 m8 m9 m10 m11 m12 m13 m14 m15) dx tp sg lg cl cs r' op sk wd sd th fa ws kp li pr hb fi st im jf jx mk)) ∧ r'.length = 93 ∧ ∀ j, j < i → pv r' j = nI 0) (fun e => e = (pm_M n f (mL m0 m1 m2 m3 m4 m5 m6 m7 m8 m9 m10 m11 m12 m13 m14 m15) dx tp sg lg cl cs r93 op sk wd sd th fa ws kp li pr hb fi st im jf jx mk)) (N := N) (s := (nI 0, (pm_M n f (mL m0 m1 m2 m3 m4 m5 m6 m7 m8 m9 m10 m11 m12 m13 m14 m15) dx tp sg lg cl cs r op sk wd sd th fa ws kp li pr hb fi st im jf jx mk))) (by omega) ⟨r, rfl, hl, fun j hj => absurd hj (Nat.not_lt_zero j)⟩ (by
    rintro i s hi ⟨r', rfl, h1, h2⟩
    left
    have hlt : (nI 93 ≤ nI i) = False := eq_false (nI_ge hi (by omega))
    refine ⟨(nI (i + 1), (pm_M n f (mL m0 m1 m2 m3 m4 m5 m6 m7 m8 m9 m10 m11 m12 m13 m14 m15) dx tp sg lg cl cs (r'.set i (nI 0)) op sk wd sd th fa ws kp li pr hb fi st im jf jx mk)), ?_, r'.set i (nI 0), rfl, by rw [List.length_set]; exact h1, fun j hj => ?_⟩
    · unfold mm_M_valley_b8
      simp (disch := ((try simp only [List.length_set, sl_len]); omega)) only [pb_l2, pb_ll, nI_add, pb_mul, if_true, if_false, pb_bs, pb_b2n, pb_bz0, pb_bz1, pb_10, pb_01, pn_is, pn_g0, pn_g1, pn_g2, pn_g3, pn_g4, pn_g5, pn_g6, pn_g9, mL_g0, mL_p0, mL_g1, mL_p1, mL_g2, mL_p2, mL_g3, mL_p3, mL_g4, mL_p4, mL_g5, mL_p5, mL_g6, mL_p6, mL_g7, mL_p7, mL_g8, mL_p8, mL_g9, mL_p9, mL_g10, mL_p10, mL_g11, mL_p11, mL_g12, mL_p12, mL_g13, mL_p13, mL_g14, mL_p14, mL_g15, mL_p15, pn_u5, hlt]
    · rw [pv_set (by omega)]
      by_cases e : j = i
      · rw [if_pos e]
      · rw [if_neg e]
        exact h2 j (by omega)) (by
    rintro s ⟨r', rfl, h1, h2⟩
    have er : r' = r93 := pv_ext (by rw [h1]; rfl) (fun i hi => by rw [h2 i (by omega), r93_pv])
    refine ⟨(pm_M n f (mL m0 m1 m2 m3 m4 m5 m6 m7 m8 m9 m10 m11 m12 m13 m14 m15) dx tp sg lg cl cs r' op sk wd sd th fa ws kp li pr hb fi st im jf jx mk), ?_, by rw [er]⟩
    have hlt : (nI 93 ≤ nI 93) = True := eq_true (nI_le (Nat.le_refl 93) (by omega))
    unfold mm_M_valley_b8
    simp only [pb_l2, pb_ll, nI_add, pb_mul, if_true, if_false, pb_bs, pb_b2n, pb_bz0, pb_bz1, pb_10, pb_01, pn_is, pn_g0, pn_g1, pn_g2, pn_g3, pn_g4, pn_g5, pn_g6, pn_g9, mL_g0, mL_p0, mL_g1, mL_p1, mL_g2, mL_p2, mL_g3, mL_p3, mL_g4, mL_p4, mL_g5, mL_p5, mL_g6, mL_p6, mL_g7, mL_p7, mL_g8, mL_p8, mL_g9, mL_p9, mL_g10, mL_p10, mL_g11, mL_p11, mL_g12, mL_p12, mL_g13, mL_p13, mL_g14, mL_p14, mL_g15, mL_p15, hlt])
  obtain ⟨e, h1, rfl⟩ := key
  exact h1
theorem M_said (hr : r.length = 93) (hl : b.length = 124) (hN : 500 < N) : ss_lp (mm_M_valley_b44 N (some 118)) N (nI 0, (pm_M n f (mL m0 m1 m2 m3 m4 m5 m6 m7 m8 m9 m10 m11 m12 m13 m14 m15) dx tp sg lg cl cs r op sk wd b th fa ws kp li pr hb fi st im jf jx mk)) = some (pm_M n f (mL m0 m1 m2 m3 m4 m5 m6 m7 m8 m9 m10 m11 m12 m13 m14 m15) dx tp sg lg cl cs r op sk wd (vB r) th fa ws kp li pr hb fi st im jf jx mk) := by
  have key := pb_for (body := mm_M_valley_b44 N (some 118)) 124 (fun i s => ∃ b', s = (nI i, (pm_M n f (mL m0 m1 m2 m3 m4 m5 m6 m7 m8 m9 m10 m11 m12 m13 m14 m15) dx tp sg lg cl cs r op sk wd b' th fa ws kp li pr hb fi st im jf jx mk)) ∧ b'.length = 124 ∧ ∀ j, j < i → pv b' j = if j < 93 then pv r j else nI 0) (fun e => e = (pm_M n f (mL m0 m1 m2 m3 m4 m5 m6 m7 m8 m9 m10 m11 m12 m13 m14 m15) dx tp sg lg cl cs r op sk wd (vB r) th fa ws kp li pr hb fi st im jf jx mk)) (N := N) (s := (nI 0, (pm_M n f (mL m0 m1 m2 m3 m4 m5 m6 m7 m8 m9 m10 m11 m12 m13 m14 m15) dx tp sg lg cl cs r op sk wd b th fa ws kp li pr hb fi st im jf jx mk))) (by omega) ⟨b, rfl, hl, fun j hj => absurd hj (Nat.not_lt_zero j)⟩ (by
    rintro i s hi ⟨b', rfl, h1, h2⟩
    left
    have hlt : (nI 124 ≤ nI i) = False := eq_false (nI_ge hi (by omega))
    refine ⟨(nI (i + 1), (pm_M n f (mL m0 m1 m2 m3 m4 m5 m6 m7 m8 m9 m10 m11 m12 m13 m14 m15) dx tp sg lg cl cs r op sk wd (b'.set i (if i < 93 then pv r i else nI 0)) th fa ws kp li pr hb fi st im jf jx mk)), ?_, b'.set i (if i < 93 then pv r i else nI 0), rfl, by rw [List.length_set]; exact h1, fun j hj => ?_⟩
    · unfold mm_M_valley_b44 mm_M_valley_j71
      by_cases c : i < 93
      · have c93 : (nI 93 ≤ nI i) = False := eq_false (nI_ge c (by omega))
        rw [if_pos c]
        simp (disch := ((try simp only [List.length_set, sl_len]); omega)) only [pb_l2, pb_ll, nI_add, pb_mul, if_true, if_false, pb_bs, pb_b2n, pb_bz0, pb_bz1, pb_10, pb_01, pn_is, pn_g0, pn_g1, pn_g2, pn_g3, pn_g4, pn_g5, pn_g6, pn_g9, mL_g0, mL_p0, mL_g1, mL_p1, mL_g2, mL_p2, mL_g3, mL_p3, mL_g4, mL_p4, mL_g5, mL_p5, mL_g6, mL_p6, mL_g7, mL_p7, mL_g8, mL_p8, mL_g9, mL_p9, mL_g10, mL_p10, mL_g11, mL_p11, mL_g12, mL_p12, mL_g13, mL_p13, mL_g14, mL_p14, mL_g15, mL_p15, pn_a5, pn_u9, hlt, c93]
      · have c93 : (nI 93 ≤ nI i) = True := eq_true (nI_le (by omega) (by omega))
        rw [if_neg c]
        simp (disch := ((try simp only [List.length_set, sl_len]); omega)) only [pb_l2, pb_ll, nI_add, pb_mul, if_true, if_false, pb_bs, pb_b2n, pb_bz0, pb_bz1, pb_10, pb_01, pn_is, pn_g0, pn_g1, pn_g2, pn_g3, pn_g4, pn_g5, pn_g6, pn_g9, mL_g0, mL_p0, mL_g1, mL_p1, mL_g2, mL_p2, mL_g3, mL_p3, mL_g4, mL_p4, mL_g5, mL_p5, mL_g6, mL_p6, mL_g7, mL_p7, mL_g8, mL_p8, mL_g9, mL_p9, mL_g10, mL_p10, mL_g11, mL_p11, mL_g12, mL_p12, mL_g13, mL_p13, mL_g14, mL_p14, mL_g15, mL_p15, pn_u9, hlt, c93]
    · rw [pv_set (by omega)]
      by_cases e : j = i
      · rw [if_pos e, e]
      · rw [if_neg e]
        exact h2 j (by omega)) (by
    rintro s ⟨b', rfl, h1, h2⟩
    have er : b' = vB r := pv_ext (by rw [h1, vB_len]) (fun i hi => by rw [h2 i (by omega), vB_pv (by omega)])
    refine ⟨(pm_M n f (mL m0 m1 m2 m3 m4 m5 m6 m7 m8 m9 m10 m11 m12 m13 m14 m15) dx tp sg lg cl cs r op sk wd b' th fa ws kp li pr hb fi st im jf jx mk), ?_, by rw [er]⟩
    have hlt : (nI 124 ≤ nI 124) = True := eq_true (nI_le (Nat.le_refl 124) (by omega))
    unfold mm_M_valley_b44
    simp only [pb_l2, pb_ll, nI_add, pb_mul, if_true, if_false, pb_bs, pb_b2n, pb_bz0, pb_bz1, pb_10, pb_01, pn_is, pn_g0, pn_g1, pn_g2, pn_g3, pn_g4, pn_g5, pn_g6, pn_g9, mL_g0, mL_p0, mL_g1, mL_p1, mL_g2, mL_p2, mL_g3, mL_p3, mL_g4, mL_p4, mL_g5, mL_p5, mL_g6, mL_p6, mL_g7, mL_p7, mL_g8, mL_p8, mL_g9, mL_p9, mL_g10, mL_p10, mL_g11, mL_p11, mL_g12, mL_p12, mL_g13, mL_p13, mL_g14, mL_p14, mL_g15, mL_p15, hlt])
  obtain ⟨e, h1, rfl⟩ := key
  exact h1
theorem M_beg (hl : b.length = 124) (hN : 500 < N) : mm_M_begins N (some 118) (pm_M n f (mL m0 m1 m2 m3 m4 m5 m6 m7 m8 m9 m10 m11 m12 m13 m14 m15) dx tp sg lg cl cs rd op sk wd b th fa ws kp li pr hb fi st im jf jx mk) = some (pm_M n f (mL m0 m1 m2 m3 m4 m5 m6 m7 m8 m9 m10 m11 m12 m13 m14 m15) dx tp sg lg cl cs rd op sk wd (sa_first b) th fa ws kp li pr hb fi st im jf jx mk) := by
  have key := pb_for (body := mm_M_begins_b3 N (some 118)) 4 (fun i s => ∃ b', s = (nI (10 + i), (pm_M n f (mL m0 m1 m2 m3 m4 m5 m6 m7 m8 m9 m10 m11 m12 m13 m14 m15) dx tp sg lg cl cs rd op sk wd b' th fa ws kp li pr hb fi st im jf jx mk)) ∧ b'.length = 124 ∧ (∀ j, j < 10 ∨ 14 ≤ j → pv b' j = pv b j) ∧ ∀ j, j < i → pv b' (10 + j) = nI 0) (fun e => ∃ b', e = (pm_M n f (mL m0 m1 m2 m3 m4 m5 m6 m7 m8 m9 m10 m11 m12 m13 m14 m15) dx tp sg lg cl cs rd op sk wd b' th fa ws kp li pr hb fi st im jf jx mk) ∧ b'.length = 124 ∧ (∀ j, j < 10 ∨ 14 ≤ j → pv b' j = pv b j) ∧ ∀ j, j < 4 → pv b' (10 + j) = nI 0) (N := N) (s := (nI 10, (pm_M n f (mL m0 m1 m2 m3 m4 m5 m6 m7 m8 m9 m10 m11 m12 m13 m14 m15) dx tp sg lg cl cs rd op sk wd b th fa ws kp li pr hb fi st im jf jx mk))) (by omega) ⟨b, rfl, hl, fun _ _ => rfl, fun j hj => absurd hj (Nat.not_lt_zero j)⟩ (by
    rintro i s hi ⟨b', rfl, h1, h2, h3⟩
    left
    have hlt : (nI 14 ≤ nI (10 + i)) = False := eq_false (nI_ge (by omega) (by omega))
    refine ⟨(nI (10 + (i + 1)), (pm_M n f (mL m0 m1 m2 m3 m4 m5 m6 m7 m8 m9 m10 m11 m12 m13 m14 m15) dx tp sg lg cl cs rd op sk wd (b'.set (10 + i) (nI 0)) th fa ws kp li pr hb fi st im jf jx mk)), ?_, b'.set (10 + i) (nI 0), rfl, by rw [List.length_set]; exact h1, fun j hj => by rw [pv_ne (by omega)]; exact h2 j hj, fun j hj => ?_⟩
    · unfold mm_M_begins_b3
      simp (disch := ((try simp only [List.length_set, sl_len]); omega)) only [pb_l2, pb_ll, nI_add, pb_mul, if_true, if_false, pb_bs, pb_b2n, pb_bz0, pb_bz1, pb_10, pb_01, pn_is, pn_g0, pn_g1, pn_g2, pn_g3, pn_g4, pn_g5, pn_g6, pn_g9, mL_g0, mL_p0, mL_g1, mL_p1, mL_g2, mL_p2, mL_g3, mL_p3, mL_g4, mL_p4, mL_g5, mL_p5, mL_g6, mL_p6, mL_g7, mL_p7, mL_g8, mL_p8, mL_g9, mL_p9, mL_g10, mL_p10, mL_g11, mL_p11, mL_g12, mL_p12, mL_g13, mL_p13, mL_g14, mL_p14, mL_g15, mL_p15, pn_u9, hlt]
      rfl
    · rw [pv_set (by omega)]
      by_cases e : j = i
      · rw [if_pos (by omega)]
      · rw [if_neg (by omega)]
        exact h3 j (by omega)) (by
    rintro s ⟨b', rfl, h1, h2, h3⟩
    refine ⟨(pm_M n f (mL m0 m1 m2 m3 m4 m5 m6 m7 m8 m9 m10 m11 m12 m13 m14 m15) dx tp sg lg cl cs rd op sk wd b' th fa ws kp li pr hb fi st im jf jx mk), ?_, b', rfl, h1, h2, h3⟩
    have hlt : (nI 14 ≤ nI (10 + 4)) = True := eq_true (nI_le (by omega) (by omega))
    unfold mm_M_begins_b3
    simp only [pb_l2, pb_ll, nI_add, pb_mul, if_true, if_false, pb_bs, pb_b2n, pb_bz0, pb_bz1, pb_10, pb_01, pn_is, pn_g0, pn_g1, pn_g2, pn_g3, pn_g4, pn_g5, pn_g6, pn_g9, mL_g0, mL_p0, mL_g1, mL_p1, mL_g2, mL_p2, mL_g3, mL_p3, mL_g4, mL_p4, mL_g5, mL_p5, mL_g6, mL_p6, mL_g7, mL_p7, mL_g8, mL_p8, mL_g9, mL_p9, mL_g10, mL_p10, mL_g11, mL_p11, mL_g12, mL_p12, mL_g13, mL_p13, mL_g14, mL_p14, mL_g15, mL_p15, hlt])
  obtain ⟨e, e1, b1, rfl, l1, o1, o2⟩ := key
  have key2 := pb_for (body := mm_M_begins_b24 N (some 118)) 8 (fun i s => ∃ b', s = (nI i, (pm_M n f (mL m0 m1 m2 m3 m4 m5 m6 m7 m8 m9 m10 m11 m12 m13 m14 m15) dx tp sg lg cl cs rd op sk wd b' th fa ws kp li pr hb fi st im jf jx mk)) ∧ b'.length = 124 ∧ (∀ j, j < 14 ∨ 30 ≤ j → pv b' j = pv b1 j) ∧ ∀ j, j < i → pv b' (14 + j) = pv b1 (46 + j) ∧ pv b' (22 + j) = pv b1 (54 + j)) (fun e => ∃ b', e = (pm_M n f (mL m0 m1 m2 m3 m4 m5 m6 m7 m8 m9 m10 m11 m12 m13 m14 m15) dx tp sg lg cl cs rd op sk wd b' th fa ws kp li pr hb fi st im jf jx mk) ∧ b'.length = 124 ∧ (∀ j, j < 14 ∨ 30 ≤ j → pv b' j = pv b1 j) ∧ ∀ j, j < 8 → pv b' (14 + j) = pv b1 (46 + j) ∧ pv b' (22 + j) = pv b1 (54 + j)) (N := N) (s := (nI 0, (pm_M n f (mL m0 m1 m2 m3 m4 m5 m6 m7 m8 m9 m10 m11 m12 m13 m14 m15) dx tp sg lg cl cs rd op sk wd b1 th fa ws kp li pr hb fi st im jf jx mk))) (by omega) ⟨b1, rfl, l1, fun _ _ => rfl, fun j hj => absurd hj (Nat.not_lt_zero j)⟩ (by
    rintro i s hi ⟨b', rfl, h1, h2, h3⟩
    left
    have hlt : (nI 8 ≤ nI i) = False := eq_false (nI_ge hi (by omega))
    have r46 := h2 (46 + i) (by omega)
    have r54 : pv (b'.set (14 + i) (pv b1 (46 + i))) (54 + i) = pv b1 (54 + i) := (pv_ne (by omega)).trans (h2 (54 + i) (by omega))
    refine ⟨(nI (i + 1), (pm_M n f (mL m0 m1 m2 m3 m4 m5 m6 m7 m8 m9 m10 m11 m12 m13 m14 m15) dx tp sg lg cl cs rd op sk wd ((b'.set (14 + i) (pv b1 (46 + i))).set (22 + i) (pv b1 (54 + i))) th fa ws kp li pr hb fi st im jf jx mk)), ?_, (b'.set (14 + i) (pv b1 (46 + i))).set (22 + i) (pv b1 (54 + i)), rfl, by rw [List.length_set, List.length_set]; exact h1, fun j hj => by rw [pv_ne (by omega), pv_ne (by omega)]; exact h2 j hj, fun j hj => ?_⟩
    · unfold mm_M_begins_b24
      simp (disch := ((try simp only [List.length_set, sl_len]); omega)) only [pb_l2, pb_ll, nI_add, pb_mul, if_true, if_false, pb_bs, pb_b2n, pb_bz0, pb_bz1, pb_10, pb_01, pn_is, pn_g0, pn_g1, pn_g2, pn_g3, pn_g4, pn_g5, pn_g6, pn_g9, mL_g0, mL_p0, mL_g1, mL_p1, mL_g2, mL_p2, mL_g3, mL_p3, mL_g4, mL_p4, mL_g5, mL_p5, mL_g6, mL_p6, mL_g7, mL_p7, mL_g8, mL_p8, mL_g9, mL_p9, mL_g10, mL_p10, mL_g11, mL_p11, mL_g12, mL_p12, mL_g13, mL_p13, mL_g14, mL_p14, mL_g15, mL_p15, pn_a9, pn_u9, hlt, r46, r54]
    · by_cases e : j = i
      · rw [e, pv_ne (by omega), pv_eq (by omega), pv_eq (by rw [List.length_set]; omega)]
        exact ⟨rfl, rfl⟩
      · rw [pv_ne (by omega), pv_ne (by omega), pv_ne (by omega), pv_ne (by omega)]
        exact h3 j (by omega)) (by
    rintro s ⟨b', rfl, h1, h2, h3⟩
    refine ⟨(pm_M n f (mL m0 m1 m2 m3 m4 m5 m6 m7 m8 m9 m10 m11 m12 m13 m14 m15) dx tp sg lg cl cs rd op sk wd b' th fa ws kp li pr hb fi st im jf jx mk), ?_, b', rfl, h1, h2, h3⟩
    have hlt : (nI 8 ≤ nI 8) = True := eq_true (nI_le (Nat.le_refl 8) (by omega))
    unfold mm_M_begins_b24
    simp only [pb_l2, pb_ll, nI_add, pb_mul, if_true, if_false, pb_bs, pb_b2n, pb_bz0, pb_bz1, pb_10, pb_01, pn_is, pn_g0, pn_g1, pn_g2, pn_g3, pn_g4, pn_g5, pn_g6, pn_g9, mL_g0, mL_p0, mL_g1, mL_p1, mL_g2, mL_p2, mL_g3, mL_p3, mL_g4, mL_p4, mL_g5, mL_p5, mL_g6, mL_p6, mL_g7, mL_p7, mL_g8, mL_p8, mL_g9, mL_p9, mL_g10, mL_p10, mL_g11, mL_p11, mL_g12, mL_p12, mL_g13, mL_p13, mL_g14, mL_p14, mL_g15, mL_p15, hlt])
  obtain ⟨e, e2, b2, rfl, l2, p1, p2⟩ := key2
  have eb : b2 = sa_first b := pv_ext (by rw [l2, sa_first_len hl]) (fun j hj => by
    rw [sa_first_pv hl]
    by_cases c : j < 10 ∨ 30 ≤ j
    · rw [if_pos c, p1 j (by omega), o1 j (by omega)]
    · rw [if_neg c]
      by_cases c1 : j < 14
      · rw [if_pos c1, p1 j (by omega), ← o2 (j - 10) (by omega)]
        congr 1
        omega
      · rw [if_neg c1]
        by_cases c2 : j < 22
        · have h := (p2 (j - 14) (by omega)).1
          rw [show 14 + (j - 14) = j by omega, o1 _ (by omega)] at h
          rw [h]
          congr 1
          omega
        · have h := (p2 (j - 22) (by omega)).2
          rw [show 22 + (j - 22) = j by omega, o1 _ (by omega)] at h
          rw [h]
          congr 1
          omega)
  rw [← eb]
  unfold mm_M_begins
  simp only [pb_l2, pb_ll, nI_add, pb_mul, if_true, if_false, pb_bs, pb_b2n, pb_bz0, pb_bz1, pb_10, pb_01, pn_is, pn_g0, pn_g1, pn_g2, pn_g3, pn_g4, pn_g5, pn_g6, pn_g9, mL_g0, mL_p0, mL_g1, mL_p1, mL_g2, mL_p2, mL_g3, mL_p3, mL_g4, mL_p4, mL_g5, mL_p5, mL_g6, mL_p6, mL_g7, mL_p7, mL_g8, mL_p8, mL_g9, mL_p9, mL_g10, mL_p10, mL_g11, mL_p11, mL_g12, mL_p12, mL_g13, mL_p13, mL_g14, mL_p14, mL_g15, mL_p15, e1, e2]
theorem M_reads {r : List Int32} (hl : lg.length = 7) : mm_M_readsAll N (some 118) (pm_M n f (mL m0 m1 m2 m3 m4 (nI 6) m6 m7 m8 m9 m10 m11 m12 m13 m14 m15) dx tp sg lg cl cs r op sk wd sd th fa ws kp li pr hb fi st im jf jx mk) = rL N N (mm_M_clauseHere N (some 118) (pm_M n f (mL m0 m1 (nI 0) (nI 0) m4 (nI 6) (nI 0) m7 (nI 0) m9 m10 m11 m12 m13 m14 m15) dx tp sg (lg.set 6 (nI 0)) cl cs r op sk wd sd th fa ws kp li pr hb fi st im jf jx mk)) := by
  unfold mm_M_readsAll rL
  simp (disch := ((try simp only [List.length_set, sl_len]); omega)) only [pb_l2, pb_ll, nI_add, pb_mul, if_true, if_false, pb_bs, pb_b2n, pb_bz0, pb_bz1, pb_10, pb_01, pn_is, pn_g0, pn_g1, pn_g2, pn_g3, pn_g4, pn_g5, pn_g6, pn_g9, mL_g0, mL_p0, mL_g1, mL_p1, mL_g2, mL_p2, mL_g3, mL_p3, mL_g4, mL_p4, mL_g5, mL_p5, mL_g6, mL_p6, mL_g7, mL_p7, mL_g8, mL_p8, mL_g9, mL_p9, mL_g10, mL_p10, mL_g11, mL_p11, mL_g12, mL_p12, mL_g13, mL_p13, mL_g14, mL_p14, mL_g15, mL_p15, pn_u2]
  refine congrArg (ss_b2 _) (funext fun v12 => funext fun h13 => congrArg (Option.bind _) (funext fun e => ?_))
  obtain ⟨y, h⟩ := e
  rfl
theorem M_v1 (hl : lg.length = 7) (hr0 : rd.length = 93) (hr : r.length = 93) (hs : sd.length = 124) (hN : 500 < N) (hh : rL N N (mm_M_clauseHere N (some 118) (pm_M n f (mL m0 m1 (nI 0) (nI 0) m4 (nI 6) (nI 0) m7 (nI 0) m9 m10 m11 m12 m13 m14 m15) dx tp sg (lg.set 6 (nI 0)) cl cs r93 op sk wd sd th fa ws kp li pr hb fi st im jf jx mk)) = some (nI 1, (pm_M n f (mL (nI 0) m1 z2 (nI 0) z4 (nI 6) (nI 0) m7 z8' m9 z10 z11 m12 m13 m14 m15) dx tp sg (lg.set 6 (nI 0)) cl cs r op sk wd sd th fa ws kp li pr hb fi st im jf jx mk))) : mm_M_valley N (some 118) (pm_M n f (mL m0 m1 m2 m3 m4 m5 m6 m7 m8 m9 m10 m11 m12 m13 m14 m15) dx tp sg lg cl cs rd op sk wd sd th fa ws kp li pr hb fi st im jf jx mk) = some (pv r 2, (pm_M n f (mL (nI 0) m1 z2 (nI 0) z4 (nI 6) (nI 0) m7 z8' m9 z10 z11 m12 m13 m14 (nI 0)) dx tp sg (lg.set 6 (nI 0)) cl cs r op sk wd (sa_first (vB r)) th fa ws kp li pr hb fi st im jf jx mk)) := by
  have e2 : pv (sa_first (vB r)) 2 = pv r 2 := by rw [sa_first_pv vB_len, if_pos (by omega), vB_pv (by omega), if_pos (by omega)]
  have l2 : (sa_first (vB r)).length = 124 := sa_first_len vB_len
  unfold mm_M_valley
  simp (disch := ((try simp only [List.length_set, sl_len]); omega)) only [pb_l2, pb_ll, nI_add, pb_mul, if_true, if_false, pb_bs, pb_b2n, pb_bz0, pb_bz1, pb_10, pb_01, pn_is, pn_g0, pn_g1, pn_g2, pn_g3, pn_g4, pn_g5, pn_g6, pn_g9, mL_g0, mL_p0, mL_g1, mL_p1, mL_g2, mL_p2, mL_g3, mL_p3, mL_g4, mL_p4, mL_g5, mL_p5, mL_g6, mL_p6, mL_g7, mL_p7, mL_g8, mL_p8, mL_g9, mL_p9, mL_g10, mL_p10, mL_g11, mL_p11, mL_g12, mL_p12, mL_g13, mL_p13, mL_g14, mL_p14, mL_g15, mL_p15, M_zero hr0 hN, M_reads hl, hh, M_said hr hs hN, M_beg vB_len hN, pn_a9, e2]
theorem M_v0 (hl : lg.length = 7) (hr0 : rd.length = 93) (hN : 500 < N) (hh : rL N N (mm_M_clauseHere N (some 118) (pm_M n f (mL m0 m1 (nI 0) (nI 0) m4 (nI 6) (nI 0) m7 (nI 0) m9 m10 m11 m12 m13 m14 m15) dx tp sg (lg.set 6 (nI 0)) cl cs r93 op sk wd sd th fa ws kp li pr hb fi st im jf jx mk)) = some (nI 0, (pm_M n f (mL (nI 0) m1 z2 z3 z4 (nI 6) (nI 0) m7 z8' m9 z10 z11 m12 m13 m14 m15) dx tp sg (lg.set 6 (nI 0)) cl cs r op sk wd sd th fa ws kp li pr hb fi st im jf jx mk))) : mm_M_valley N (some 118) (pm_M n f (mL m0 m1 m2 m3 m4 m5 m6 m7 m8 m9 m10 m11 m12 m13 m14 m15) dx tp sg lg cl cs rd op sk wd sd th fa ws kp li pr hb fi st im jf jx mk) = some (-nI 2 - z3, (pm_M n f (mL (nI 0) m1 z2 z3 z4 (nI 6) (nI 0) m7 z8' m9 z10 z11 m12 m13 m14 m15) dx tp sg (lg.set 6 (nI 0)) cl cs r op sk wd sd th fa ws kp li pr hb fi st im jf jx mk)) := by
  unfold mm_M_valley
  simp (disch := ((try simp only [List.length_set, sl_len]); omega)) only [pb_l2, pb_ll, nI_add, pb_mul, if_true, if_false, pb_bs, pb_b2n, pb_bz0, pb_bz1, pb_10, pb_01, pn_is, pn_g0, pn_g1, pn_g2, pn_g3, pn_g4, pn_g5, pn_g6, pn_g9, mL_g0, mL_p0, mL_g1, mL_p1, mL_g2, mL_p2, mL_g3, mL_p3, mL_g4, mL_p4, mL_g5, mL_p5, mL_g6, mL_p6, mL_g7, mL_p7, mL_g8, mL_p8, mL_g9, mL_p9, mL_g10, mL_p10, mL_g11, mL_p11, mL_g12, mL_p12, mL_g13, mL_p13, mL_g14, mL_p14, mL_g15, mL_p15, M_zero hr0 hN, M_reads hl, hh]
end JY
