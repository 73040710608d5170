/-! ===== valley: the model's end ===== -/
def vB (r : List Int32) : List Int32 := (List.range 124).map (fun i => if i < 93 then pv r i else nI 0)
theorem vB_len {r : List Int32} : (vB r).length = 124 := by simp [vB]
theorem vB_pv {r : List Int32} {i : Nat} (h : i < 124) : pv (vB r) i = if i < 93 then pv r i else nI 0 := by
  unfold vB
  unfold pv
  simp [h]
section JY
variable {n : Nat} {f : Nat → ss_Cl} {m0 m1 m2 m3 m4 m5 m6 m7 m8 m9 m10 m11 m12 m13 m14 m15 : Int32} {dx : Int64} {tp : List Int32} {sg : List Int32} {lg : List Int32} {cl : List Int32} {cs : List Int32} {rd : List Int32} {op : List Int32} {sk : List Int64} {wd : List Int64} {sd : List Int32} {th : List Int32} {fa : List Int32} {ws : List Int32} {kp : List Int32} {li : List Int32} {pr : List Int32} {hb : List Int32} {fi : List Int32} {st : List Int32} {im : List Int32} {jf : List Int32} {jx : List Int32} {mk : List Int32} {N : Nat}
variable {r b : List Int32} {z2 z3 z4 z8' z10 z11 : Int32}
theorem M_zero (hl : r.length = 93) (hN : 500 < N) : ss_lp (mm_M_valley_b8 N (some 110)) N (nI 0, (pm_M n f (mL m0 m1 m2 m3 m4 m5 m6 m7 m8 m9 m10 m11 m12 m13 m14 m15) dx tp sg lg cl cs r op sk wd sd th fa ws kp li pr hb fi st im jf jx mk)) = some (pm_M n f (mL m0 m1 m2 m3 m4 m5 m6 m7 m8 m9 m10 m11 m12 m13 m14 m15) dx tp sg lg cl cs r93 op sk wd sd th fa ws kp li pr hb fi st im jf jx mk) := by
  have key := pb_for (body := mm_M_valley_b8 N (some 110)) 93 (fun i s => ∃ r', s = (nI i, (pm_M n f (mL m0 m1 m2 m3 m4 m5 m6 m7 m8 m9 m10 m11 m12 m13 m14 m15) dx tp sg lg cl cs r' op sk wd sd th fa ws kp li pr hb fi st im jf jx mk)) ∧ r'.length = 93 ∧ ∀ j, j < i → pv r' j = nI 0) (fun e => e = (pm_M n f (mL m0 m1 m2 m3 m4 m5 m6 m7 m8 m9 m10 m11 m12 m13 m14 m15) dx tp sg lg cl cs r93 op sk wd sd th fa ws kp li pr hb fi st im jf jx mk)) (N := N) (s := (nI 0, (pm_M n f (mL m0 m1 m2 m3 m4 m5 m6 m7 m8 m9 m10 m11 m12 m13 m14 m15) dx tp sg lg cl cs r op sk wd sd th fa ws kp li pr hb fi st im jf jx mk))) (by omega) ⟨r, rfl, hl, fun j hj => absurd hj (Nat.not_lt_zero j)⟩ (by
    rintro i s hi ⟨r', rfl, h1, h2⟩
    left
    have hlt : (nI 93 ≤ nI i) = False := eq_false (nI_ge hi (by omega))
    refine ⟨(nI (i + 1), (pm_M n f (mL m0 m1 m2 m3 m4 m5 m6 m7 m8 m9 m10 m11 m12 m13 m14 m15) dx tp sg lg cl cs (r'.set i (nI 0)) op sk wd sd th fa ws kp li pr hb fi st im jf jx mk)), ?_, r'.set i (nI 0), rfl, by rw [List.length_set]; exact h1, fun j hj => ?_⟩
    · unfold mm_M_valley_b8
      simp (disch := ((try simp only [List.length_set, sl_len]); omega)) only [pb_l2, pb_ll, nI_add, pb_mul, if_true, if_false, pb_bs, pb_b2n, pb_bz0, pb_bz1, pb_10, pb_01, pn_is, pn_g0, pn_g1, pn_g2, pn_g3, pn_g4, pn_g5, pn_g6, pn_g9, mL_g0, mL_p0, mL_g1, mL_p1, mL_g2, mL_p2, mL_g3, mL_p3, mL_g4, mL_p4, mL_g5, mL_p5, mL_g6, mL_p6, mL_g7, mL_p7, mL_g8, mL_p8, mL_g9, mL_p9, mL_g10, mL_p10, mL_g11, mL_p11, mL_g12, mL_p12, mL_g13, mL_p13, mL_g14, mL_p14, mL_g15, mL_p15, pn_u5, hlt]
    · rw [pv_set (by omega)]
      by_cases e : j = i
      · rw [if_pos e]
      · rw [if_neg e]
        exact h2 j (by omega)) (by
    rintro s ⟨r', rfl, h1, h2⟩
    have er : r' = r93 := pv_ext (by rw [h1]; rfl) (fun i hi => by rw [h2 i (by omega), r93_pv])
    refine ⟨(pm_M n f (mL m0 m1 m2 m3 m4 m5 m6 m7 m8 m9 m10 m11 m12 m13 m14 m15) dx tp sg lg cl cs r' op sk wd sd th fa ws kp li pr hb fi st im jf jx mk), ?_, by rw [er]⟩
    have hlt : (nI 93 ≤ nI 93) = True := eq_true (nI_le (Nat.le_refl 93) (by omega))
    unfold mm_M_valley_b8
    simp only [pb_l2, pb_ll, nI_add, pb_mul, if_true, if_false, pb_bs, pb_b2n, pb_bz0, pb_bz1, pb_10, pb_01, pn_is, pn_g0, pn_g1, pn_g2, pn_g3, pn_g4, pn_g5, pn_g6, pn_g9, mL_g0, mL_p0, mL_g1, mL_p1, mL_g2, mL_p2, mL_g3, mL_p3, mL_g4, mL_p4, mL_g5, mL_p5, mL_g6, mL_p6, mL_g7, mL_p7, mL_g8, mL_p8, mL_g9, mL_p9, mL_g10, mL_p10, mL_g11, mL_p11, mL_g12, mL_p12, mL_g13, mL_p13, mL_g14, mL_p14, mL_g15, mL_p15, hlt])
  obtain ⟨e, h1, rfl⟩ := key
  exact h1
theorem M_said (hr : r.length = 93) (hl : b.length = 124) (hN : 500 < N) : ss_lp (mm_M_valley_b44 N (some 110)) N (nI 0, (pm_M n f (mL m0 m1 m2 m3 m4 m5 m6 m7 m8 m9 m10 m11 m12 m13 m14 m15) dx tp sg lg cl cs r op sk wd b th fa ws kp li pr hb fi st im jf jx mk)) = some (pm_M n f (mL m0 m1 m2 m3 m4 m5 m6 m7 m8 m9 m10 m11 m12 m13 m14 m15) dx tp sg lg cl cs r op sk wd (vB r) th fa ws kp li pr hb fi st im jf jx mk) := by
  have key := pb_for (body := mm_M_valley_b44 N (some 110)) 124 (fun i s => ∃ b', s = (nI i, (pm_M n f (mL m0 m1 m2 m3 m4 m5 m6 m7 m8 m9 m10 m11 m12 m13 m14 m15) dx tp sg lg cl cs r op sk wd b' th fa ws kp li pr hb fi st im jf jx mk)) ∧ b'.length = 124 ∧ ∀ j, j < i → pv b' j = if j < 93 then pv r j else nI 0) (fun e => e = (pm_M n f (mL m0 m1 m2 m3 m4 m5 m6 m7 m8 m9 m10 m11 m12 m13 m14 m15) dx tp sg lg cl cs r op sk wd (vB r) th fa ws kp li pr hb fi st im jf jx mk)) (N := N) (s := (nI 0, (pm_M n f (mL m0 m1 m2 m3 m4 m5 m6 m7 m8 m9 m10 m11 m12 m13 m14 m15) dx tp sg lg cl cs r op sk wd b th fa ws kp li pr hb fi st im jf jx mk))) (by omega) ⟨b, rfl, hl, fun j hj => absurd hj (Nat.not_lt_zero j)⟩ (by
    rintro i s hi ⟨b', rfl, h1, h2⟩
    left
    have hlt : (nI 124 ≤ nI i) = False := eq_false (nI_ge hi (by omega))
    refine ⟨(nI (i + 1), (pm_M n f (mL m0 m1 m2 m3 m4 m5 m6 m7 m8 m9 m10 m11 m12 m13 m14 m15) dx tp sg lg cl cs r op sk wd (b'.set i (if i < 93 then pv r i else nI 0)) th fa ws kp li pr hb fi st im jf jx mk)), ?_, b'.set i (if i < 93 then pv r i else nI 0), rfl, by rw [List.length_set]; exact h1, fun j hj => ?_⟩
    · unfold mm_M_valley_b44 mm_M_valley_j71
      by_cases c : i < 93
      · have c93 : (nI 93 ≤ nI i) = False := eq_false (nI_ge c (by omega))
        rw [if_pos c]
        simp (disch := ((try simp only [List.length_set, sl_len]); omega)) only [pb_l2, pb_ll, nI_add, pb_mul, if_true, if_false, pb_bs, pb_b2n, pb_bz0, pb_bz1, pb_10, pb_01, pn_is, pn_g0, pn_g1, pn_g2, pn_g3, pn_g4, pn_g5, pn_g6, pn_g9, mL_g0, mL_p0, mL_g1, mL_p1, mL_g2, mL_p2, mL_g3, mL_p3, mL_g4, mL_p4, mL_g5, mL_p5, mL_g6, mL_p6, mL_g7, mL_p7, mL_g8, mL_p8, mL_g9, mL_p9, mL_g10, mL_p10, mL_g11, mL_p11, mL_g12, mL_p12, mL_g13, mL_p13, mL_g14, mL_p14, mL_g15, mL_p15, pn_a5, pn_u9, hlt, c93]
      · have c93 : (nI 93 ≤ nI i) = True := eq_true (nI_le (by omega) (by omega))
        rw [if_neg c]
        simp (disch := ((try simp only [List.length_set, sl_len]); omega)) only [pb_l2, pb_ll, nI_add, pb_mul, if_true, if_false, pb_bs, pb_b2n, pb_bz0, pb_bz1, pb_10, pb_01, pn_is, pn_g0, pn_g1, pn_g2, pn_g3, pn_g4, pn_g5, pn_g6, pn_g9, mL_g0, mL_p0, mL_g1, mL_p1, mL_g2, mL_p2, mL_g3, mL_p3, mL_g4, mL_p4, mL_g5, mL_p5, mL_g6, mL_p6, mL_g7, mL_p7, mL_g8, mL_p8, mL_g9, mL_p9, mL_g10, mL_p10, mL_g11, mL_p11, mL_g12, mL_p12, mL_g13, mL_p13, mL_g14, mL_p14, mL_g15, mL_p15, pn_u9, hlt, c93]
    · rw [pv_set (by omega)]
      by_cases e : j = i
      · rw [if_pos e, e]
      · rw [if_neg e]
        exact h2 j (by omega)) (by
    rintro s ⟨b', rfl, h1, h2⟩
    have er : b' = vB r := pv_ext (by rw [h1, vB_len]) (fun i hi => by rw [h2 i (by omega), vB_pv (by omega)])
    refine ⟨(pm_M n f (mL m0 m1 m2 m3 m4 m5 m6 m7 m8 m9 m10 m11 m12 m13 m14 m15) dx tp sg lg cl cs r op sk wd b' th fa ws kp li pr hb fi st im jf jx mk), ?_, by rw [er]⟩
    have hlt : (nI 124 ≤ nI 124) = True := eq_true (nI_le (Nat.le_refl 124) (by omega))
    unfold mm_M_valley_b44
    simp only [pb_l2, pb_ll, nI_add, pb_mul, if_true, if_false, pb_bs, pb_b2n, pb_bz0, pb_bz1, pb_10, pb_01, pn_is, pn_g0, pn_g1, pn_g2, pn_g3, pn_g4, pn_g5, pn_g6, pn_g9, mL_g0, mL_p0, mL_g1, mL_p1, mL_g2, mL_p2, mL_g3, mL_p3, mL_g4, mL_p4, mL_g5, mL_p5, mL_g6, mL_p6, mL_g7, mL_p7, mL_g8, mL_p8, mL_g9, mL_p9, mL_g10, mL_p10, mL_g11, mL_p11, mL_g12, mL_p12, mL_g13, mL_p13, mL_g14, mL_p14, mL_g15, mL_p15, hlt])
  obtain ⟨e, h1, rfl⟩ := key
  exact h1
theorem M_beg (hl : b.length = 124) (hN : 500 < N) : mm_M_begins N (some 110) (pm_M n f (mL m0 m1 m2 m3 m4 m5 m6 m7 m8 m9 m10 m11 m12 m13 m14 m15) dx tp sg lg cl cs rd op sk wd b th fa ws kp li pr hb fi st im jf jx mk) = some (pm_M n f (mL m0 m1 m2 m3 m4 m5 m6 m7 m8 m9 m10 m11 m12 m13 m14 m15) dx tp sg lg cl cs rd op sk wd (sa_first b) th fa ws kp li pr hb fi st im jf jx mk) := by
  have key := pb_for (body := mm_M_begins_b3 N (some 110)) 4 (fun i s => ∃ b', s = (nI (10 + i), (pm_M n f (mL m0 m1 m2 m3 m4 m5 m6 m7 m8 m9 m10 m11 m12 m13 m14 m15) dx tp sg lg cl cs rd op sk wd b' th fa ws kp li pr hb fi st im jf jx mk)) ∧ b'.length = 124 ∧ (∀ j, j < 10 ∨ 14 ≤ j → pv b' j = pv b j) ∧ ∀ j, j < i → pv b' (10 + j) = nI 0) (fun e => ∃ b', e = (pm_M n f (mL m0 m1 m2 m3 m4 m5 m6 m7 m8 m9 m10 m11 m12 m13 m14 m15) dx tp sg lg cl cs rd op sk wd b' th fa ws kp li pr hb fi st im jf jx mk) ∧ b'.length = 124 ∧ (∀ j, j < 10 ∨ 14 ≤ j → pv b' j = pv b j) ∧ ∀ j, j < 4 → pv b' (10 + j) = nI 0) (N := N) (s := (nI 10, (pm_M n f (mL m0 m1 m2 m3 m4 m5 m6 m7 m8 m9 m10 m11 m12 m13 m14 m15) dx tp sg lg cl cs rd op sk wd b th fa ws kp li pr hb fi st im jf jx mk))) (by omega) ⟨b, rfl, hl, fun _ _ => rfl, fun j hj => absurd hj (Nat.not_lt_zero j)⟩ (by
    rintro i s hi ⟨b', rfl, h1, h2, h3⟩
    left
    have hlt : (nI 14 ≤ nI (10 + i)) = False := eq_false (nI_ge (by omega) (by omega))
    refine ⟨(nI (10 + (i + 1)), (pm_M n f (mL m0 m1 m2 m3 m4 m5 m6 m7 m8 m9 m10 m11 m12 m13 m14 m15) dx tp sg lg cl cs rd op sk wd (b'.set (10 + i) (nI 0)) th fa ws kp li pr hb fi st im jf jx mk)), ?_, b'.set (10 + i) (nI 0), rfl, by rw [List.length_set]; exact h1, fun j hj => by rw [pv_ne (by omega)]; exact h2 j hj, fun j hj => ?_⟩
    · unfold mm_M_begins_b3
      simp (disch := ((try simp only [List.length_set, sl_len]); omega)) only [pb_l2, pb_ll, nI_add, pb_mul, if_true, if_false, pb_bs, pb_b2n, pb_bz0, pb_bz1, pb_10, pb_01, pn_is, pn_g0, pn_g1, pn_g2, pn_g3, pn_g4, pn_g5, pn_g6, pn_g9, mL_g0, mL_p0, mL_g1, mL_p1, mL_g2, mL_p2, mL_g3, mL_p3, mL_g4, mL_p4, mL_g5, mL_p5, mL_g6, mL_p6, mL_g7, mL_p7, mL_g8, mL_p8, mL_g9, mL_p9, mL_g10, mL_p10, mL_g11, mL_p11, mL_g12, mL_p12, mL_g13, mL_p13, mL_g14, mL_p14, mL_g15, mL_p15, pn_u9, hlt]
      rfl
    · rw [pv_set (by omega)]
      by_cases e : j = i
      · rw [if_pos (by omega)]
      · rw [if_neg (by omega)]
        exact h3 j (by omega)) (by
    rintro s ⟨b', rfl, h1, h2, h3⟩
    refine ⟨(pm_M n f (mL m0 m1 m2 m3 m4 m5 m6 m7 m8 m9 m10 m11 m12 m13 m14 m15) dx tp sg lg cl cs rd op sk wd b' th fa ws kp li pr hb fi st im jf jx mk), ?_, b', rfl, h1, h2, h3⟩
    have hlt : (nI 14 ≤ nI (10 + 4)) = True := eq_true (nI_le (by omega) (by omega))
    unfold mm_M_begins_b3
    simp only [pb_l2, pb_ll, nI_add, pb_mul, if_true, if_false, pb_bs, pb_b2n, pb_bz0, pb_bz1, pb_10, pb_01, pn_is, pn_g0, pn_g1, pn_g2, pn_g3, pn_g4, pn_g5, pn_g6, pn_g9, mL_g0, mL_p0, mL_g1, mL_p1, mL_g2, mL_p2, mL_g3, mL_p3, mL_g4, mL_p4, mL_g5, mL_p5, mL_g6, mL_p6, mL_g7, mL_p7, mL_g8, mL_p8, mL_g9, mL_p9, mL_g10, mL_p10, mL_g11, mL_p11, mL_g12, mL_p12, mL_g13, mL_p13, mL_g14, mL_p14, mL_g15, mL_p15, hlt])
  obtain ⟨e, e1, b1, rfl, l1, o1, o2⟩ := key
  have key2 := pb_for (body := mm_M_begins_b24 N (some 110)) 8 (fun i s => ∃ b', s = (nI i, (pm_M n f (mL m0 m1 m2 m3 m4 m5 m6 m7 m8 m9 m10 m11 m12 m13 m14 m15) dx tp sg lg cl cs rd op sk wd b' th fa ws kp li pr hb fi st im jf jx mk)) ∧ b'.length = 124 ∧ (∀ j, j < 14 ∨ 30 ≤ j → pv b' j = pv b1 j) ∧ ∀ j, j < i → pv b' (14 + j) = pv b1 (46 + j) ∧ pv b' (22 + j) = pv b1 (54 + j)) (fun e => ∃ b', e = (pm_M n f (mL m0 m1 m2 m3 m4 m5 m6 m7 m8 m9 m10 m11 m12 m13 m14 m15) dx tp sg lg cl cs rd op sk wd b' th fa ws kp li pr hb fi st im jf jx mk) ∧ b'.length = 124 ∧ (∀ j, j < 14 ∨ 30 ≤ j → pv b' j = pv b1 j) ∧ ∀ j, j < 8 → pv b' (14 + j) = pv b1 (46 + j) ∧ pv b' (22 + j) = pv b1 (54 + j)) (N := N) (s := (nI 0, (pm_M n f (mL m0 m1 m2 m3 m4 m5 m6 m7 m8 m9 m10 m11 m12 m13 m14 m15) dx tp sg lg cl cs rd op sk wd b1 th fa ws kp li pr hb fi st im jf jx mk))) (by omega) ⟨b1, rfl, l1, fun _ _ => rfl, fun j hj => absurd hj (Nat.not_lt_zero j)⟩ (by
    rintro i s hi ⟨b', rfl, h1, h2, h3⟩
    left
    have hlt : (nI 8 ≤ nI i) = False := eq_false (nI_ge hi (by omega))
    have r46 := h2 (46 + i) (by omega)
    have r54 : pv (b'.set (14 + i) (pv b1 (46 + i))) (54 + i) = pv b1 (54 + i) := (pv_ne (by omega)).trans (h2 (54 + i) (by omega))
    refine ⟨(nI (i + 1), (pm_M n f (mL m0 m1 m2 m3 m4 m5 m6 m7 m8 m9 m10 m11 m12 m13 m14 m15) dx tp sg lg cl cs rd op sk wd ((b'.set (14 + i) (pv b1 (46 + i))).set (22 + i) (pv b1 (54 + i))) th fa ws kp li pr hb fi st im jf jx mk)), ?_, (b'.set (14 + i) (pv b1 (46 + i))).set (22 + i) (pv b1 (54 + i)), rfl, by rw [List.length_set, List.length_set]; exact h1, fun j hj => by rw [pv_ne (by omega), pv_ne (by omega)]; exact h2 j hj, fun j hj => ?_⟩
    · unfold mm_M_begins_b24
      simp (disch := ((try simp only [List.length_set, sl_len]); omega)) only [pb_l2, pb_ll, nI_add, pb_mul, if_true, if_false, pb_bs, pb_b2n, pb_bz0, pb_bz1, pb_10, pb_01, pn_is, pn_g0, pn_g1, pn_g2, pn_g3, pn_g4, pn_g5, pn_g6, pn_g9, mL_g0, mL_p0, mL_g1, mL_p1, mL_g2, mL_p2, mL_g3, mL_p3, mL_g4, mL_p4, mL_g5, mL_p5, mL_g6, mL_p6, mL_g7, mL_p7, mL_g8, mL_p8, mL_g9, mL_p9, mL_g10, mL_p10, mL_g11, mL_p11, mL_g12, mL_p12, mL_g13, mL_p13, mL_g14, mL_p14, mL_g15, mL_p15, pn_a9, pn_u9, hlt, r46, r54]
    · by_cases e : j = i
      · rw [e, pv_ne (by omega), pv_eq (by omega), pv_eq (by rw [List.length_set]; omega)]
        exact ⟨rfl, rfl⟩
      · rw [pv_ne (by omega), pv_ne (by omega), pv_ne (by omega), pv_ne (by omega)]
        exact h3 j (by omega)) (by
    rintro s ⟨b', rfl, h1, h2, h3⟩
    refine ⟨(pm_M n f (mL m0 m1 m2 m3 m4 m5 m6 m7 m8 m9 m10 m11 m12 m13 m14 m15) dx tp sg lg cl cs rd op sk wd b' th fa ws kp li pr hb fi st im jf jx mk), ?_, b', rfl, h1, h2, h3⟩
    have hlt : (nI 8 ≤ nI 8) = True := eq_true (nI_le (Nat.le_refl 8) (by omega))
    unfold mm_M_begins_b24
    simp only [pb_l2, pb_ll, nI_add, pb_mul, if_true, if_false, pb_bs, pb_b2n, pb_bz0, pb_bz1, pb_10, pb_01, pn_is, pn_g0, pn_g1, pn_g2, pn_g3, pn_g4, pn_g5, pn_g6, pn_g9, mL_g0, mL_p0, mL_g1, mL_p1, mL_g2, mL_p2, mL_g3, mL_p3, mL_g4, mL_p4, mL_g5, mL_p5, mL_g6, mL_p6, mL_g7, mL_p7, mL_g8, mL_p8, mL_g9, mL_p9, mL_g10, mL_p10, mL_g11, mL_p11, mL_g12, mL_p12, mL_g13, mL_p13, mL_g14, mL_p14, mL_g15, mL_p15, hlt])
  obtain ⟨e, e2, b2, rfl, l2, p1, p2⟩ := key2
  have eb : b2 = sa_first b := pv_ext (by rw [l2, sa_first_len hl]) (fun j hj => by
    rw [sa_first_pv hl]
    by_cases c : j < 10 ∨ 30 ≤ j
    · rw [if_pos c, p1 j (by omega), o1 j (by omega)]
    · rw [if_neg c]
      by_cases c1 : j < 14
      · rw [if_pos c1, p1 j (by omega), ← o2 (j - 10) (by omega)]
        congr 1
        omega
      · rw [if_neg c1]
        by_cases c2 : j < 22
        · have h := (p2 (j - 14) (by omega)).1
          rw [show 14 + (j - 14) = j by omega, o1 _ (by omega)] at h
          rw [h]
          congr 1
          omega
        · have h := (p2 (j - 22) (by omega)).2
          rw [show 22 + (j - 22) = j by omega, o1 _ (by omega)] at h
          rw [h]
          congr 1
          omega)
  rw [← eb]
  unfold mm_M_begins
  simp only [pb_l2, pb_ll, nI_add, pb_mul, if_true, if_false, pb_bs, pb_b2n, pb_bz0, pb_bz1, pb_10, pb_01, pn_is, pn_g0, pn_g1, pn_g2, pn_g3, pn_g4, pn_g5, pn_g6, pn_g9, mL_g0, mL_p0, mL_g1, mL_p1, mL_g2, mL_p2, mL_g3, mL_p3, mL_g4, mL_p4, mL_g5, mL_p5, mL_g6, mL_p6, mL_g7, mL_p7, mL_g8, mL_p8, mL_g9, mL_p9, mL_g10, mL_p10, mL_g11, mL_p11, mL_g12, mL_p12, mL_g13, mL_p13, mL_g14, mL_p14, mL_g15, mL_p15, e1, e2]
theorem M_reads {r : List Int32} (hl : lg.length = 7) : mm_M_readsAll N (some 110) (pm_M n f (mL m0 m1 m2 m3 m4 (nI 6) m6 m7 m8 m9 m10 m11 m12 m13 m14 m15) dx tp sg lg cl cs r op sk wd sd th fa ws kp li pr hb fi st im jf jx mk) = rL N N (mm_M_clauseHere N (some 110) (pm_M n f (mL m0 m1 (nI 0) (nI 0) m4 (nI 6) (nI 0) m7 (nI 0) m9 m10 m11 m12 m13 m14 m15) dx tp sg (lg.set 6 (nI 0)) cl cs r op sk wd sd th fa ws kp li pr hb fi st im jf jx mk)) := by
  unfold mm_M_readsAll rL
  simp (disch := ((try simp only [List.length_set, sl_len]); omega)) only [pb_l2, pb_ll, nI_add, pb_mul, if_true, if_false, pb_bs, pb_b2n, pb_bz0, pb_bz1, pb_10, pb_01, pn_is, pn_g0, pn_g1, pn_g2, pn_g3, pn_g4, pn_g5, pn_g6, pn_g9, mL_g0, mL_p0, mL_g1, mL_p1, mL_g2, mL_p2, mL_g3, mL_p3, mL_g4, mL_p4, mL_g5, mL_p5, mL_g6, mL_p6, mL_g7, mL_p7, mL_g8, mL_p8, mL_g9, mL_p9, mL_g10, mL_p10, mL_g11, mL_p11, mL_g12, mL_p12, mL_g13, mL_p13, mL_g14, mL_p14, mL_g15, mL_p15, pn_u2]
  refine congrArg (ss_b2 _) (funext fun v12 => funext fun h13 => congrArg (Option.bind _) (funext fun e => ?_))
  obtain ⟨y, h⟩ := e
  rfl
theorem M_v1 (hl : lg.length = 7) (hr0 : rd.length = 93) (hr : r.length = 93) (hs : sd.length = 124) (hN : 500 < N) (hh : rL N N (mm_M_clauseHere N (some 110) (pm_M n f (mL m0 m1 (nI 0) (nI 0) m4 (nI 6) (nI 0) m7 (nI 0) m9 m10 m11 m12 m13 m14 m15) dx tp sg (lg.set 6 (nI 0)) cl cs r93 op sk wd sd th fa ws kp li pr hb fi st im jf jx mk)) = some (nI 1, (pm_M n f (mL (nI 0) m1 z2 (nI 0) z4 (nI 6) (nI 0) m7 z8' m9 z10 z11 m12 m13 m14 m15) dx tp sg (lg.set 6 (nI 0)) cl cs r op sk wd sd th fa ws kp li pr hb fi st im jf jx mk))) : mm_M_valley N (some 110) (pm_M n f (mL m0 m1 m2 m3 m4 m5 m6 m7 m8 m9 m10 m11 m12 m13 m14 m15) dx tp sg lg cl cs rd op sk wd sd th fa ws kp li pr hb fi st im jf jx mk) = some (pv r 2, (pm_M n f (mL (nI 0) m1 z2 (nI 0) z4 (nI 6) (nI 0) m7 z8' m9 z10 z11 m12 m13 m14 (nI 0)) dx tp sg (lg.set 6 (nI 0)) cl cs r op sk wd (sa_first (vB r)) th fa ws kp li pr hb fi st im jf jx mk)) := by
  have e2 : pv (sa_first (vB r)) 2 = pv r 2 := by rw [sa_first_pv vB_len, if_pos (by omega), vB_pv (by omega), if_pos (by omega)]
  have l2 : (sa_first (vB r)).length = 124 := sa_first_len vB_len
  unfold mm_M_valley
  simp (disch := ((try simp only [List.length_set, sl_len]); omega)) only [pb_l2, pb_ll, nI_add, pb_mul, if_true, if_false, pb_bs, pb_b2n, pb_bz0, pb_bz1, pb_10, pb_01, pn_is, pn_g0, pn_g1, pn_g2, pn_g3, pn_g4, pn_g5, pn_g6, pn_g9, mL_g0, mL_p0, mL_g1, mL_p1, mL_g2, mL_p2, mL_g3, mL_p3, mL_g4, mL_p4, mL_g5, mL_p5, mL_g6, mL_p6, mL_g7, mL_p7, mL_g8, mL_p8, mL_g9, mL_p9, mL_g10, mL_p10, mL_g11, mL_p11, mL_g12, mL_p12, mL_g13, mL_p13, mL_g14, mL_p14, mL_g15, mL_p15, M_zero hr0 hN, M_reads hl, hh, M_said hr hs hN, M_beg vB_len hN, pn_a9, e2]
theorem M_v0 (hl : lg.length = 7) (hr0 : rd.length = 93) (hN : 500 < N) (hh : rL N N (mm_M_clauseHere N (some 110) (pm_M n f (mL m0 m1 (nI 0) (nI 0) m4 (nI 6) (nI 0) m7 (nI 0) m9 m10 m11 m12 m13 m14 m15) dx tp sg (lg.set 6 (nI 0)) cl cs r93 op sk wd sd th fa ws kp li pr hb fi st im jf jx mk)) = some (nI 0, (pm_M n f (mL (nI 0) m1 z2 z3 z4 (nI 6) (nI 0) m7 z8' m9 z10 z11 m12 m13 m14 m15) dx tp sg (lg.set 6 (nI 0)) cl cs r op sk wd sd th fa ws kp li pr hb fi st im jf jx mk))) : mm_M_valley N (some 110) (pm_M n f (mL m0 m1 m2 m3 m4 m5 m6 m7 m8 m9 m10 m11 m12 m13 m14 m15) dx tp sg lg cl cs rd op sk wd sd th fa ws kp li pr hb fi st im jf jx mk) = some (-nI 2 - z3, (pm_M n f (mL (nI 0) m1 z2 z3 z4 (nI 6) (nI 0) m7 z8' m9 z10 z11 m12 m13 m14 m15) dx tp sg (lg.set 6 (nI 0)) cl cs r op sk wd sd th fa ws kp li pr hb fi st im jf jx mk)) := by
  unfold mm_M_valley
  simp (disch := ((try simp only [List.length_set, sl_len]); omega)) only [pb_l2, pb_ll, nI_add, pb_mul, if_true, if_false, pb_bs, pb_b2n, pb_bz0, pb_bz1, pb_10, pb_01, pn_is, pn_g0, pn_g1, pn_g2, pn_g3, pn_g4, pn_g5, pn_g6, pn_g9, mL_g0, mL_p0, mL_g1, mL_p1, mL_g2, mL_p2, mL_g3, mL_p3, mL_g4, mL_p4, mL_g5, mL_p5, mL_g6, mL_p6, mL_g7, mL_p7, mL_g8, mL_p8, mL_g9, mL_p9, mL_g10, mL_p10, mL_g11, mL_p11, mL_g12, mL_p12, mL_g13, mL_p13, mL_g14, mL_p14, mL_g15, mL_p15, M_zero hr0 hN, M_reads hl, hh]
end JY
/-! the class makes a valley -/
theorem va_init {N : Nat} {h : ss_Hp} {v : Nat} (hv : h.2 v = (5, [nI 0, nI 0, nI 0, nI 0, nI 0], [], [none, none, none, none, none])) (h1 : h.1 = v + 1) (hN : 8 < N) : ∃ h', mm_V_init N (some v) h = some h' ∧ h'.1 = v + 8 ∧ h'.2 v = (5, [nI 0, nI 0, nI 0, nI 0, nI 0], [], [some (v + 1), some (v + 2), some (v + 3), some (v + 4), some (v + 5)]) ∧ h'.2 (v + 1) = (20, [nI 0, nI 0, nI 0, nI 0], [], []) ∧ h'.2 (v + 2) = (20, [nI 0, nI 0, nI 0, nI 0], [], []) ∧ h'.2 (v + 3) = (20, z8, [], []) ∧ h'.2 (v + 4) = (20, z8, [], []) ∧ h'.2 (v + 5) = (0, [nI 0, nI 0, nI 0, nI 0], [], [some (v + 6), some (v + 7)]) ∧ h'.2 (v + 6) = (20, z8, [], []) ∧ h'.2 (v + 7) = (20, m8, [], []) ∧ ∀ y, y < v ∨ v + 8 ≤ y → h'.2 y = h.2 y := by
  have is : ss_is h (some v) 5 = true := pb_is hv
  obtain ⟨k1, E1, A1, B1⟩ : ∃ k1, ss_na h 20 4 (nI 4) = some (some (v + 1), k1) ∧ k1.1 = v + 2 ∧ ∀ y, k1.2 y = if y = v + 1 then (20, [nI 0, nI 0, nI 0, nI 0], [], []) else h.2 y := by
    refine ⟨_, by rw [← h1]; exact pb_na (by omega) (by omega), by show h.1 + 1 = _; omega, fun y => ?_⟩
    rw [← h1]
    rfl
  obtain ⟨k2, E2, A2, B2⟩ : ∃ k2, ss_pr k1 (some v) 5 0 (some (v + 1)) = some k2 ∧ k2.1 = k1.1 ∧ ∀ y, k2.2 y = if y = v then (5, [nI 0, nI 0, nI 0, nI 0, nI 0], [], [some (v + 1), none, none, none, none]) else k1.2 y := ⟨_, pb_pr (h := k1) (a := v) (c := 5) (by rw [B1, if_neg (by omega)]; exact hv) (by simp) _, rfl, fun _ => rfl⟩
  have n2 : k2.1 = v + 2 := by omega
  obtain ⟨k3, E3, A3, B3⟩ : ∃ k3, ss_na k2 20 4 (nI 4) = some (some (v + 2), k3) ∧ k3.1 = v + 3 ∧ ∀ y, k3.2 y = if y = v + 2 then (20, [nI 0, nI 0, nI 0, nI 0], [], []) else k2.2 y := by
    refine ⟨_, by rw [← n2]; exact pb_na (by omega) (by omega), by show k2.1 + 1 = _; omega, fun y => ?_⟩
    rw [← n2]
    rfl
  obtain ⟨k4, E4, A4, B4⟩ : ∃ k4, ss_pr k3 (some v) 5 1 (some (v + 2)) = some k4 ∧ k4.1 = k3.1 ∧ ∀ y, k4.2 y = if y = v then (5, [nI 0, nI 0, nI 0, nI 0, nI 0], [], [some (v + 1), some (v + 2), none, none, none]) else k3.2 y := ⟨_, pb_pr (h := k3) (a := v) (c := 5) (by rw [B3, if_neg (by omega), B2, if_pos rfl]) (by simp) _, rfl, fun _ => rfl⟩
  have n4 : k4.1 = v + 3 := by omega
  obtain ⟨k5, E5, A5, B5⟩ : ∃ k5, ss_na k4 20 8 (nI 8) = some (some (v + 3), k5) ∧ k5.1 = v + 4 ∧ ∀ y, k5.2 y = if y = v + 3 then (20, z8, [], []) else k4.2 y := by
    refine ⟨_, by rw [← n4]; exact pb_na (by omega) (by omega), by show k4.1 + 1 = _; omega, fun y => ?_⟩
    rw [← n4]
    rfl
  obtain ⟨k6, E6, A6, B6⟩ : ∃ k6, ss_pr k5 (some v) 5 2 (some (v + 3)) = some k6 ∧ k6.1 = k5.1 ∧ ∀ y, k6.2 y = if y = v then (5, [nI 0, nI 0, nI 0, nI 0, nI 0], [], [some (v + 1), some (v + 2), some (v + 3), none, none]) else k5.2 y := ⟨_, pb_pr (h := k5) (a := v) (c := 5) (by rw [B5, if_neg (by omega), B4, if_pos rfl]) (by simp) _, rfl, fun _ => rfl⟩
  have n6 : k6.1 = v + 4 := by omega
  obtain ⟨k7, E7, A7, B7⟩ : ∃ k7, ss_na k6 20 8 (nI 8) = some (some (v + 4), k7) ∧ k7.1 = v + 5 ∧ ∀ y, k7.2 y = if y = v + 4 then (20, z8, [], []) else k6.2 y := by
    refine ⟨_, by rw [← n6]; exact pb_na (by omega) (by omega), by show k6.1 + 1 = _; omega, fun y => ?_⟩
    rw [← n6]
    rfl
  obtain ⟨k8, E8, A8, B8⟩ : ∃ k8, ss_pr k7 (some v) 5 3 (some (v + 4)) = some k8 ∧ k8.1 = k7.1 ∧ ∀ y, k8.2 y = if y = v then (5, [nI 0, nI 0, nI 0, nI 0, nI 0], [], [some (v + 1), some (v + 2), some (v + 3), some (v + 4), none]) else k7.2 y := ⟨_, pb_pr (h := k7) (a := v) (c := 5) (by rw [B7, if_neg (by omega), B6, if_pos rfl]) (by simp) _, rfl, fun _ => rfl⟩
  have n8 : k8.1 = v + 5 := by omega
  obtain ⟨k9, E9, A9, B9⟩ : ∃ k9, ss_no k8 0 4 0 2 = some (some (v + 5), k9) ∧ k9.1 = v + 6 ∧ ∀ y, k9.2 y = if y = v + 5 then (0, [nI 0, nI 0, nI 0, nI 0], [], [none, none]) else k8.2 y := by
    refine ⟨ss_hn k8 (0, [nI 0, nI 0, nI 0, nI 0], [], [none, none]), ?_, by show k8.1 + 1 = _; omega, fun y => ?_⟩
    · rw [← n8]
      rfl
    · rw [← n8]
      rfl
  obtain ⟨kA, EA, AA, CA, DA, FA, BA⟩ := ga_init (N := N) (h := k9) (p := v + 5) (by rw [B9, if_pos rfl]) (by omega) hN
  rw [A9] at CA DA FA BA
  have v_A : kA.2 v = (5, [nI 0, nI 0, nI 0, nI 0, nI 0], [], [some (v + 1), some (v + 2), some (v + 3), some (v + 4), none]) := by rw [BA v (by omega) (by omega) (by omega), B9, if_neg (by omega), B8, if_pos rfl]
  obtain ⟨kB, EB, AB, BB⟩ : ∃ kB, ss_pr kA (some v) 5 4 (some (v + 5)) = some kB ∧ kB.1 = kA.1 ∧ ∀ y, kB.2 y = if y = v then (5, [nI 0, nI 0, nI 0, nI 0, nI 0], [], [some (v + 1), some (v + 2), some (v + 3), some (v + 4), some (v + 5)]) else kA.2 y := ⟨_, pb_pr v_A (by simp) _, rfl, fun _ => rfl⟩
  have up : ∀ y, y ≠ v → y ≠ v + 5 → y ≠ v + 6 → y ≠ v + 7 → kB.2 y = k7.2 y := fun y a b c d => by rw [BB, if_neg a, BA y b c d, B9, if_neg b, B8, if_neg a]
  refine ⟨kB, ?_, by omega, by rw [BB, if_pos rfl], ?_, ?_, ?_, ?_, ?_, ?_, ?_, fun y hy => ?_⟩
  · unfold mm_V_init
    simp only [pb_l2, pb_ll, nI_add, pb_mul, if_true, if_false, pb_bs, pb_b2n, pb_bz0, pb_bz1, pb_10, pb_01, is, E1, E2, E3, E4, E5, E6, E7, E8, E9, EA, EB]
  · rw [up _ (by omega) (by omega) (by omega) (by omega), B7, if_neg (by omega), B6, if_neg (by omega), B5, if_neg (by omega), B4, if_neg (by omega), B3, if_neg (by omega), B2, if_neg (by omega), B1, if_pos rfl]
  · rw [up _ (by omega) (by omega) (by omega) (by omega), B7, if_neg (by omega), B6, if_neg (by omega), B5, if_neg (by omega), B4, if_neg (by omega), B3, if_pos rfl]
  · rw [up _ (by omega) (by omega) (by omega) (by omega), B7, if_neg (by omega), B6, if_neg (by omega), B5, if_pos rfl]
  · rw [up _ (by omega) (by omega) (by omega) (by omega), B7, if_pos rfl]
  · rw [BB, if_neg (by omega)]; exact CA
  · rw [BB, if_neg (by omega)]; exact DA
  · rw [BB, if_neg (by omega)]; exact FA
  · rw [up _ (by omega) (by omega) (by omega) (by omega), B7, if_neg (by omega), B6, if_neg (by omega), B5, if_neg (by omega), B4, if_neg (by omega), B3, if_neg (by omega), B2, if_neg (by omega), B1, if_neg (by omega)]
