/-! ===== rule: the model compares; its stack ===== -/
section MC
variable {n : Nat} {f : Nat → ss_Cl} {m0 m1 m2 m3 m4 m5 m6 m7 m8 m9 m10 m11 m12 m13 m14 m15 : Int32} {dx : Int64} {tp : List Int32} {sg : List Int32} {lg : List Int32} {cl : List Int32} {cs : List Int32} {rd : List Int32} {op : List Int32} {sk : List Int64} {wd : List Int64} {sd : List Int32} {th : List Int32} {fa : List Int32} {ws : List Int32} {kp : List Int32} {li : List Int32} {pr : List Int32} {hb : List Int32} {fi : List Int32} {st : List Int32} {im : List Int32} {jf : List Int32} {jx : List Int32} {mk : List Int32} {N : Nat}
variable {T : List Nat} {r p p0 q k l d x : Nat} {S : List Nat}
theorem M_cmj (hm : mz tp T) (hq : q < T.length) (hby : T.getD q 0 = 60 ∨ T.getD q 0 = 61 ∨ T.getD q 0 = 62) {a2 : Int32} : ∃ x3, mm_M_compare_j44 N (some 118) (nI (T.getD q 0)) a2 (pm_M n f (mL (nI T.length) m1 (nI q) m3 m4 m5 m6 m7 m8 m9 m10 m11 m12 m13 m14 m15) dx tp sg lg cl cs rd op sk wd sd th fa ws kp li pr hb fi st im jf jx mk) = mm_M_compare_j105 N (some 118) (nI (T.getD q 0)) a2 x3 (pm_M n f (mL (nI T.length) m1 (nI (en T q)) m3 m4 m5 m6 m7 m8 m9 m10 m11 m12 m13 m14 m15) dx tp sg lg cl cs rd op sk wd sd th fa ws kp li pr hb fi st im jf jx mk) ∧ x3 = @ite _ (an T q) (Classical.propDecidable _) (nI 1) (nI 0) := by
  have hT := hm.1
  have he := (sgn_an hq rfl hby).2
  refine ⟨@ite _ (an T q) (Classical.propDecidable _) (nI 1) (nI 0), ?_, rfl⟩
  unfold mm_M_compare_j44 mm_M_compare_j89 mm_M_compare_j90
  by_cases h61 : T.getD q 0 = 61
  · have hna : ¬ an T q := fun y => by have := y.1; omega
    rw [if_neg hna, he, if_neg hna, h61]
    simp only [pb_l2, pb_ll, nI_add, pb_mul, if_true, if_false, pb_bs, pb_b2n, pb_bz0, pb_bz1, pb_10, pb_01, pn_is, pn_g0, pn_g1, pn_g2, pn_g3, pn_g4, pn_g5, pn_g6, pn_g9, mL_g0, mL_p0, mL_g1, mL_p1, mL_g2, mL_p2, mL_g3, mL_p3, mL_g4, mL_p4, mL_g5, mL_p5, mL_g6, mL_p6, mL_g7, mL_p7, mL_g8, mL_p8, mL_g9, mL_p9, mL_g10, mL_p10, mL_g11, mL_p11, mL_g12, mL_p12, mL_g13, mL_p13, mL_g14, mL_p14, mL_g15, mL_p15]
  · have n61 : (nI (T.getD q 0) = nI 61) = False := pb_nn h61 (by omega) (by omega)
    by_cases hq1 : q + 1 < T.length
    · have c0 : (nI T.length ≤ nI (q + 1)) = False := eq_false (nI_ge hq1 (by omega))
      have hb1 := hm.2.1 _ hq1
      have rd : (mb_8 (T.getD (q + 1) 0) = nI 61) = (T.getD (q + 1) 0 = 61) := propext (mb_eq hb1 (by omega))
      by_cases ha : an T q
      · rw [if_pos ha, he, if_pos ha, show q + 2 = q + 1 + 1 from rfl]
        simp only [pb_l2, pb_ll, nI_add, pb_mul, if_true, if_false, pb_bs, pb_b2n, pb_bz0, pb_bz1, pb_10, pb_01, pn_is, pn_g0, pn_g1, pn_g2, pn_g3, pn_g4, pn_g5, pn_g6, pn_g9, mL_g0, mL_p0, mL_g1, mL_p1, mL_g2, mL_p2, mL_g3, mL_p3, mL_g4, mL_p4, mL_g5, mL_p5, mL_g6, mL_p6, mL_g7, mL_p7, mL_g8, mL_p8, mL_g9, mL_p9, mL_g10, mL_p10, mL_g11, mL_p11, mL_g12, mL_p12, mL_g13, mL_p13, mL_g14, mL_p14, mL_g15, mL_p15, n61, c0, mz_ai hm hq1, ha.2.2, mb_nn (show 61 < 128 by omega)]
      · have e1 : (T.getD (q + 1) 0 = 61) = False := eq_false (fun y => ha ⟨by omega, hq1, y⟩)
        rw [if_neg ha, he, if_neg ha]
        simp only [pb_l2, pb_ll, nI_add, pb_mul, if_true, if_false, pb_bs, pb_b2n, pb_bz0, pb_bz1, pb_10, pb_01, pn_is, pn_g0, pn_g1, pn_g2, pn_g3, pn_g4, pn_g5, pn_g6, pn_g9, mL_g0, mL_p0, mL_g1, mL_p1, mL_g2, mL_p2, mL_g3, mL_p3, mL_g4, mL_p4, mL_g5, mL_p5, mL_g6, mL_p6, mL_g7, mL_p7, mL_g8, mL_p8, mL_g9, mL_p9, mL_g10, mL_p10, mL_g11, mL_p11, mL_g12, mL_p12, mL_g13, mL_p13, mL_g14, mL_p14, mL_g15, mL_p15, n61, c0, mz_ai hm hq1, rd, e1]
    · have c0 : (nI T.length ≤ nI (q + 1)) = True := eq_true (nI_le (by omega) (by omega))
      have hna : ¬ an T q := fun y => hq1 y.2.1
      rw [if_neg hna, he, if_neg hna]
      simp only [pb_l2, pb_ll, nI_add, pb_mul, if_true, if_false, pb_bs, pb_b2n, pb_bz0, pb_bz1, pb_10, pb_01, pn_is, pn_g0, pn_g1, pn_g2, pn_g3, pn_g4, pn_g5, pn_g6, pn_g9, mL_g0, mL_p0, mL_g1, mL_p1, mL_g2, mL_p2, mL_g3, mL_p3, mL_g4, mL_p4, mL_g5, mL_p5, mL_g6, mL_p6, mL_g7, mL_p7, mL_g8, mL_p8, mL_g9, mL_p9, mL_g10, mL_p10, mL_g11, mL_p11, mL_g12, mL_p12, mL_g13, mL_p13, mL_g14, mL_p14, mL_g15, mL_p15, n61, c0]
theorem M_cmk (hq : q < T.length) (hby : T.getD q 0 = 60 ∨ T.getD q 0 = 61 ∨ T.getD q 0 = 62) {a2 x3 : Int32} (hx : x3 = @ite _ (an T q) (Classical.propDecidable _) (nI 1) (nI 0)) (hk : k < 60) : mm_M_compare_j105 N (some 118) (nI (T.getD q 0)) a2 x3 (pm_M n f (mL m0 m1 m2 m3 m4 m5 (nI k) m7 m8 m9 m10 m11 m12 m13 m14 m15) dx tp sg lg cl cs rd op sk wd sd th fa ws kp li pr hb fi st im jf jx mk) = mm_M_compare_j152 N (some 118) (nI (cmS T q)) (pm_M n f (mL m0 m1 m2 m3 m4 m5 (nI (k + 1)) m7 m8 m9 m10 m11 m12 m13 m14 m15) dx tp sg lg cl cs rd op sk wd sd th fa ws kp li pr hb fi st im jf jx mk) := by
  unfold mm_M_compare_j105 cmS
  have n61 : (nI 61 = nI 60) = False := pb_nn (by omega) (by omega) (by omega)
  have n62 : (nI 62 = nI 60) = False := pb_nn (by omega) (by omega) (by omega)
  have n63 : (nI 62 = nI 61) = False := pb_nn (by omega) (by omega) (by omega)
  rcases hby with e | e | e
  · rw [if_pos e, e]
    by_cases ha : an T q
    · rw [if_pos ha] at hx ⊢
      subst hx
      simp only [pb_l2, pb_ll, nI_add, pb_mul, if_true, if_false, pb_bs, pb_b2n, pb_bz0, pb_bz1, pb_10, pb_01, pn_is, pn_g0, pn_g1, pn_g2, pn_g3, pn_g4, pn_g5, pn_g6, pn_g9, mL_g0, mL_p0, mL_g1, mL_p1, mL_g2, mL_p2, mL_g3, mL_p3, mL_g4, mL_p4, mL_g5, mL_p5, mL_g6, mL_p6, mL_g7, mL_p7, mL_g8, mL_p8, mL_g9, mL_p9, mL_g10, mL_p10, mL_g11, mL_p11, mL_g12, mL_p12, mL_g13, mL_p13, mL_g14, mL_p14, mL_g15, mL_p15, M_mk1 hk]
    · rw [if_neg ha] at hx ⊢
      subst hx
      simp only [pb_l2, pb_ll, nI_add, pb_mul, if_true, if_false, pb_bs, pb_b2n, pb_bz0, pb_bz1, pb_10, pb_01, pn_is, pn_g0, pn_g1, pn_g2, pn_g3, pn_g4, pn_g5, pn_g6, pn_g9, mL_g0, mL_p0, mL_g1, mL_p1, mL_g2, mL_p2, mL_g3, mL_p3, mL_g4, mL_p4, mL_g5, mL_p5, mL_g6, mL_p6, mL_g7, mL_p7, mL_g8, mL_p8, mL_g9, mL_p9, mL_g10, mL_p10, mL_g11, mL_p11, mL_g12, mL_p12, mL_g13, mL_p13, mL_g14, mL_p14, mL_g15, mL_p15, M_mk1 hk]
  · rw [if_neg (by omega), if_pos e, e]
    simp only [pb_l2, pb_ll, nI_add, pb_mul, if_true, if_false, pb_bs, pb_b2n, pb_bz0, pb_bz1, pb_10, pb_01, pn_is, pn_g0, pn_g1, pn_g2, pn_g3, pn_g4, pn_g5, pn_g6, pn_g9, mL_g0, mL_p0, mL_g1, mL_p1, mL_g2, mL_p2, mL_g3, mL_p3, mL_g4, mL_p4, mL_g5, mL_p5, mL_g6, mL_p6, mL_g7, mL_p7, mL_g8, mL_p8, mL_g9, mL_p9, mL_g10, mL_p10, mL_g11, mL_p11, mL_g12, mL_p12, mL_g13, mL_p13, mL_g14, mL_p14, mL_g15, mL_p15, M_mk1 hk, n61]
  · rw [if_neg (by omega), if_neg (by omega), e]
    by_cases ha : an T q
    · rw [if_pos ha] at hx ⊢
      subst hx
      simp only [pb_l2, pb_ll, nI_add, pb_mul, if_true, if_false, pb_bs, pb_b2n, pb_bz0, pb_bz1, pb_10, pb_01, pn_is, pn_g0, pn_g1, pn_g2, pn_g3, pn_g4, pn_g5, pn_g6, pn_g9, mL_g0, mL_p0, mL_g1, mL_p1, mL_g2, mL_p2, mL_g3, mL_p3, mL_g4, mL_p4, mL_g5, mL_p5, mL_g6, mL_p6, mL_g7, mL_p7, mL_g8, mL_p8, mL_g9, mL_p9, mL_g10, mL_p10, mL_g11, mL_p11, mL_g12, mL_p12, mL_g13, mL_p13, mL_g14, mL_p14, mL_g15, mL_p15, M_mk1 hk, n62, n63]
    · rw [if_neg ha] at hx ⊢
      subst hx
      simp only [pb_l2, pb_ll, nI_add, pb_mul, if_true, if_false, pb_bs, pb_b2n, pb_bz0, pb_bz1, pb_10, pb_01, pn_is, pn_g0, pn_g1, pn_g2, pn_g3, pn_g4, pn_g5, pn_g6, pn_g9, mL_g0, mL_p0, mL_g1, mL_p1, mL_g2, mL_p2, mL_g3, mL_p3, mL_g4, mL_p4, mL_g5, mL_p5, mL_g6, mL_p6, mL_g7, mL_p7, mL_g8, mL_p8, mL_g9, mL_p9, mL_g10, mL_p10, mL_g11, mL_p11, mL_g12, mL_p12, mL_g13, mL_p13, mL_g14, mL_p14, mL_g15, mL_p15, M_mk1 hk, n62, n63]
set_option maxRecDepth 4000 in
theorem M_cmp (hm : mz tp T) (hN : 500 < N) (hr : r < 6) (hlg : lg.length = 7) (hp : p ≤ T.length) (h0 : p0 ≤ T.length) (hb0 : blk T p0 = blk T p) (hsg : sg.length = 2400) (hk : k ≤ 60) (hl : l ≤ p) : mOut T r l sg (fun z2 z3 z4 z6 zl sg => (pm_M n f (mL (nI T.length) m1 z2 z3 z4 (nI r) z6 m7 m8 m9 m10 m11 m12 m13 m14 m15) dx tp sg (lg.set r zl) cl cs rd op sk wd sd th fa ws kp li pr hb fi st im jf jx mk)) (mm_M_compare N (some 118) (pm_M n f (mL (nI T.length) m1 (nI p0) (nI 0) m4 (nI r) (nI k) m7 m8 m9 m10 m11 m12 m13 m14 m15) dx tp sg (lg.set r (nI l)) cl cs rd op sk wd sd th fa ws kp li pr hb fi st im jf jx mk)) (rC T p k) := by
  have hT := hm.1
  have V := M_sum (m4 := m4) (l := l) (n := n) (f := f) (m1 := m1) (m7 := m7) (m8 := m8) (m9 := m9) (m10 := m10) (m11 := m11) (m12 := m12) (m13 := m13) (m14 := m14) (m15 := m15) (dx := dx) (cl := cl) (cs := cs) (rd := rd) (op := op) (sk := sk) (wd := wd) (sd := sd) (th := th) (fa := fa) (ws := ws) (kp := kp) (li := li) (pr := pr) (hb := hb) (fi := fi) (st := st) (im := im) (jf := jf) (jx := jx) (mk := mk) hm hN hr hlg hp h0 hb0 hsg hk hl
  have gV := gR_S (c := k) hT hp
  have kV := kR_Sm (T := T) (p := p) (c := k)
  unfold rC
  generalize mSm T p k = q at V gV kV ⊢
  rcases q with F | ⟨p1, E1, k1⟩
  · obtain ⟨z2, z4, z6, zl, sg2, s1, V⟩ := V
    refine ⟨z2, z4, z6, zl, sg2, s1, ?_⟩
    unfold mm_M_compare
    simp only [pb_l2, pb_ll, nI_add, pb_mul, if_true, if_false, pb_bs, pb_b2n, pb_bz0, pb_bz1, pb_10, pb_01, pn_is, pn_g0, pn_g1, pn_g2, pn_g3, pn_g4, pn_g5, pn_g6, pn_g9, mL_g0, mL_p0, mL_g1, mL_p1, mL_g2, mL_p2, mL_g3, mL_p3, mL_g4, mL_p4, mL_g5, mL_p5, mL_g6, mL_p6, mL_g7, mL_p7, mL_g8, mL_p8, mL_g9, mL_p9, mL_g10, mL_p10, mL_g11, mL_p11, mL_g12, mL_p12, mL_g13, mL_p13, mL_g14, mL_p14, mL_g15, mL_p15, V]
  · obtain ⟨p2, z4, q1, q2, V⟩ := V
    obtain ⟨g1, g2, g3, -⟩ := gV
    have hk1 := kV p1 E1 k1 rfl
    have hq := blk_ub g2
    have hs1 : (eW tk_M sg (400 * r + l) E1).length = 2400 := by rw [eW_len]; exact hsg
    have sk1 : sgK r sg (eW tk_M sg (400 * r + l) E1) := ⟨hs1, fun i hi => eW_lo _ _ _ _ (by omega)⟩
    show mOut T r l sg (fun z2 z3 z4 z6 zl sg => (pm_M n f (mL (nI T.length) m1 z2 z3 z4 (nI r) z6 m7 m8 m9 m10 m11 m12 m13 m14 m15) dx tp sg (lg.set r zl) cl cs rd op sk wd sd th fa ws kp li pr hb fi st im jf jx mk)) _ (rr_pre E1 (@ite _ (isC T (blk T p1)) (Classical.propDecidable _) _ _))
    by_cases hC : isC T (blk T p1)
    · rw [if_pos hC]
      have hs := se_0 hC.1
      have hele := en_gt hC.1
      have hep := en_ub hq
      have hble := blk_le (T := T) (p := p1)
      have hcm := cmS_b (T := T) (q := blk T p1)
      have by1 : (nI (T.getD (blk T p1) 0) = nI 60 ∨ nI (T.getD (blk T p1) 0) = nI 61 ∨ nI (T.getD (blk T p1) 0) = nI 62) := by
        rcases hC.2 with e | e | e
        · exact Or.inl (by rw [e])
        · exact Or.inr (Or.inl (by rw [e]))
        · exact Or.inr (Or.inr (by rw [e]))
      obtain ⟨x3, c1, c2⟩ := M_cmj (a2 := nI (blk T p1)) (N := N) (n := n) (f := f) (m1 := m1) (m3 := nI 0) (m4 := z4) (m5 := nI r) (m6 := nI k1) (m7 := m7) (m8 := m8) (m9 := m9) (m10 := m10) (m11 := m11) (m12 := m12) (m13 := m13) (m14 := m14) (m15 := m15) (dx := dx) (sg := eW tk_M sg (400 * r + l) E1) (lg := lg.set r (nI (l + E1.length))) (cl := cl) (cs := cs) (rd := rd) (op := op) (sk := sk) (wd := wd) (sd := sd) (th := th) (fa := fa) (ws := ws) (kp := kp) (li := li) (pr := pr) (hb := hb) (fi := fi) (st := st) (im := im) (jf := jf) (jx := jx) (mk := mk) hm hC.1 hC.2
      have hd : mm_M_compare N (some 118) (pm_M n f (mL (nI T.length) m1 (nI p0) (nI 0) m4 (nI r) (nI k) m7 m8 m9 m10 m11 m12 m13 m14 m15) dx tp sg (lg.set r (nI l)) cl cs rd op sk wd sd th fa ws kp li pr hb fi st im jf jx mk) = mm_M_compare_j105 N (some 118) (nI (T.getD (blk T p1) 0)) (nI (blk T p1)) x3 (pm_M n f (mL (nI T.length) m1 (nI (en T (blk T p1))) (nI 0) z4 (nI r) (nI k1) m7 m8 m9 m10 m11 m12 m13 m14 m15) dx tp (eW tk_M sg (400 * r + l) E1) (lg.set r (nI (l + E1.length))) cl cs rd op sk wd sd th fa ws kp li pr hb fi st im jf jx mk) := by
        rw [← c1]
        unfold mm_M_compare
        have hb1 := hm.2.1 _ hC.1
        rcases hC.2 with e | e | e
        · simp only [pb_l2, pb_ll, nI_add, pb_mul, if_true, if_false, pb_bs, pb_b2n, pb_bz0, pb_bz1, pb_10, pb_01, pn_is, pn_g0, pn_g1, pn_g2, pn_g3, pn_g4, pn_g5, pn_g6, pn_g9, mL_g0, mL_p0, mL_g1, mL_p1, mL_g2, mL_p2, mL_g3, mL_p3, mL_g4, mL_p4, mL_g5, mL_p5, mL_g6, mL_p6, mL_g7, mL_p7, mL_g8, mL_p8, mL_g9, mL_p9, mL_g10, mL_p10, mL_g11, mL_p11, mL_g12, mL_p12, mL_g13, mL_p13, mL_g14, mL_p14, mL_g15, mL_p15, V, M_see2 hm q1 q2 hN, hs, e]
        · have n1 : (nI 61 = nI 60) = False := pb_nn (by omega) (by omega) (by omega)
          simp only [pb_l2, pb_ll, nI_add, pb_mul, if_true, if_false, pb_bs, pb_b2n, pb_bz0, pb_bz1, pb_10, pb_01, pn_is, pn_g0, pn_g1, pn_g2, pn_g3, pn_g4, pn_g5, pn_g6, pn_g9, mL_g0, mL_p0, mL_g1, mL_p1, mL_g2, mL_p2, mL_g3, mL_p3, mL_g4, mL_p4, mL_g5, mL_p5, mL_g6, mL_p6, mL_g7, mL_p7, mL_g8, mL_p8, mL_g9, mL_p9, mL_g10, mL_p10, mL_g11, mL_p11, mL_g12, mL_p12, mL_g13, mL_p13, mL_g14, mL_p14, mL_g15, mL_p15, V, M_see2 hm q1 q2 hN, hs, e, n1]
        · have n1 : (nI 62 = nI 60) = False := pb_nn (by omega) (by omega) (by omega)
          have n2 : (nI 62 = nI 61) = False := pb_nn (by omega) (by omega) (by omega)
          simp only [pb_l2, pb_ll, nI_add, pb_mul, if_true, if_false, pb_bs, pb_b2n, pb_bz0, pb_bz1, pb_10, pb_01, pn_is, pn_g0, pn_g1, pn_g2, pn_g3, pn_g4, pn_g5, pn_g6, pn_g9, mL_g0, mL_p0, mL_g1, mL_p1, mL_g2, mL_p2, mL_g3, mL_p3, mL_g4, mL_p4, mL_g5, mL_p5, mL_g6, mL_p6, mL_g7, mL_p7, mL_g8, mL_p8, mL_g9, mL_p9, mL_g10, mL_p10, mL_g11, mL_p11, mL_g12, mL_p12, mL_g13, mL_p13, mL_g14, mL_p14, mL_g15, mL_p15, V, M_see2 hm q1 q2 hN, hs, e, n1, n2]
      by_cases h6 : k1 < 60
      · rw [if_pos h6]
        rw [hd, M_cmk hC.1 hC.2 c2 h6]
        have V2 := M_sum (p := en T (blk T p1)) (p0 := en T (blk T p1)) (k := k1 + 1) (l := l + E1.length) (m4 := z4) (sg := eW tk_M sg (400 * r + l) E1) (n := n) (f := f) (m1 := m1) (m7 := m7) (m8 := m8) (m9 := m9) (m10 := m10) (m11 := m11) (m12 := m12) (m13 := m13) (m14 := m14) (m15 := m15) (dx := dx) (cl := cl) (cs := cs) (rd := rd) (op := op) (sk := sk) (wd := wd) (sd := sd) (th := th) (fa := fa) (ws := ws) (kp := kp) (li := li) (pr := pr) (hb := hb) (fi := fi) (st := st) (im := im) (jf := jf) (jx := jx) (mk := mk) hm hN hr hlg hep hep rfl hs1 (by omega) (by omega)
        have G2 := gR_S (c := k1 + 1) hT hep
        generalize mSm T (en T (blk T p1)) (k1 + 1) = q at V2 G2 ⊢
        rcases q with F | ⟨p3, E2, k2⟩
        · obtain ⟨z2, z4', z6, zl, sg2, s1, V2⟩ := V2
          refine ⟨z2, z4', z6, zl, sg2, sgK_e s1, ?_⟩
          unfold mm_M_compare_j152
          simp only [pb_l2, pb_ll, nI_add, pb_mul, if_true, if_false, pb_bs, pb_b2n, pb_bz0, pb_bz1, pb_10, pb_01, pn_is, pn_g0, pn_g1, pn_g2, pn_g3, pn_g4, pn_g5, pn_g6, pn_g9, mL_g0, mL_p0, mL_g1, mL_p1, mL_g2, mL_p2, mL_g3, mL_p3, mL_g4, mL_p4, mL_g5, mL_p5, mL_g6, mL_p6, mL_g7, mL_p7, mL_g8, mL_p8, mL_g9, mL_p9, mL_g10, mL_p10, mL_g11, mL_p11, mL_g12, mL_p12, mL_g13, mL_p13, mL_g14, mL_p14, mL_g15, mL_p15, V2]
        · obtain ⟨p4, z4', q3, q4, V2⟩ := V2
          obtain ⟨b1, b2, b3, -⟩ := G2
          have hs2 : (eW tk_M (eW tk_M sg (400 * r + l) E1) (400 * r + (l + E1.length)) E2).length = 2400 := by rw [eW_len]; exact hs1
          show ∃ p1' z4', _ ∧ _ ∧ _ = some (nI 1, (pm_M n f (mL (nI T.length) m1 (nI p1') (nI 0) z4' (nI r) (nI k2) m7 m8 m9 m10 m11 m12 m13 m14 m15) dx tp (eW tk_M sg (400 * r + l) (E1 ++ (E2 ++ [(6 + cmS T (blk T p1), 0)]))) (lg.set r (nI (l + (E1 ++ (E2 ++ [(6 + cmS T (blk T p1), 0)])).length))) cl cs rd op sk wd sd th fa ws kp li pr hb fi st im jf jx mk))
          refine ⟨p4, z4', q3, q4, ?_⟩
          rw [eW_app, eW_app, List.length_append, List.length_append, show l + (E1.length + (E2.length + [(6 + cmS T (blk T p1), 0)].length)) = l + E1.length + E2.length + 1 by simp only [List.length_cons, List.length_nil]; omega, show 400 * r + l + E1.length = 400 * r + (l + E1.length) by omega, show 400 * r + (l + E1.length) + E2.length = 400 * r + (l + E1.length + E2.length) by omega]
          unfold mm_M_compare_j152
          simp only [pb_l2, pb_ll, nI_add, pb_mul, if_true, if_false, pb_bs, pb_b2n, pb_bz0, pb_bz1, pb_10, pb_01, pn_is, pn_g0, pn_g1, pn_g2, pn_g3, pn_g4, pn_g5, pn_g6, pn_g9, mL_g0, mL_p0, mL_g1, mL_p1, mL_g2, mL_p2, mL_g3, mL_p3, mL_g4, mL_p4, mL_g5, mL_p5, mL_g6, mL_p6, mL_g7, mL_p7, mL_g8, mL_p8, mL_g9, mL_p9, mL_g10, mL_p10, mL_g11, mL_p11, mL_g12, mL_p12, mL_g13, mL_p13, mL_g14, mL_p14, mL_g15, mL_p15, V2, M_puts hr hlg hs2 (show l + E1.length + E2.length < 400 by omega)]
          rfl
      · rw [if_neg h6]
        refine ⟨nI (en T (blk T p1)), z4, nI k1, nI (l + E1.length), eW tk_M sg (400 * r + l) E1, sk1, ?_⟩
        rw [hd]
        unfold mm_M_compare_j105
        simp only [pb_l2, pb_ll, nI_add, pb_mul, if_true, if_false, pb_bs, pb_b2n, pb_bz0, pb_bz1, pb_10, pb_01, pn_is, pn_g0, pn_g1, pn_g2, pn_g3, pn_g4, pn_g5, pn_g6, pn_g9, mL_g0, mL_p0, mL_g1, mL_p1, mL_g2, mL_p2, mL_g3, mL_p3, mL_g4, mL_p4, mL_g5, mL_p5, mL_g6, mL_p6, mL_g7, mL_p7, mL_g8, mL_p8, mL_g9, mL_p9, mL_g10, mL_p10, mL_g11, mL_p11, mL_g12, mL_p12, mL_g13, mL_p13, mL_g14, mL_p14, mL_g15, mL_p15, M_mk0 (show k1 = 60 by omega)]
        rfl
    · rw [if_neg hC]
      have s1 := se_ne (x := 60) hm g2 (by omega) (fun y => hC ⟨y.1, Or.inl y.2⟩)
      have s2 := se_ne (x := 61) hm g2 (by omega) (fun y => hC ⟨y.1, Or.inr (Or.inl y.2)⟩)
      have s3 := se_ne (x := 62) hm g2 (by omega) (fun y => hC ⟨y.1, Or.inr (Or.inr y.2)⟩)
      refine ⟨nI (blk T p1), z4, nI k1, nI (l + E1.length), eW tk_M sg (400 * r + l) E1, sk1, ?_⟩
      unfold mm_M_compare
      simp only [pb_l2, pb_ll, nI_add, pb_mul, if_true, if_false, pb_bs, pb_b2n, pb_bz0, pb_bz1, pb_10, pb_01, pn_is, pn_g0, pn_g1, pn_g2, pn_g3, pn_g4, pn_g5, pn_g6, pn_g9, mL_g0, mL_p0, mL_g1, mL_p1, mL_g2, mL_p2, mL_g3, mL_p3, mL_g4, mL_p4, mL_g5, mL_p5, mL_g6, mL_p6, mL_g7, mL_p7, mL_g8, mL_p8, mL_g9, mL_p9, mL_g10, mL_p10, mL_g11, mL_p11, mL_g12, mL_p12, mL_g13, mL_p13, mL_g14, mL_p14, mL_g15, mL_p15, V, M_see2 hm q1 q2 hN, s1, s2, s3, M_fail]
      rfl
end MC
def stk (op : List Int32) (S : List Nat) : Prop := op.length = 400 ∧ S.length ≤ 400 ∧ ∀ i, i < S.length → pv op i = nI (S.getD i 0)
theorem stk_push {op : List Int32} {S : List Nat} {x : Nat} (h : stk op S) (hl : S.length < 400) : stk (op.set S.length (nI x)) (S ++ [x]) := by
  refine ⟨by rw [List.length_set]; exact h.1, by simp; omega, fun i hi => ?_⟩
  have hi : i < S.length + 1 := by simpa using hi
  have hop := h.1
  rw [pv_set (by omega), List.getD_eq_getElem?_getD]
  by_cases e : i = S.length
  · rw [if_pos e, e]
    simp
  · rw [if_neg e, h.2.2 i (by omega), List.getElem?_append_left (by omega), List.getD_eq_getElem?_getD]
theorem stk_pop {op : List Int32} {S : List Nat} {x : Nat} (h : stk op (S ++ [x])) : stk op S ∧ pv op S.length = nI x ∧ S.length < 400 := by
  have hl : S.length + 1 ≤ 400 := by simpa using h.2.1
  refine ⟨⟨h.1, by omega, fun i hi => ?_⟩, ?_, by omega⟩
  · have := h.2.2 i (by simp; omega)
    rw [this, List.getD_eq_getElem?_getD, List.getElem?_append_left hi, List.getD_eq_getElem?_getD]
  · have := h.2.2 S.length (by simp)
    rw [this, List.getD_eq_getElem?_getD]
    simp
def sb (b : Bool) (x : Nat) : List Nat := if b = true then [x] else []
def sth (x : Nat) : Nat := if x = 13 then 1 else if x = 12 then 2 else if x = 11 then 3 else 0
theorem M_sth {N x : Nat} (hx : x < 1000) : mm_M_strength N (nI x) = some (nI (sth x)) := by
  unfold mm_M_strength mm_M_strength_j31 sth
  by_cases a : x = 13
  · rw [if_pos a, a]
    simp only [pb_l2, pb_ll, nI_add, pb_mul, if_true, if_false, pb_bs, pb_b2n, pb_bz0, pb_bz1, pb_10, pb_01]
  · have na : (nI x = nI 13) = False := pb_nn a (by omega) (by omega)
    rw [if_neg a]
    by_cases b : x = 12
    · rw [if_pos b]
      have nb : (nI x = nI 12) = True := eq_true (by rw [b])
      simp only [pb_l2, pb_ll, nI_add, pb_mul, if_true, if_false, pb_bs, pb_b2n, pb_bz0, pb_bz1, pb_10, pb_01, na, nb]
    · have nb : (nI x = nI 12) = False := pb_nn b (by omega) (by omega)
      rw [if_neg b]
      by_cases c : x = 11
      · rw [if_pos c]
        have nc : (nI x = nI 11) = True := eq_true (by rw [c])
        simp only [pb_l2, pb_ll, nI_add, pb_mul, if_true, if_false, pb_bs, pb_b2n, pb_bz0, pb_bz1, pb_10, pb_01, na, nb, nc]
      · have nc : (nI x = nI 11) = False := pb_nn c (by omega) (by omega)
        rw [if_neg c]
        simp only [pb_l2, pb_ll, nI_add, pb_mul, if_true, if_false, pb_bs, pb_b2n, pb_bz0, pb_bz1, pb_10, pb_01, na, nb, nc]
section MK
variable {n : Nat} {f : Nat → ss_Cl} {m0 m1 m2 m3 m4 m5 m6 m7 m8 m9 m10 m11 m12 m13 m14 m15 : Int32} {dx : Int64} {tp : List Int32} {sg : List Int32} {lg : List Int32} {cl : List Int32} {cs : List Int32} {rd : List Int32} {op : List Int32} {sk : List Int64} {wd : List Int64} {sd : List Int32} {th : List Int32} {fa : List Int32} {ws : List Int32} {kp : List Int32} {li : List Int32} {pr : List Int32} {hb : List Int32} {fi : List Int32} {st : List Int32} {im : List Int32} {jf : List Int32} {jx : List Int32} {mk : List Int32} {N : Nat}
variable {T : List Nat} {r p p0 q k l d x a : Nat} {S : List Nat}
theorem st_stop0 {aI : Int32} : mm_M_settles_b0 N (some 118) aI (pm_M n f (mL m0 m1 m2 m3 m4 m5 m6 m7 m8 (nI 0) m10 m11 m12 m13 m14 m15) dx tp sg lg cl cs rd op sk wd sd th fa ws kp li pr hb fi st im jf jx mk) = some (.inr (pm_M n f (mL m0 m1 m2 m3 m4 m5 m6 m7 m8 (nI 0) m10 m11 m12 m13 m14 m15) dx tp sg lg cl cs rd op sk wd sd th fa ws kp li pr hb fi st im jf jx mk)) := by
  have c0 : (nI 0 ≤ nI 0) = True := eq_true (nI_le (Nat.le_refl 0) (by omega))
  unfold mm_M_settles_b0
  simp only [pb_l2, pb_ll, nI_add, pb_mul, if_true, if_false, pb_bs, pb_b2n, pb_bz0, pb_bz1, pb_10, pb_01, pn_is, pn_g0, pn_g1, pn_g2, pn_g3, pn_g4, pn_g5, pn_g6, pn_g9, mL_g0, mL_p0, mL_g1, mL_p1, mL_g2, mL_p2, mL_g3, mL_p3, mL_g4, mL_p4, mL_g5, mL_p5, mL_g6, mL_p6, mL_g7, mL_p7, mL_g8, mL_p8, mL_g9, mL_p9, mL_g10, mL_p10, mL_g11, mL_p11, mL_g12, mL_p12, mL_g13, mL_p13, mL_g14, mL_p14, mL_g15, mL_p15, c0]
theorem st_stop (hs : stk op (S ++ [x])) (hx : x < 1000) (ha : sth x < a) (ha4 : a < 5) : mm_M_settles_b0 N (some 118) (nI a) (pm_M n f (mL m0 m1 m2 m3 m4 m5 m6 m7 m8 (nI (S.length + 1)) m10 m11 m12 m13 m14 m15) dx tp sg lg cl cs rd op sk wd sd th fa ws kp li pr hb fi st im jf jx mk) = some (.inr (pm_M n f (mL m0 m1 m2 m3 m4 m5 m6 m7 m8 (nI (S.length + 1)) m10 m11 m12 m13 m14 m15) dx tp sg lg cl cs rd op sk wd sd th fa ws kp li pr hb fi st im jf jx mk)) := by
  obtain ⟨s1, s2, s3⟩ := stk_pop hs
  have hop := s1.1
  have c0 : (nI (S.length + 1) ≤ nI 0) = False := eq_false (nI_ge (by omega) (by omega))
  have e1 : nI (S.length + 1) - nI 1 = nI S.length := by rw [pb_subn (by omega)]; rfl
  have c1 : (nI (sth x) < nI a) = True := eq_true (nI_lt ha (by omega))
  unfold mm_M_settles_b0
  simp (disch := ((try simp only [List.length_set, sl_len]); omega)) only [pb_l2, pb_ll, nI_add, pb_mul, if_true, if_false, pb_bs, pb_b2n, pb_bz0, pb_bz1, pb_10, pb_01, pn_is, pn_g0, pn_g1, pn_g2, pn_g3, pn_g4, pn_g5, pn_g6, pn_g9, mL_g0, mL_p0, mL_g1, mL_p1, mL_g2, mL_p2, mL_g3, mL_p3, mL_g4, mL_p4, mL_g5, mL_p5, mL_g6, mL_p6, mL_g7, mL_p7, mL_g8, mL_p8, mL_g9, mL_p9, mL_g10, mL_p10, mL_g11, mL_p11, mL_g12, mL_p12, mL_g13, mL_p13, mL_g14, mL_p14, mL_g15, mL_p15, pn_a6, c0, e1, s2, M_sth hx, c1]
theorem st_pop (hs : stk op (S ++ [x])) (hx : x < 1000) (hx11 : x ≠ 11) (ha : a ≤ sth x) (hr : r < 6) (hlg : lg.length = 7) (hsg : sg.length = 2400) (hl : l < 400) : mm_M_settles_b0 N (some 118) (nI a) (pm_M n f (mL m0 m1 m2 m3 m4 (nI r) m6 m7 m8 (nI (S.length + 1)) m10 m11 m12 m13 m14 m15) dx tp sg (lg.set r (nI l)) cl cs rd op sk wd sd th fa ws kp li pr hb fi st im jf jx mk) = some (.inl (pm_M n f (mL m0 m1 m2 m3 m4 (nI r) m6 m7 m8 (nI S.length) m10 m11 m12 m13 m14 m15) dx tp (sg.set (400 * r + l) (tk_M (x, 0))) (lg.set r (nI (l + 1))) cl cs rd op sk wd sd th fa ws kp li pr hb fi st im jf jx mk)) := by
  obtain ⟨s1, s2, s3⟩ := stk_pop hs
  have hop := s1.1
  have c0 : (nI (S.length + 1) ≤ nI 0) = False := eq_false (nI_ge (by omega) (by omega))
  have e1 : nI (S.length + 1) - nI 1 = nI S.length := by rw [pb_subn (by omega)]; rfl
  have hst : sth x < 4 := by unfold sth; split <;> (try split) <;> (try split) <;> omega
  have c1 : (nI (sth x) < nI a) = False := eq_false (nI_nlt ha (by omega))
  have c2 : (nI x = nI 11) = False := pb_nn hx11 (by omega) (by omega)
  unfold mm_M_settles_b0
  simp (disch := ((try simp only [List.length_set, sl_len]); omega)) only [pb_l2, pb_ll, nI_add, pb_mul, if_true, if_false, pb_bs, pb_b2n, pb_bz0, pb_bz1, pb_10, pb_01, pn_is, pn_g0, pn_g1, pn_g2, pn_g3, pn_g4, pn_g5, pn_g6, pn_g9, mL_g0, mL_p0, mL_g1, mL_p1, mL_g2, mL_p2, mL_g3, mL_p3, mL_g4, mL_p4, mL_g5, mL_p5, mL_g6, mL_p6, mL_g7, mL_p7, mL_g8, mL_p8, mL_g9, mL_p9, mL_g10, mL_p10, mL_g11, mL_p11, mL_g12, mL_p12, mL_g13, mL_p13, mL_g14, mL_p14, mL_g15, mL_p15, pn_a6, c0, e1, s2, M_sth hx, c1, M_puts hr hlg hsg hl, c2]
theorem st_pop11 (hs : stk op (S ++ [11])) (ha : a ≤ 3) (hr : r < 6) (hlg : lg.length = 7) (hsg : sg.length = 2400) (hl : l < 400) : mm_M_settles_b0 N (some 118) (nI a) (pm_M n f (mL m0 m1 m2 m3 m4 (nI r) m6 (nI (d + 1)) m8 (nI (S.length + 1)) m10 m11 m12 m13 m14 m15) dx tp sg (lg.set r (nI l)) cl cs rd op sk wd sd th fa ws kp li pr hb fi st im jf jx mk) = some (.inl (pm_M n f (mL m0 m1 m2 m3 m4 (nI r) m6 (nI d) m8 (nI S.length) m10 m11 m12 m13 m14 m15) dx tp (sg.set (400 * r + l) (tk_M (11, 0))) (lg.set r (nI (l + 1))) cl cs rd op sk wd sd th fa ws kp li pr hb fi st im jf jx mk)) := by
  obtain ⟨s1, s2, s3⟩ := stk_pop hs
  have hop := s1.1
  have c0 : (nI (S.length + 1) ≤ nI 0) = False := eq_false (nI_ge (by omega) (by omega))
  have e1 : nI (S.length + 1) - nI 1 = nI S.length := by rw [pb_subn (by omega)]; rfl
  have e2 : nI (d + 1) - nI 1 = nI d := by rw [pb_subn (by omega)]; rfl
  have c1 : (nI 3 < nI a) = False := eq_false (nI_nlt ha (by omega))
  have s11 : mm_M_strength N (nI 11) = some (nI 3) := M_sth (x := 11) (by omega)
  unfold mm_M_settles_b0
  simp (disch := ((try simp only [List.length_set, sl_len]); omega)) only [pb_l2, pb_ll, nI_add, pb_mul, if_true, if_false, pb_bs, pb_b2n, pb_bz0, pb_bz1, pb_10, pb_01, pn_is, pn_g0, pn_g1, pn_g2, pn_g3, pn_g4, pn_g5, pn_g6, pn_g9, mL_g0, mL_p0, mL_g1, mL_p1, mL_g2, mL_p2, mL_g3, mL_p3, mL_g4, mL_p4, mL_g5, mL_p5, mL_g6, mL_p6, mL_g7, mL_p7, mL_g8, mL_p8, mL_g9, mL_p9, mL_g10, mL_p10, mL_g11, mL_p11, mL_g12, mL_p12, mL_g13, mL_p13, mL_g14, mL_p14, mL_g15, mL_p15, pn_a6, c0, e1, s2, s11, c1, M_puts hr hlg hsg hl, e2]
theorem M_ins (hs : stk op S) (hS : ∀ i, i < S.length → S.getD i 0 < 1000) (hN : 500 < N) : mm_M_isInside N (some 118) (pm_M n f (mL m0 m1 m2 m3 m4 m5 m6 m7 m8 (nI S.length) m10 m11 m12 m13 m14 m15) dx tp sg lg cl cs rd op sk wd sd th fa ws kp li pr hb fi st im jf jx mk) = some (@ite _ (91 ∈ S) (Classical.propDecidable _) (nI 1) (nI 0)) := by
  have hop := hs.1
  have hl := hs.2.1
  have key := pb_for (body := mm_M_isInside_b2 N (some 118) (pm_M n f (mL m0 m1 m2 m3 m4 m5 m6 m7 m8 (nI S.length) m10 m11 m12 m13 m14 m15) dx tp sg lg cl cs rd op sk wd sd th fa ws kp li pr hb fi st im jf jx mk)) S.length (fun i s => s = nI i ∧ ∀ j, j < i → S.getD j 0 ≠ 91) (fun e => e = .inl () ∧ (∀ j, j < S.length → S.getD j 0 ≠ 91) ∨ e = .inr () ∧ ∃ j, j < S.length ∧ S.getD j 0 = 91) (N := N) (s := nI 0) (by omega) ⟨rfl, fun j hj => absurd hj (Nat.not_lt_zero j)⟩ (by
    rintro i s hi ⟨rfl, h2⟩
    have c0 : (nI S.length ≤ nI i) = False := eq_false (nI_ge hi (by omega))
    have e1 := hs.2.2 i hi
    have hb := hS i hi
    by_cases e : S.getD i 0 = 91
    · right
      refine ⟨.inr (), ?_, Or.inr ⟨rfl, i, hi, e⟩⟩
      rw [e] at e1
      unfold mm_M_isInside_b2
      simp (disch := ((try simp only [List.length_set, sl_len]); omega)) only [pb_l2, pb_ll, nI_add, pb_mul, if_true, if_false, pb_bs, pb_b2n, pb_bz0, pb_bz1, pb_10, pb_01, pn_is, pn_g0, pn_g1, pn_g2, pn_g3, pn_g4, pn_g5, pn_g6, pn_g9, mL_g0, mL_p0, mL_g1, mL_p1, mL_g2, mL_p2, mL_g3, mL_p3, mL_g4, mL_p4, mL_g5, mL_p5, mL_g6, mL_p6, mL_g7, mL_p7, mL_g8, mL_p8, mL_g9, mL_p9, mL_g10, mL_p10, mL_g11, mL_p11, mL_g12, mL_p12, mL_g13, mL_p13, mL_g14, mL_p14, mL_g15, mL_p15, pn_a6, c0, e1]
    · left
      have n1 : (nI (S.getD i 0) = nI 91) = False := pb_nn e (by omega) (by omega)
      refine ⟨nI (i + 1), ?_, rfl, fun j hj => ?_⟩
      · unfold mm_M_isInside_b2
        simp (disch := ((try simp only [List.length_set, sl_len]); omega)) only [pb_l2, pb_ll, nI_add, pb_mul, if_true, if_false, pb_bs, pb_b2n, pb_bz0, pb_bz1, pb_10, pb_01, pn_is, pn_g0, pn_g1, pn_g2, pn_g3, pn_g4, pn_g5, pn_g6, pn_g9, mL_g0, mL_p0, mL_g1, mL_p1, mL_g2, mL_p2, mL_g3, mL_p3, mL_g4, mL_p4, mL_g5, mL_p5, mL_g6, mL_p6, mL_g7, mL_p7, mL_g8, mL_p8, mL_g9, mL_p9, mL_g10, mL_p10, mL_g11, mL_p11, mL_g12, mL_p12, mL_g13, mL_p13, mL_g14, mL_p14, mL_g15, mL_p15, pn_a6, c0, e1, n1]
      · rcases Nat.lt_or_ge j i with y | y
        · exact h2 j y
        · rw [show j = i by omega]; exact e) (by
    rintro s ⟨rfl, h2⟩
    refine ⟨.inl (), ?_, Or.inl ⟨rfl, h2⟩⟩
    have c0 : (nI S.length ≤ nI S.length) = True := eq_true (nI_le (Nat.le_refl _) (by omega))
    unfold mm_M_isInside_b2
    simp only [pb_l2, pb_ll, nI_add, pb_mul, if_true, if_false, pb_bs, pb_b2n, pb_bz0, pb_bz1, pb_10, pb_01, pn_is, pn_g0, pn_g1, pn_g2, pn_g3, pn_g4, pn_g5, pn_g6, pn_g9, mL_g0, mL_p0, mL_g1, mL_p1, mL_g2, mL_p2, mL_g3, mL_p3, mL_g4, mL_p4, mL_g5, mL_p5, mL_g6, mL_p6, mL_g7, mL_p7, mL_g8, mL_p8, mL_g9, mL_p9, mL_g10, mL_p10, mL_g11, mL_p11, mL_g12, mL_p12, mL_g13, mL_p13, mL_g14, mL_p14, mL_g15, mL_p15, c0])
  obtain ⟨e, e1, e2⟩ := key
  unfold mm_M_isInside
  rcases e2 with ⟨rfl, e2⟩ | ⟨rfl, j, hj, e2⟩
  · have hn : ¬ 91 ∈ S := fun h => by
      obtain ⟨j, hj, ej⟩ := List.getElem_of_mem h
      refine e2 j hj ?_
      rw [List.getD_eq_getElem?_getD, List.getElem?_eq_getElem hj, ej]
      rfl
    rw [if_neg hn]
    simp only [pb_l2, pb_ll, nI_add, pb_mul, if_true, if_false, pb_bs, pb_b2n, pb_bz0, pb_bz1, pb_10, pb_01, pn_is, pn_g0, pn_g1, pn_g2, pn_g3, pn_g4, pn_g5, pn_g6, pn_g9, mL_g0, mL_p0, mL_g1, mL_p1, mL_g2, mL_p2, mL_g3, mL_p3, mL_g4, mL_p4, mL_g5, mL_p5, mL_g6, mL_p6, mL_g7, mL_p7, mL_g8, mL_p8, mL_g9, mL_p9, mL_g10, mL_p10, mL_g11, mL_p11, mL_g12, mL_p12, mL_g13, mL_p13, mL_g14, mL_p14, mL_g15, mL_p15, e1]
  · have hn : 91 ∈ S := by
      rw [List.getD_eq_getElem?_getD, List.getElem?_eq_getElem hj] at e2
      exact List.mem_of_getElem e2
    rw [if_pos hn]
    simp only [pb_l2, pb_ll, nI_add, pb_mul, if_true, if_false, pb_bs, pb_b2n, pb_bz0, pb_bz1, pb_10, pb_01, pn_is, pn_g0, pn_g1, pn_g2, pn_g3, pn_g4, pn_g5, pn_g6, pn_g9, mL_g0, mL_p0, mL_g1, mL_p1, mL_g2, mL_p2, mL_g3, mL_p3, mL_g4, mL_p4, mL_g5, mL_p5, mL_g6, mL_p6, mL_g7, mL_p7, mL_g8, mL_p8, mL_g9, mL_p9, mL_g10, mL_p10, mL_g11, mL_p11, mL_g12, mL_p12, mL_g13, mL_p13, mL_g14, mL_p14, mL_g15, mL_p15, e1]
end MK
