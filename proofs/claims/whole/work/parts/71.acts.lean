/-! ===== acts ===== -/
theorem mb_keepsAct {N : Nat} {h0 h : ss_Hp} {T : List Nat} {a : List Int32} {fo x : Int32} {RS : List (List ru_C)} {US : List (List Int32)} {I : Nat → Option (List Int32 × Int32 × Int32)} {th2 fa2 kp2 : List Int32} {dx2 : Int64} {Z : Nat → List Int32} (hc : mb_h h0 h T a fo x RS US I fo a th2 fa2 kp2 dx2 Z) (hl : a.length = 124) (hU : US.length ≤ 20) (hN : 400 < N) : ∃ h', mm_M_keepsAct N (some 118) h = some h' ∧ mb_h h0 h' T a fo x RS (sl a 10 20 :: US.take 19) I fo a th2 fa2 kp2 dx2 Z := by
  obtain ⟨n, f, mi, dx, tp, sg, lg, cl, cs, rd, op, sk, wd, sd, th, fa, ws, kp, li, pr, hb, fi, st, im, jf, jx, mk, rfl, F, hfo, ⟨w1, w2, w3, w4, w5⟩, z, hn, hf⟩ := hc
  subst w1 w2 w3 w4 w5
  obtain ⟨⟨Lmi, Ltp, Lsg, Llg, Lcl, Lcs, Lrd, Lop, Lsk, Lwd, Lth, Lfa⟩, ⟨Lws, Lkp, Lli, Lpr, Lhb, Lfi, Lst, Lim, Ljf, Ljx, Lmk⟩, ⟨Mt1, Mt2⟩, ⟨Mr1, Mr2⟩, ⟨M13, M14, Ma⟩, ⟨M15, Mu⟩, Mim⟩ := id F
  rw [List.length_set] at Lmi
  rw [pv_ne (by omega)] at Mt1 Mr1 M14 M15
  have hlU : (sl sd 10 20 :: US.take 19).length = min 19 US.length + 1 := by rw [List.length_cons, List.length_take]
  have j50 : ∀ (mi1 ws1 : List Int32) (L : Nat), mi1.length = 16 → ws1.length = 400 → pv mi1 15 = nI L → L < 20 → mm_M_keepsAct_j50 N (some 118) (pm_M n f mi1 dx tp sg lg cl cs rd op sk wd sd th fa ws1 kp li pr hb fi st im jf jx mk) = some (pm_M n f (mi1.set 15 (nI (L + 1))) dx tp sg lg cl cs rd op sk wd sd th fa (cpl ws1 sd (20 * L) 10 20) kp li pr hb fi st im jf jx mk) := by
    intro mi1 ws1 L g1 g2 g3 g4
    have e2 : ss_lp (mm_M_keepsAct_b52 N (some 118)) N (nI 0, (pm_M n f mi1 dx tp sg lg cl cs rd op sk wd sd th fa ws1 kp li pr hb fi st im jf jx mk)) = some (pm_M n f mi1 dx tp sg lg cl cs rd op sk wd sd th fa (cpl ws1 sd (20 * L) 10 20) kp li pr hb fi st im jf jx mk) := by
      refine pb_lp (fun i => (nI i, (pm_M n f mi1 dx tp sg lg cl cs rd op sk wd sd th fa (cpl ws1 sd (20 * L) 10 i) kp li pr hb fi st im jf jx mk))) 20 (by omega) (fun i hi => ?_) ?_
      · unfold mm_M_keepsAct_b52
        have h6 : ¬ nI 20 ≤ nI i := nI_ge hi (by omega)
        have h7 : 20 * L + i < (cpl ws1 sd (20 * L) 10 i).length := by rw [cpl_len]; omega
        simp (disch := ((try simp only [List.length_set]); omega)) only [pb_its, pb_l2, pb_ll, nI_add, pb_mul, if_true, if_false, pb_bs, pb_b2n, pb_bz0, pb_bz1, pb_10, pb_01, pb_i31, List.length_set, pn_is, pn_gi, pn_pi, pn_gl, pn_pl, pn_g0, pn_g1, pn_g2, pn_g3, pn_g4, pn_g5, pn_g6, pn_g7, pn_g8, pn_g9, pn_g10, pn_g11, pn_g12, pn_g13, pn_g14, pn_g15, pn_g16, pn_g17, pn_g18, pn_g19, pn_g20, pn_g21, pn_g22, pn_a0, pn_a1, pn_a2, pn_a3, pn_a4, pn_a5, pn_a6, pn_a7, pn_a8, pn_a9, pn_a10, pn_a11, pn_a12, pn_a13, pn_a14, pn_a15, pn_a16, pn_a17, pn_a18, pn_a19, pn_a20, pn_a21, pn_a22, pn_u0, pn_u1, pn_u2, pn_u3, pn_u4, pn_u5, pn_u6, pn_u7, pn_u8, pn_u9, pn_u10, pn_u11, pn_u12, pn_u13, pn_u14, pn_u15, pn_u16, pn_u17, pn_u18, pn_u19, pn_u20, pn_u21, pn_u22, h6, g3]
        rw [cpl]
      · unfold mm_M_keepsAct_b52
        simp (disch := ((try simp only [List.length_set]); omega)) only [pb_its, pb_l2, pb_ll, nI_add, pb_mul, if_true, if_false, pb_bs, pb_b2n, pb_bz0, pb_bz1, pb_10, pb_01, pb_i31, List.length_set, pn_is, pn_gi, pn_pi, pn_gl, pn_pl, pn_g0, pn_g1, pn_g2, pn_g3, pn_g4, pn_g5, pn_g6, pn_g7, pn_g8, pn_g9, pn_g10, pn_g11, pn_g12, pn_g13, pn_g14, pn_g15, pn_g16, pn_g17, pn_g18, pn_g19, pn_g20, pn_g21, pn_g22, pn_a0, pn_a1, pn_a2, pn_a3, pn_a4, pn_a5, pn_a6, pn_a7, pn_a8, pn_a9, pn_a10, pn_a11, pn_a12, pn_a13, pn_a14, pn_a15, pn_a16, pn_a17, pn_a18, pn_a19, pn_a20, pn_a21, pn_a22, pn_u0, pn_u1, pn_u2, pn_u3, pn_u4, pn_u5, pn_u6, pn_u7, pn_u8, pn_u9, pn_u10, pn_u11, pn_u12, pn_u13, pn_u14, pn_u15, pn_u16, pn_u17, pn_u18, pn_u19, pn_u20, pn_u21, pn_u22, nI_le (Nat.le_refl 20) (by omega : 20 < 2 ^ 31)]
    unfold mm_M_keepsAct_j50
    simp (disch := ((try simp only [List.length_set]); omega)) only [pb_its, pb_l2, pb_ll, nI_add, pb_mul, if_true, if_false, pb_bs, pb_b2n, pb_bz0, pb_bz1, pb_10, pb_01, pb_i31, List.length_set, pn_is, pn_gi, pn_pi, pn_gl, pn_pl, pn_g0, pn_g1, pn_g2, pn_g3, pn_g4, pn_g5, pn_g6, pn_g7, pn_g8, pn_g9, pn_g10, pn_g11, pn_g12, pn_g13, pn_g14, pn_g15, pn_g16, pn_g17, pn_g18, pn_g19, pn_g20, pn_g21, pn_g22, pn_a0, pn_a1, pn_a2, pn_a3, pn_a4, pn_a5, pn_a6, pn_a7, pn_a8, pn_a9, pn_a10, pn_a11, pn_a12, pn_a13, pn_a14, pn_a15, pn_a16, pn_a17, pn_a18, pn_a19, pn_a20, pn_a21, pn_a22, pn_u0, pn_u1, pn_u2, pn_u3, pn_u4, pn_u5, pn_u6, pn_u7, pn_u8, pn_u9, pn_u10, pn_u11, pn_u12, pn_u13, pn_u14, pn_u15, pn_u16, pn_u17, pn_u18, pn_u19, pn_u20, pn_u21, pn_u22, e2, g3]
  by_cases c : US.length = 20
  · have e1 : ss_lp (mm_M_keepsAct_b12 N (some 118)) N (nI 20, (pm_M n f mi dx tp sg lg cl cs rd op sk wd sd th fa ws kp li pr hb fi st im jf jx mk)) = some (pm_M n f mi dx tp sg lg cl cs rd op sk wd sd th fa (cpl ws ws 0 20 380) kp li pr hb fi st im jf jx mk) := by
      have st0 : (nI 20, (pm_M n f mi dx tp sg lg cl cs rd op sk wd sd th fa ws kp li pr hb fi st im jf jx mk)) = (fun i => (nI (20 + i), (pm_M n f mi dx tp sg lg cl cs rd op sk wd sd th fa (cpl ws ws 0 20 i) kp li pr hb fi st im jf jx mk))) 0 := rfl
      rw [st0]
      refine pb_lp (fun i => (nI (20 + i), (pm_M n f mi dx tp sg lg cl cs rd op sk wd sd th fa (cpl ws ws 0 20 i) kp li pr hb fi st im jf jx mk))) 380 (by omega) (fun i hi => ?_) ?_
      · unfold mm_M_keepsAct_b12
        have h6 : ¬ nI 400 ≤ nI (20 + i) := nI_ge (by omega) (by omega)
        have h7 : 20 + i < (cpl ws ws 0 20 i).length := by rw [cpl_len]; omega
        have h8 : nI (20 + i) - nI 20 = nI i := by
          rw [← nI_add, Int32.add_comm, Int32.add_sub_cancel]
        have h9 : i < (cpl ws ws 0 20 i).length := by rw [cpl_len]; omega
        have h10 : pv (cpl ws ws 0 20 i) (20 + i) = pv ws (20 + i) := by rw [cpl_pv i (by omega), if_neg (by omega)]
        simp (disch := ((try simp only [List.length_set]); omega)) only [pb_its, pb_l2, pb_ll, nI_add, pb_mul, if_true, if_false, pb_bs, pb_b2n, pb_bz0, pb_bz1, pb_10, pb_01, pb_i31, List.length_set, pn_is, pn_gi, pn_pi, pn_gl, pn_pl, pn_g0, pn_g1, pn_g2, pn_g3, pn_g4, pn_g5, pn_g6, pn_g7, pn_g8, pn_g9, pn_g10, pn_g11, pn_g12, pn_g13, pn_g14, pn_g15, pn_g16, pn_g17, pn_g18, pn_g19, pn_g20, pn_g21, pn_g22, pn_a0, pn_a1, pn_a2, pn_a3, pn_a4, pn_a5, pn_a6, pn_a7, pn_a8, pn_a9, pn_a10, pn_a11, pn_a12, pn_a13, pn_a14, pn_a15, pn_a16, pn_a17, pn_a18, pn_a19, pn_a20, pn_a21, pn_a22, pn_u0, pn_u1, pn_u2, pn_u3, pn_u4, pn_u5, pn_u6, pn_u7, pn_u8, pn_u9, pn_u10, pn_u11, pn_u12, pn_u13, pn_u14, pn_u15, pn_u16, pn_u17, pn_u18, pn_u19, pn_u20, pn_u21, pn_u22, h6, h8, h10]
        rw [cpl, Nat.zero_add]
        rfl
      · unfold mm_M_keepsAct_b12
        simp (disch := ((try simp only [List.length_set]); omega)) only [pb_its, pb_l2, pb_ll, nI_add, pb_mul, if_true, if_false, pb_bs, pb_b2n, pb_bz0, pb_bz1, pb_10, pb_01, pb_i31, List.length_set, pn_is, pn_gi, pn_pi, pn_gl, pn_pl, pn_g0, pn_g1, pn_g2, pn_g3, pn_g4, pn_g5, pn_g6, pn_g7, pn_g8, pn_g9, pn_g10, pn_g11, pn_g12, pn_g13, pn_g14, pn_g15, pn_g16, pn_g17, pn_g18, pn_g19, pn_g20, pn_g21, pn_g22, pn_a0, pn_a1, pn_a2, pn_a3, pn_a4, pn_a5, pn_a6, pn_a7, pn_a8, pn_a9, pn_a10, pn_a11, pn_a12, pn_a13, pn_a14, pn_a15, pn_a16, pn_a17, pn_a18, pn_a19, pn_a20, pn_a21, pn_a22, pn_u0, pn_u1, pn_u2, pn_u3, pn_u4, pn_u5, pn_u6, pn_u7, pn_u8, pn_u9, pn_u10, pn_u11, pn_u12, pn_u13, pn_u14, pn_u15, pn_u16, pn_u17, pn_u18, pn_u19, pn_u20, pn_u21, pn_u22, nI_le (Nat.le_refl 400) (by omega : 400 < 2 ^ 31)]
    have e15 : pv (mi.set 15 (nI 19)) 15 = nI 19 := pv_eq (by omega)
    have j := j50 (mi.set 15 (nI 19)) (cpl ws ws 0 20 380) 19 (by rw [List.length_set]; exact Lmi) (by rw [cpl_len]; exact Lws) e15 (by omega)
    have n19 : nI 20 - nI 1 = nI 19 := nI_pred 19
    rw [c] at M15
    refine ⟨(pm_M n f ((mi.set 15 (nI 19)).set 15 (nI (19 + 1))) dx tp sg lg cl cs rd op sk wd sd th fa (cpl (cpl ws ws 0 20 380) sd (20 * 19) 10 20) kp li pr hb fi st im jf jx mk), by unfold mm_M_keepsAct; simp (disch := ((try simp only [List.length_set]); omega)) only [pb_its, pb_l2, pb_ll, nI_add, pb_mul, if_true, if_false, pb_bs, pb_b2n, pb_bz0, pb_bz1, pb_10, pb_01, pb_i31, List.length_set, pn_is, pn_gi, pn_pi, pn_gl, pn_pl, pn_g0, pn_g1, pn_g2, pn_g3, pn_g4, pn_g5, pn_g6, pn_g7, pn_g8, pn_g9, pn_g10, pn_g11, pn_g12, pn_g13, pn_g14, pn_g15, pn_g16, pn_g17, pn_g18, pn_g19, pn_g20, pn_g21, pn_g22, pn_a0, pn_a1, pn_a2, pn_a3, pn_a4, pn_a5, pn_a6, pn_a7, pn_a8, pn_a9, pn_a10, pn_a11, pn_a12, pn_a13, pn_a14, pn_a15, pn_a16, pn_a17, pn_a18, pn_a19, pn_a20, pn_a21, pn_a22, pn_u0, pn_u1, pn_u2, pn_u3, pn_u4, pn_u5, pn_u6, pn_u7, pn_u8, pn_u9, pn_u10, pn_u11, pn_u12, pn_u13, pn_u14, pn_u15, pn_u16, pn_u17, pn_u18, pn_u19, pn_u20, pn_u21, pn_u22, M15, e1, n19, j], n, f, _, dx, tp, sg, lg, cl, cs, rd, op, sk, wd, sd, th, fa, _, kp, li, pr, hb, fi, st, im, jf, jx, mk, rfl, ⟨⟨by simp only [List.length_set]; exact Lmi, Ltp, Lsg, Llg, Lcl, Lcs, Lrd, Lop, Lsk, Lwd, Lth, Lfa⟩, ⟨by rw [cpl_len, cpl_len]; exact Lws, Lkp, Lli, Lpr, Lhb, Lfi, Lst, Lim, Ljf, Ljx, Lmk⟩, ⟨by rw [pv_ne (by omega), pv_ne (by omega), pv_ne (by omega)]; exact Mt1, Mt2⟩, ⟨by rw [pv_ne (by omega), pv_ne (by omega), pv_ne (by omega)]; exact Mr1, Mr2⟩, ⟨pv_eq (by simp only [List.length_set]; omega), by rw [pv_ne (by omega), pv_ne (by omega), pv_ne (by omega)]; exact M14, rfl⟩, ⟨by rw [pv_ne (by omega), pv_eq (by first | omega | (simp only [List.length_set]; omega)), hlU]; congr 1; omega, fun j hj i hi => ?_⟩, Mim⟩, by rw [pv_ne (by omega), pv_ne (by omega)]; exact hfo, ⟨rfl, rfl, rfl, rfl, rfl⟩, z, hn, hf⟩
    rw [hlU, c] at hj
    rw [hlU, c, cpl_pv 20 (by rw [cpl_len]; omega)]
    cases j with
    | zero =>
      rw [if_pos (by omega)]
      show pv sd _ = pv (sl sd 10 20) i
      rw [sl_pv hi]
      exact congrArg (pv sd) (by omega)
    | succ j =>
      have eu : (sl sd 10 20 :: US.take 19).getD (j + 1) [] = US.getD j [] := by
        rw [List.getD_cons_succ, List.getD_eq_getElem?_getD, List.getD_eq_getElem?_getD, List.getElem?_take_of_lt (by omega)]
      rw [if_neg (by omega), eu, cpl_pv 380 (by omega), if_pos (by omega), ← Mu j (by omega) i hi, c]
      exact congrArg (pv ws) (by omega)
  · have n20 : ¬ nI US.length = nI 20 := fun e => c ((nI_eq (by omega) (by omega)).mp e)
    have j := j50 mi ws US.length Lmi Lws M15 (by omega)
    refine ⟨(pm_M n f (mi.set 15 (nI (US.length + 1))) dx tp sg lg cl cs rd op sk wd sd th fa (cpl ws sd (20 * US.length) 10 20) kp li pr hb fi st im jf jx mk), by unfold mm_M_keepsAct; simp (disch := ((try simp only [List.length_set]); omega)) only [pb_its, pb_l2, pb_ll, nI_add, pb_mul, if_true, if_false, pb_bs, pb_b2n, pb_bz0, pb_bz1, pb_10, pb_01, pb_i31, List.length_set, pn_is, pn_gi, pn_pi, pn_gl, pn_pl, pn_g0, pn_g1, pn_g2, pn_g3, pn_g4, pn_g5, pn_g6, pn_g7, pn_g8, pn_g9, pn_g10, pn_g11, pn_g12, pn_g13, pn_g14, pn_g15, pn_g16, pn_g17, pn_g18, pn_g19, pn_g20, pn_g21, pn_g22, pn_a0, pn_a1, pn_a2, pn_a3, pn_a4, pn_a5, pn_a6, pn_a7, pn_a8, pn_a9, pn_a10, pn_a11, pn_a12, pn_a13, pn_a14, pn_a15, pn_a16, pn_a17, pn_a18, pn_a19, pn_a20, pn_a21, pn_a22, pn_u0, pn_u1, pn_u2, pn_u3, pn_u4, pn_u5, pn_u6, pn_u7, pn_u8, pn_u9, pn_u10, pn_u11, pn_u12, pn_u13, pn_u14, pn_u15, pn_u16, pn_u17, pn_u18, pn_u19, pn_u20, pn_u21, pn_u22, M15, n20, j], n, f, _, dx, tp, sg, lg, cl, cs, rd, op, sk, wd, sd, th, fa, _, kp, li, pr, hb, fi, st, im, jf, jx, mk, rfl, ⟨⟨by simp only [List.length_set]; exact Lmi, Ltp, Lsg, Llg, Lcl, Lcs, Lrd, Lop, Lsk, Lwd, Lth, Lfa⟩, ⟨by rw [cpl_len]; exact Lws, Lkp, Lli, Lpr, Lhb, Lfi, Lst, Lim, Ljf, Ljx, Lmk⟩, ⟨by rw [pv_ne (by omega), pv_ne (by omega)]; exact Mt1, Mt2⟩, ⟨by rw [pv_ne (by omega), pv_ne (by omega)]; exact Mr1, Mr2⟩, ⟨pv_eq (by simp only [List.length_set]; omega), by rw [pv_ne (by omega), pv_ne (by omega)]; exact M14, rfl⟩, ⟨by rw [pv_ne (by omega), pv_eq (by first | omega | (simp only [List.length_set]; omega)), hlU]; congr 1; omega, fun j hj i hi => ?_⟩, Mim⟩, by rw [pv_ne (by omega)]; exact hfo, ⟨rfl, rfl, rfl, rfl, rfl⟩, z, hn, hf⟩
    rw [hlU] at hj
    rw [hlU, cpl_pv 20 (by omega)]
    cases j with
    | zero =>
      rw [if_pos (by omega)]
      show pv sd _ = pv (sl sd 10 20) i
      rw [sl_pv hi]
      exact congrArg (pv sd) (by omega)
    | succ j =>
      have eu : (sl sd 10 20 :: US.take 19).getD (j + 1) [] = US.getD j [] := by
        rw [List.getD_cons_succ, List.getD_eq_getElem?_getD, List.getD_eq_getElem?_getD, List.getElem?_take_of_lt (by omega)]
      rw [if_neg (by omega), eu, ← Mu j (by omega) i hi]
      exact congrArg (pv ws) (by omega)
theorem mb_undo {N : Nat} {h0 h : ss_Hp} {T : List Nat} {a u : List Int32} {fo x : Int32} {RS : List (List ru_C)} {US : List (List Int32)} {I : Nat → Option (List Int32 × Int32 × Int32)} {th2 fa2 kp2 : List Int32} {dx2 : Int64} {Z : Nat → List Int32} (hc : mb_h h0 h T a fo x RS (u :: US) I fo a th2 fa2 kp2 dx2 Z) (hl : a.length = 124) (hu : u.length = 20) (hU : US.length < 20) (hN : 400 < N) : ∃ h', mm_M_undo N (some 118) h = some (nI US.length, h') ∧ mb_h h0 h' T (sa_lay a u) fo x RS US I fo (sa_lay a u) th2 fa2 kp2 dx2 Z := by
  obtain ⟨n, f, mi, dx, tp, sg, lg, cl, cs, rd, op, sk, wd, sd, th, fa, ws, kp, li, pr, hb, fi, st, im, jf, jx, mk, rfl, F, hfo, ⟨w1, w2, w3, w4, w5⟩, z, hn, hf⟩ := hc
  subst w1 w2 w3 w4 w5
  obtain ⟨⟨Lmi, Ltp, Lsg, Llg, Lcl, Lcs, Lrd, Lop, Lsk, Lwd, Lth, Lfa⟩, ⟨Lws, Lkp, Lli, Lpr, Lhb, Lfi, Lst, Lim, Ljf, Ljx, Lmk⟩, ⟨Mt1, Mt2⟩, ⟨Mr1, Mr2⟩, ⟨M13, M14, Ma⟩, ⟨M15, Mu⟩, Mim⟩ := id F
  rw [List.length_set] at Lmi
  rw [pv_ne (by omega)] at Mt1 Mr1 M14 M15
  have hlU : (u :: US).length = US.length + 1 := List.length_cons
  have Mu0 := Mu 0 (by omega)
  rw [hlU] at Mu0
  have e : cpl sd ws 10 (20 * US.length) 20 = sa_lay sd u := pv_ext (by rw [cpl_len, sa_lay_len hl hu, hl]) (fun i hi => by
    rw [cpl_pv 20 (by omega), sa_lay_pv hl hu]
    by_cases c : i < 10 ∨ 30 ≤ i
    · rw [if_pos c, if_neg (by omega)]
    · rw [if_neg c, if_pos (by omega)]
      have := Mu0 (i - 10) (by omega)
      rw [show 20 * (US.length + 1 - 1 - 0) = 20 * US.length by omega] at this
      exact this)
  have e15 : pv (mi.set 15 (nI US.length)) 15 = nI US.length := pv_eq (by omega)
  have e2 : ss_lp (mm_M_undo_b21 N (some 118)) N (nI 0, (pm_M n f (mi.set 15 (nI US.length)) dx tp sg lg cl cs rd op sk wd sd th fa ws kp li pr hb fi st im jf jx mk)) = some (pm_M n f (mi.set 15 (nI US.length)) dx tp sg lg cl cs rd op sk wd (cpl sd ws 10 (20 * US.length) 20) th fa ws kp li pr hb fi st im jf jx mk) := by
    refine pb_lp (fun i => (nI i, (pm_M n f (mi.set 15 (nI US.length)) dx tp sg lg cl cs rd op sk wd (cpl sd ws 10 (20 * US.length) i) th fa ws kp li pr hb fi st im jf jx mk))) 20 (by omega) (fun i hi => ?_) ?_
    · unfold mm_M_undo_b21
      have h6 : ¬ nI 20 ≤ nI i := nI_ge hi (by omega)
      have h7 : 10 + i < (cpl sd ws 10 (20 * US.length) i).length := by rw [cpl_len]; omega
      simp (disch := ((try simp only [List.length_set]); omega)) only [pb_its, pb_l2, pb_ll, nI_add, pb_mul, if_true, if_false, pb_bs, pb_b2n, pb_bz0, pb_bz1, pb_10, pb_01, pb_i31, List.length_set, pn_is, pn_gi, pn_pi, pn_gl, pn_pl, pn_g0, pn_g1, pn_g2, pn_g3, pn_g4, pn_g5, pn_g6, pn_g7, pn_g8, pn_g9, pn_g10, pn_g11, pn_g12, pn_g13, pn_g14, pn_g15, pn_g16, pn_g17, pn_g18, pn_g19, pn_g20, pn_g21, pn_g22, pn_a0, pn_a1, pn_a2, pn_a3, pn_a4, pn_a5, pn_a6, pn_a7, pn_a8, pn_a9, pn_a10, pn_a11, pn_a12, pn_a13, pn_a14, pn_a15, pn_a16, pn_a17, pn_a18, pn_a19, pn_a20, pn_a21, pn_a22, pn_u0, pn_u1, pn_u2, pn_u3, pn_u4, pn_u5, pn_u6, pn_u7, pn_u8, pn_u9, pn_u10, pn_u11, pn_u12, pn_u13, pn_u14, pn_u15, pn_u16, pn_u17, pn_u18, pn_u19, pn_u20, pn_u21, pn_u22, h6, e15]
      rw [cpl]
    · unfold mm_M_undo_b21
      simp (disch := ((try simp only [List.length_set]); omega)) only [pb_its, pb_l2, pb_ll, nI_add, pb_mul, if_true, if_false, pb_bs, pb_b2n, pb_bz0, pb_bz1, pb_10, pb_01, pb_i31, List.length_set, pn_is, pn_gi, pn_pi, pn_gl, pn_pl, pn_g0, pn_g1, pn_g2, pn_g3, pn_g4, pn_g5, pn_g6, pn_g7, pn_g8, pn_g9, pn_g10, pn_g11, pn_g12, pn_g13, pn_g14, pn_g15, pn_g16, pn_g17, pn_g18, pn_g19, pn_g20, pn_g21, pn_g22, pn_a0, pn_a1, pn_a2, pn_a3, pn_a4, pn_a5, pn_a6, pn_a7, pn_a8, pn_a9, pn_a10, pn_a11, pn_a12, pn_a13, pn_a14, pn_a15, pn_a16, pn_a17, pn_a18, pn_a19, pn_a20, pn_a21, pn_a22, pn_u0, pn_u1, pn_u2, pn_u3, pn_u4, pn_u5, pn_u6, pn_u7, pn_u8, pn_u9, pn_u10, pn_u11, pn_u12, pn_u13, pn_u14, pn_u15, pn_u16, pn_u17, pn_u18, pn_u19, pn_u20, pn_u21, pn_u22, nI_le (Nat.le_refl 20) (by omega : 20 < 2 ^ 31)]
  have n1 : ¬ nI (US.length + 1) = nI 0 := fun e => by
    have := (nI_eq (by omega) (by omega)).mp e
    omega
  have n3 : nI (US.length + 1) - nI 1 = nI US.length := nI_pred US.length
  rw [hlU] at M15
  rw [e] at e2
  refine ⟨(pm_M n f (mi.set 15 (nI US.length)) dx tp sg lg cl cs rd op sk wd (sa_lay sd u) th fa ws kp li pr hb fi st im jf jx mk), by unfold mm_M_undo; simp (disch := ((try simp only [List.length_set]); omega)) only [pb_its, pb_l2, pb_ll, nI_add, pb_mul, if_true, if_false, pb_bs, pb_b2n, pb_bz0, pb_bz1, pb_10, pb_01, pb_i31, List.length_set, pn_is, pn_gi, pn_pi, pn_gl, pn_pl, pn_g0, pn_g1, pn_g2, pn_g3, pn_g4, pn_g5, pn_g6, pn_g7, pn_g8, pn_g9, pn_g10, pn_g11, pn_g12, pn_g13, pn_g14, pn_g15, pn_g16, pn_g17, pn_g18, pn_g19, pn_g20, pn_g21, pn_g22, pn_a0, pn_a1, pn_a2, pn_a3, pn_a4, pn_a5, pn_a6, pn_a7, pn_a8, pn_a9, pn_a10, pn_a11, pn_a12, pn_a13, pn_a14, pn_a15, pn_a16, pn_a17, pn_a18, pn_a19, pn_a20, pn_a21, pn_a22, pn_u0, pn_u1, pn_u2, pn_u3, pn_u4, pn_u5, pn_u6, pn_u7, pn_u8, pn_u9, pn_u10, pn_u11, pn_u12, pn_u13, pn_u14, pn_u15, pn_u16, pn_u17, pn_u18, pn_u19, pn_u20, pn_u21, pn_u22, M15, n1, n3, e2, e15], n, f, _, dx, tp, sg, lg, cl, cs, rd, op, sk, wd, _, th, fa, ws, kp, li, pr, hb, fi, st, im, jf, jx, mk, rfl, ⟨⟨by simp only [List.length_set]; exact Lmi, Ltp, Lsg, Llg, Lcl, Lcs, Lrd, Lop, Lsk, Lwd, Lth, Lfa⟩, ⟨Lws, Lkp, Lli, Lpr, Lhb, Lfi, Lst, Lim, Ljf, Ljx, Lmk⟩, ⟨by rw [pv_ne (by omega), pv_ne (by omega)]; exact Mt1, Mt2⟩, ⟨by rw [pv_ne (by omega), pv_ne (by omega)]; exact Mr1, Mr2⟩, ⟨pv_eq (by simp only [List.length_set]; omega), by rw [pv_ne (by omega), pv_ne (by omega)]; exact M14, rfl⟩, ⟨by rw [pv_ne (by omega), pv_eq (by omega)], fun j hj i hi => ?_⟩, Mim⟩, by rw [pv_ne (by omega)]; exact hfo, ⟨rfl, rfl, rfl, rfl, rfl⟩, z, hn, hf⟩
  have := Mu (j + 1) (by omega) i hi
  rw [hlU, show US.length + 1 - 1 - (j + 1) = US.length - 1 - j by omega] at this
  exact this
theorem sd_ok_act {a b : List Int32} {k m d d' : Nat} (h : sd_ok a k m d) (hl : b.length = 124) (e : ∀ j, j < 10 ∨ 30 ≤ j → pv b j = pv a j) (hd : d' ≤ 999) (h10' : pv b 10 = nI d') (hsn : ∀ s, s < 8 → ∃ q, q ≤ 999 ∧ pv b (14 + s) = nI q ∧ (k ≤ s → q = 0)) (h13 : ∃ q, q < 16 ∧ pv b 13 = nI q) (hw : ∀ s, s < k → pv b (22 + s) = -nI 1 ∨ ∃ t, t < k ∧ pv b (22 + s) = nI t) : sd_ok b k m d' := by
  obtain ⟨⟨g1, ⟨g2, g3⟩, ⟨g4, g5⟩, ⟨g6, g7⟩, g8, g9, g10⟩, h2, h3, h4, h5, h6, ⟨q, q1, q2, q3⟩, ⟨h8, h8'⟩, h9, h10⟩ := h
  refine ⟨⟨hl, ⟨g2, by rw [e 2 (by omega)]; exact g3⟩, ⟨g4, by rw [e 3 (by omega)]; exact g5⟩, ⟨by omega, h10'⟩, fun s hs => ?_, fun s hs => by rw [e _ (by omega)]; exact g9 s hs, fun i hi => by rw [e _ (by omega)]; exact g10 i hi⟩, hsn, fun i hi => by rw [e _ (by omega)]; exact h3 i hi, h13, hd, fun s hs hn => ?_, ⟨q, q1, by rw [e _ (by omega)]; exact q2, fun i hi => by rw [e _ (by omega), e _ (by omega)]; exact q3 i hi⟩, ⟨fun s hs => by rw [e _ (by omega)]; exact h8 s hs, fun s hs => by rw [e _ (by omega)]; exact h8' s hs⟩, fun q hq => by rw [e _ (by omega)]; exact h9 q hq, by rw [e 0 (by omega), e 1 (by omega)]; exact h10⟩
  · rcases hw s hs with q | q
    · left
      rw [q]
      exact pb_m1
    · exact Or.inr q
  · rcases hw s hs with q | ⟨t, t1, t2⟩
    · exact q
    · rw [t2] at hn
      exact absurd hn (nI_nlt (by omega) (by omega))
theorem sd_walls {a : List Int32} {k m d : Nat} (h : sd_ok a k m d) : ∀ s, s < k → pv a (22 + s) = -nI 1 ∨ ∃ t, t < k ∧ pv a (22 + s) = nI t := fun s hs => by
  rcases h.1.2.2.2.2.1 s hs with q | q
  · exact Or.inl (h.2.2.2.2.2.1 s hs q)
  · exact Or.inr q
theorem sd_of_R {a b : List Int32} {k m d d' : Nat} (h : sd_ok a k m d) (hR : sa_R b k m d') (hd : d' ≤ 999) (e : ∀ j, j < 10 ∨ 22 ≤ j → pv b j = pv a j) : sd_ok b k m d' := by
  refine sd_ok_act h hR.1.1 (fun j hj => e j (by omega)) hd hR.1.2.2.2.1.2 hR.2.1 hR.2.2.2.2.2 (fun s hs => ?_)
  rw [e _ (by omega)]
  exact sd_walls h s hs
theorem as_act {T : List Nat} {a : List Int32} {fo x : Int32} {RS : List (List ru_C)} {US : List (List Int32)} {I : Nat → Option (List Int32 × Int32 × Int32)} {b : List Int32} (ha : as_ok T a fo x RS US I) (ht : ¬ pv a 0 ≤ nI 0) (hb : ∀ k m d, sd_ok a k m d → ∃ d', sd_ok b k m d') (e : ∀ j, j < 10 ∨ 30 ≤ j → pv b j = pv a j) : as_ok T b fo x RS (sl a 10 20 :: US.take 19) I := by
  obtain ⟨ht1, ⟨k, m, d, h1, h2, h3⟩, h4⟩ := ha
  have hla : a.length = 124 := h1.1.1
  obtain ⟨d', hb'⟩ := hb k m d h1
  have hlb : b.length = 124 := hb'.1.1
  have ht' : ¬ pv b 0 ≤ nI 0 := by rw [e 0 (by omega)]; exact ht
  refine ⟨ht1, ⟨k, m, d', hb', ?_, fun j hj => ?_⟩, h4⟩
  · simp only [List.length_cons, List.length_take]
    omega
  · cases j with
    | zero =>
      refine ⟨sl_len _ _ _, ht', d, ?_⟩
      show sd_ok (sa_lay b (sl a 10 20)) k m d
      rw [sa_back hla hlb e]
      exact h1
    | succ j =>
      have hj' : j < US.length ∧ j < 19 := by
        simp only [List.length_cons, List.length_take] at hj
        omega
      have eu : (sl a 10 20 :: US.take 19).getD (j + 1) [] = US.getD j [] := by
        rw [List.getD_cons_succ, List.getD_eq_getElem?_getD, List.getD_eq_getElem?_getD, List.getElem?_take_of_lt hj'.2]
      rw [eu]
      obtain ⟨g1, g2, d2, g3⟩ := h3 j hj'.1
      refine ⟨g1, ht', d2, ?_⟩
      have el : sa_lay b (US.getD j []) = sa_lay a (US.getD j []) := pv_ext (by rw [sa_lay_len hlb g1, sa_lay_len hla g1]) (fun i hi => by
        rw [sa_lay_pv hlb g1, sa_lay_pv hla g1]
        by_cases c : i < 10 ∨ 30 ≤ i
        · rw [if_pos c, if_pos c, e i c]
        · rw [if_neg c, if_neg c])
      rw [el]
      exact g3
theorem jx_undo {N : Nat} {h h2 : ss_Hp} {T : List Nat} {a : List Int32} {fo x : Int32} {RS : List (List ru_C)} {US : List (List Int32)} {I : Nat → Option (List Int32 × Int32 × Int32)} (hc : cl_h h T a fo x RS US I) (hm : mo_h h2 T a fo x RS US I) (ha : as_ok T a fo x RS US I) (hN : 5000 < N) : jo (mm_S_undo N (some 0) h) (mm_M_undo N (some 118) h2) h h2 := by
  obtain ⟨Z, hb⟩ := cb_of hc
  obtain ⟨v, ⟨⟨bV, bI, bT, bF, bD, bS, bH⟩, ⟨bR0, bR1, bR2, bR3, bR4⟩, ⟨bFo, bX, bNo⟩, ⟨bG0, bG1, bG2, bG3⟩, bOwn, bStr, bBes, bSn, bWl, bNd, bCl⟩⟩ := cb_r hb
  have hk := cb_ck hb
  obtain ⟨th, fa, kp, dx, Y, hm1⟩ := mb_of hm
  have hk2 := mb_mk hm1
  have ha0 := ha
  obtain ⟨⟨Ht1, Ht2⟩, ⟨k, m, d, Hsd, Hul, Hu⟩, HRS, Hfo, Hx, HI⟩ := ha
  have Hok := Hsd.1
  obtain ⟨Hl, ⟨Hk, H2⟩, ⟨Hm, H3⟩, ⟨Hd, H10⟩, Hwl, Hbe, How⟩ := Hok
  cases US with
  | nil =>
    have r3 := (cb_more hb).2.2.1
    have q5 := (mb_gi hm1).2.2.2.2
    have e0 : ([] : List (List Int32)).length = 0 := rfl
    rw [e0] at r3 q5
    refine jo_no hc hm ha0 (r := -nI 1) ?_ ?_
    · unfold mm_S_undo mm_A_takeBack
      simp (disch := omega) only [pb_its, pb_l2, pb_ll, nI_add, pb_mul, if_true, if_false, pb_bs, pb_b2n, pb_bz0, pb_bz1, pb_10, pb_01, pb_i31, ck_is0 hk, ck_r0_0 hk, ck_r0_1 hk, ck_r0_2 hk, ck_r0_3 hk, ck_r0_4 hk, ck_r0_5 hk, ck_r0_6 hk, ck_r0_7 hk, ck_r0_8 hk, ck_r0_9 hk, ck_is1 hk, ck_r1_0 hk, ck_is3 hk, ck_r3_0 hk, ck_r3_1 hk, ck_is20 hk, ck_r20_0 hk, ck_r20_1 hk, ck_r20_2 hk, ck_is24 hk, ck_r24_1 hk, ck_r24_2 hk, ck_r24_3 hk, ck_r24_4 hk, ck_is33 hk, ck_r33_0 hk, ck_r33_1 hk, ck_is40 hk, ck_r40_0 hk, ck_is102 hk, ck_r102_0 hk, ck_r102_1 hk, ck_r102_2 hk, ck_r102_3 hk, ck_r102_4 hk, ck_r102_5 hk, ck_is103 hk, ck_r103_0 hk, ck_r103_1 hk, ck_is111 hk, ck_r111_0 hk, ck_r111_1 hk, ck_r111_2 hk, ck_r111_3 hk, ck_r111_4 hk, ck_is114 hk, ck_r114_0 hk, ck_r114_1 hk, ck_r114_2 hk, ck_r114_3 hk, ck_r114_4 hk, bV, bI, bT, bF, bD, bS, bH, bR0, bR1, bR2, bR3, bR4, bFo, bX, bNo, bG0, bG1, bG2, bG3, r3]
    · unfold mm_M_undo
      simp (disch := omega) only [pb_its, pb_l2, pb_ll, nI_add, pb_mul, if_true, if_false, pb_bs, pb_b2n, pb_bz0, pb_bz1, pb_10, pb_01, pb_i31, mk_is hk2, mk_g0 hk2, mk_g1 hk2, mk_g2 hk2, mk_g3 hk2, mk_g4 hk2, mk_g5 hk2, mk_g6 hk2, mk_g7 hk2, mk_g8 hk2, mk_g9 hk2, mk_g10 hk2, mk_g11 hk2, mk_g12 hk2, mk_g13 hk2, mk_g14 hk2, mk_g15 hk2, mk_g16 hk2, mk_g17 hk2, mk_g18 hk2, mk_g19 hk2, mk_g20 hk2, mk_g21 hk2, mk_g22 hk2, q5]
  | cons u US =>
    have hU : US.length < 20 := by
      rw [List.length_cons] at Hul
      omega
    obtain ⟨u1, u2, d', u3⟩ := Hu 0 (by rw [List.length_cons]; omega)
    have u1 : u.length = 20 := u1
    have u3 : sd_ok (sa_lay a u) k m d' := u3
    obtain ⟨h', e1, c1⟩ := cb_undo (N := N) hb Hl u1 hU
    obtain ⟨g', f1, m1⟩ := mb_undo (N := N) hm1 Hl u1 hU (by omega)
    have hp : ∀ j, j < 10 ∨ 30 ≤ j → pv (sa_lay a u) j = pv a j := fun j hj => by rw [sa_lay_pv Hl u1, if_pos hj]
    refine jo_st (T := T) (a := sa_lay a u) (fo := fo) (x := x) (RS := RS) (US := US) (I := I) ⟨⟨Ht1, Ht2⟩, ⟨k, m, d', u3, by omega, fun j hj => ?_⟩, HRS, Hfo, Hx, HI⟩ c1 m1 (r := nI US.length) ?_ ?_
    · obtain ⟨v1, v2, d2, v3⟩ := Hu (j + 1) (by rw [List.length_cons]; omega)
      have ev : (u :: US).getD (j + 1) [] = US.getD j [] := List.getD_cons_succ
      rw [ev] at v1 v3
      refine ⟨v1, by rw [hp 0 (by omega)]; exact v2, d2, ?_⟩
      have el : sa_lay (sa_lay a u) (US.getD j []) = sa_lay a (US.getD j []) := pv_ext (by rw [sa_lay_len (sa_lay_len Hl u1) v1, sa_lay_len Hl v1]) (fun i hi => by
        rw [sa_lay_pv (sa_lay_len Hl u1) v1, sa_lay_pv Hl v1]
        by_cases c : i < 10 ∨ 30 ≤ i
        · rw [if_pos c, if_pos c, hp i c]
        · rw [if_neg c, if_neg c])
      rw [el]
      exact v3
    · unfold mm_S_undo
      simp (disch := omega) only [pb_its, pb_l2, pb_ll, nI_add, pb_mul, if_true, if_false, pb_bs, pb_b2n, pb_bz0, pb_bz1, pb_10, pb_01, pb_i31, ck_is0 hk, ck_r0_0 hk, ck_r0_1 hk, ck_r0_2 hk, ck_r0_3 hk, ck_r0_4 hk, ck_r0_5 hk, ck_r0_6 hk, ck_r0_7 hk, ck_r0_8 hk, ck_r0_9 hk, ck_is1 hk, ck_r1_0 hk, ck_is3 hk, ck_r3_0 hk, ck_r3_1 hk, ck_is20 hk, ck_r20_0 hk, ck_r20_1 hk, ck_r20_2 hk, ck_is24 hk, ck_r24_1 hk, ck_r24_2 hk, ck_r24_3 hk, ck_r24_4 hk, ck_is33 hk, ck_r33_0 hk, ck_r33_1 hk, ck_is40 hk, ck_r40_0 hk, ck_is102 hk, ck_r102_0 hk, ck_r102_1 hk, ck_r102_2 hk, ck_r102_3 hk, ck_r102_4 hk, ck_r102_5 hk, ck_is103 hk, ck_r103_0 hk, ck_r103_1 hk, ck_is111 hk, ck_r111_0 hk, ck_r111_1 hk, ck_r111_2 hk, ck_r111_3 hk, ck_r111_4 hk, ck_is114 hk, ck_r114_0 hk, ck_r114_1 hk, ck_r114_2 hk, ck_r114_3 hk, ck_r114_4 hk, bV, bI, bT, bF, bD, bS, bH, bR0, bR1, bR2, bR3, bR4, bFo, bX, bNo, bG0, bG1, bG2, bG3, e1]
    · exact f1
theorem cw_copy {N : Nat} {h0 h : ss_Hp} {T : List Nat} {a : List Int32} {fo x : Int32} {RS : List (List ru_C)} {US : List (List Int32)} {I : Nat → Option (List Int32 × Int32 × Int32)} {Z : Nat → List Int32} {ro : Option (List ru_C)} {b : List Int32} {bu : Int32} {th fa : List Int32} (hc : cw_h h0 h T a fo x RS US I Z ro b bu th fa) (hl : b.length = 124) (e : ∀ j, j < 10 ∨ 30 ≤ j → pv b j = pv a j) : ∃ h', mm_G_copyFrom N (some 33) (some 103) h = some h' ∧ cb_h h0 h' T (b.set 13 bu) fo x RS US I Z := by
  obtain ⟨n, g, rc, ti, tb, vt, ri, cd, sx, rl, wi, wv, gi, gs, gw, nd, ns, nw, il, ai, yv, yr, yi, ys, yw, yt, yh, yf, yo, yk, fr, fg, pl, pc, pg, rfl, F, hg, z, ⟨w1, w2, w3, w4, w5, w6⟩, ⟨v, hv, hwv, hq⟩, hr⟩ := hc
  subst w1 w2 w3 w4 w5 w6 hv hwv
  obtain ⟨Fn, Frc, ⟨Ft1, Ft2, Ft3, Ft4⟩, Fr, Fl, ⟨Fw, ⟨v', Fv, Fq⟩, Fg, Fs, Fwl, Fno⟩, Fi, ⟨nx, Fa, Fu⟩, Fy, Ff⟩ := F
  subst Fg Fs
  have e' : ∀ j, j < 10 ∨ 30 ≤ j → pv (b.set 13 bu) j = pv a j := fun j hj => by rw [pv_ne (by omega)]; exact e j hj
  refine ⟨(pk_C n g rc ti tb vt ri cd sx rl wi (some v) [pv b 11, pv b 12, bu, pv b 10] (sl b 14 8) (sl b 22 8) nd ns nw il ai (some v) yr [pv b 11, pv b 12, bu, pv b 10] (sl b 14 8) (sl b 22 8) [pv b 39, pv b 41, pv b 43, pv b 45] yh yf yo yk fr fg pl pc pg), ?_, n, g, rc, ti, tb, vt, ri, cd, sx, rl, _, _, _, _, _, nd, ns, nw, il, _, _, _, _, _, _, _, _, _, _, _, fr, fg, pl, pc, pg, rfl, ⟨Fn, Frc, ⟨Ft1, Ft2, Ft3, Ft4⟩, Fr, Fl, ⟨?_, ⟨v', Fv, qv_R_of Fq (fun j hj => e' j (by omega))⟩, ?_, (sl_ne (by omega)).symm, ⟨sl_len _ _ _, fun _ => (sl_ne (by omega)).symm⟩, note_R_of Fno (fun j hj => e' j (by omega))⟩, Fi, ⟨nx, Fa, Fu⟩, Fy, Ff⟩, hg, z⟩
  · rw [pb_copy pk_c33 pk_c34 pk_c35 pk_c103 pk_c104 pk_c105 rfl (sl_len _ _ _) (sl_len _ _ _) (sl_len _ _ _) Fwl.1 (by omega) (by omega) (by omega), pk_s34, pk_s35, pk_s33]
  · rw [e' 123 (by omega)]
    exact Fw
  · rw [pv_ne (by omega), pv_ne (by omega), pv_eq (by omega), pv_ne (by omega)]
theorem jx_day {N : Nat} {h h2 : ss_Hp} {T : List Nat} {a : List Int32} {fo x : Int32} {RS : List (List ru_C)} {US : List (List Int32)} {I : Nat → Option (List Int32 × Int32 × Int32)} (hc : cl_h h T a fo x RS US I) (hm : mo_h h2 T a fo x RS US I) (ha : as_ok T a fo x RS US I) (hN : 5000 < N) : jo (mm_S_day N (some 0) h) (mm_M_day N (some 118) h2) h h2 := by
  obtain ⟨Z, hb⟩ := cb_of hc
  obtain ⟨v, ⟨⟨bV, bI, bT, bF, bD, bS, bH⟩, ⟨bR0, bR1, bR2, bR3, bR4⟩, ⟨bFo, bX, bNo⟩, ⟨bG0, bG1, bG2, bG3⟩, bOwn, bStr, bBes, bSn, bWl, bNd, bCl⟩⟩ := cb_r hb
  have hk := cb_ck hb
  obtain ⟨th, fa, kp, dx, Y, hm1⟩ := mb_of hm
  have hk2 := mb_mk hm1
  have ha0 := ha
  obtain ⟨⟨Ht1, Ht2⟩, ⟨k, m, d, Hsd, Hul, Hu⟩, HRS, Hfo, Hx, HI⟩ := ha
  have Hok := Hsd.1
  obtain ⟨Hl, ⟨Hk, H2⟩, ⟨Hm, H3⟩, ⟨Hd, H10⟩, Hwl, Hbe, How⟩ := Hok
  by_cases ht : pv a 0 ≤ nI 0
  · have t0 : sa_told a = nI 0 := if_pos ht
    refine jo_no hc hm ha0 (r := -nI 1) ?_ ?_
    · unfold mm_S_day mm_S_day_j29
      simp (disch := omega) only [pb_its, pb_l2, pb_ll, nI_add, pb_mul, if_true, if_false, pb_bs, pb_b2n, pb_bz0, pb_bz1, pb_10, pb_01, pb_i31, ck_is0 hk, ck_r0_0 hk, ck_r0_1 hk, ck_r0_2 hk, ck_r0_3 hk, ck_r0_4 hk, ck_r0_5 hk, ck_r0_6 hk, ck_r0_7 hk, ck_r0_8 hk, ck_r0_9 hk, ck_is1 hk, ck_r1_0 hk, ck_is3 hk, ck_r3_0 hk, ck_r3_1 hk, ck_is20 hk, ck_r20_0 hk, ck_r20_1 hk, ck_r20_2 hk, ck_is24 hk, ck_r24_1 hk, ck_r24_2 hk, ck_r24_3 hk, ck_r24_4 hk, ck_is33 hk, ck_r33_0 hk, ck_r33_1 hk, ck_is40 hk, ck_r40_0 hk, ck_is102 hk, ck_r102_0 hk, ck_r102_1 hk, ck_r102_2 hk, ck_r102_3 hk, ck_r102_4 hk, ck_r102_5 hk, ck_is103 hk, ck_r103_0 hk, ck_r103_1 hk, ck_is111 hk, ck_r111_0 hk, ck_r111_1 hk, ck_r111_2 hk, ck_r111_3 hk, ck_r111_4 hk, ck_is114 hk, ck_r114_0 hk, ck_r114_1 hk, ck_r114_2 hk, ck_r114_3 hk, ck_r114_4 hk, bV, bI, bT, bF, bD, bS, bH, bR0, bR1, bR2, bR3, bR4, bFo, bX, bNo, bG0, bG1, bG2, bG3, t0]
    · unfold mm_M_day mm_M_day_j20
      simp (disch := omega) only [pb_its, pb_l2, pb_ll, nI_add, pb_mul, if_true, if_false, pb_bs, pb_b2n, pb_bz0, pb_bz1, pb_10, pb_01, pb_i31, mk_is hk2, mk_g0 hk2, mk_g1 hk2, mk_g2 hk2, mk_g3 hk2, mk_g4 hk2, mk_g5 hk2, mk_g6 hk2, mk_g7 hk2, mk_g8 hk2, mk_g9 hk2, mk_g10 hk2, mk_g11 hk2, mk_g12 hk2, mk_g13 hk2, mk_g14 hk2, mk_g15 hk2, mk_g16 hk2, mk_g17 hk2, mk_g18 hk2, mk_g19 hk2, mk_g20 hk2, mk_g21 hk2, mk_g22 hk2, mb_isValley hm1 Hl, t0]
  have t1 : sa_told a = nI 1 := if_neg ht
  have hR := sd_told Hsd ht
  have Hd9 : d ≤ 999 := Hsd.2.2.2.2.1
  have s10 := mb_said hm1 Hl (show 10 < 124 by omega)
  rw [H10] at s10 bG3
  by_cases c9 : d = 999
  · subst c9
    have n1 : ¬ nI 999 < nI 999 := Int32.lt_irrefl
    refine jo_no hc hm ha0 (r := -nI 1) ?_ ?_
    · unfold mm_S_day mm_S_day_j29
      simp (disch := omega) only [pb_its, pb_l2, pb_ll, nI_add, pb_mul, if_true, if_false, pb_bs, pb_b2n, pb_bz0, pb_bz1, pb_10, pb_01, pb_i31, ck_is0 hk, ck_r0_0 hk, ck_r0_1 hk, ck_r0_2 hk, ck_r0_3 hk, ck_r0_4 hk, ck_r0_5 hk, ck_r0_6 hk, ck_r0_7 hk, ck_r0_8 hk, ck_r0_9 hk, ck_is1 hk, ck_r1_0 hk, ck_is3 hk, ck_r3_0 hk, ck_r3_1 hk, ck_is20 hk, ck_r20_0 hk, ck_r20_1 hk, ck_r20_2 hk, ck_is24 hk, ck_r24_1 hk, ck_r24_2 hk, ck_r24_3 hk, ck_r24_4 hk, ck_is33 hk, ck_r33_0 hk, ck_r33_1 hk, ck_is40 hk, ck_r40_0 hk, ck_is102 hk, ck_r102_0 hk, ck_r102_1 hk, ck_r102_2 hk, ck_r102_3 hk, ck_r102_4 hk, ck_r102_5 hk, ck_is103 hk, ck_r103_0 hk, ck_r103_1 hk, ck_is111 hk, ck_r111_0 hk, ck_r111_1 hk, ck_r111_2 hk, ck_r111_3 hk, ck_r111_4 hk, ck_is114 hk, ck_r114_0 hk, ck_r114_1 hk, ck_r114_2 hk, ck_r114_3 hk, ck_r114_4 hk, bV, bI, bT, bF, bD, bS, bH, bR0, bR1, bR2, bR3, bR4, bFo, bX, bNo, bG0, bG1, bG2, bG3, t1, n1]
    · unfold mm_M_day mm_M_day_j20
      simp (disch := omega) only [pb_its, pb_l2, pb_ll, nI_add, pb_mul, if_true, if_false, pb_bs, pb_b2n, pb_bz0, pb_bz1, pb_10, pb_01, pb_i31, mk_is hk2, mk_g0 hk2, mk_g1 hk2, mk_g2 hk2, mk_g3 hk2, mk_g4 hk2, mk_g5 hk2, mk_g6 hk2, mk_g7 hk2, mk_g8 hk2, mk_g9 hk2, mk_g10 hk2, mk_g11 hk2, mk_g12 hk2, mk_g13 hk2, mk_g14 hk2, mk_g15 hk2, mk_g16 hk2, mk_g17 hk2, mk_g18 hk2, mk_g19 hk2, mk_g20 hk2, mk_g21 hk2, mk_g22 hk2, mb_isValley hm1 Hl, t1, s10]
  have n1 : nI d < nI 999 := nI_lt (by omega) (by omega)
  have n2 : ¬ nI d = nI 999 := fun e => c9 ((nI_eq (by omega) (by omega)).mp e)
  obtain ⟨h1, e1, c1⟩ := cb_keep (N := N) hb ht Hul
  obtain ⟨h3, e2, w2⟩ := cb_start (N := N) c1 ht Hfo HRS (by omega)
  obtain ⟨h4, e3, w3⟩ := cw_pass (N := N) w2 rfl hR (by omega) (by omega)
  have hRA := dA_R (ro := ro_of fo RS) hR (by omega)
  have eA : ∀ j, j < 10 ∨ 22 ≤ j → pv (dA (ro_of fo RS) k m a) j = pv a j := fun j hj => dA_pv hR hj
  obtain ⟨h5, e4, c4⟩ := cw_copy (N := N) w3 hRA.1.1 (fun j hj => eA j (by omega))
  rw [pb_self (by rw [hRA.1.1]; omega)] at c4
  obtain ⟨g1, f1, m1⟩ := mb_keepsAct (N := N) hm1 Hl Hul (by omega)
  obtain ⟨g2, f2, m2⟩ := mb_pass (N := N) m1 hR Hfo HRS (by omega)
  have m3 := mb_to m2
  have k1 := cb_ck c1
  have k3 := cw_ck w2
  have k4 := cw_ck w3
  refine jo_st (as_act ha0 ht (fun k' m' d' hs => ?_) (fun j hj => eA j (by omega))) c4 m3 (r := pv (dB (ro_of fo RS) k m a) 11) ?_ ?_
  · have hk' : k' = k := (nI_eq (by have := hs.1.2.1.1; omega) (by omega)).mp (hs.1.2.1.2.symm.trans H2)
    have hm' : m' = m := (nI_eq (by have := hs.1.2.2.1.1; omega) (by omega)).mp (hs.1.2.2.1.2.symm.trans H3)
    subst hk' hm'
    exact ⟨d + 1, sd_of_R Hsd hRA (by omega) eA⟩
  · unfold mm_S_day
    simp (disch := omega) only [pb_its, pb_l2, pb_ll, nI_add, pb_mul, if_true, if_false, pb_bs, pb_b2n, pb_bz0, pb_bz1, pb_10, pb_01, pb_i31, ck_is0 hk, ck_r0_0 hk, ck_r0_1 hk, ck_r0_2 hk, ck_r0_3 hk, ck_r0_4 hk, ck_r0_5 hk, ck_r0_6 hk, ck_r0_7 hk, ck_r0_8 hk, ck_r0_9 hk, ck_is1 hk, ck_r1_0 hk, ck_is3 hk, ck_r3_0 hk, ck_r3_1 hk, ck_is20 hk, ck_r20_0 hk, ck_r20_1 hk, ck_r20_2 hk, ck_is24 hk, ck_r24_1 hk, ck_r24_2 hk, ck_r24_3 hk, ck_r24_4 hk, ck_is33 hk, ck_r33_0 hk, ck_r33_1 hk, ck_is40 hk, ck_r40_0 hk, ck_is102 hk, ck_r102_0 hk, ck_r102_1 hk, ck_r102_2 hk, ck_r102_3 hk, ck_r102_4 hk, ck_r102_5 hk, ck_is103 hk, ck_r103_0 hk, ck_r103_1 hk, ck_is111 hk, ck_r111_0 hk, ck_r111_1 hk, ck_r111_2 hk, ck_r111_3 hk, ck_r111_4 hk, ck_is114 hk, ck_r114_0 hk, ck_r114_1 hk, ck_r114_2 hk, ck_r114_3 hk, ck_r114_4 hk, bV, bI, bT, bF, bD, bS, bH, bR0, bR1, bR2, bR3, bR4, bFo, bX, bNo, bG0, bG1, bG2, bG3, t1, n1, e1, ck_r0_8 k1, e2, ck_r0_7 k3, e3, ck_r0_4 k4, ck_r24_1 k4, ck_r0_7 k4, ck_r102_0 k4, e4]
  · unfold mm_M_day
    simp (disch := omega) only [pb_its, pb_l2, pb_ll, nI_add, pb_mul, if_true, if_false, pb_bs, pb_b2n, pb_bz0, pb_bz1, pb_10, pb_01, pb_i31, mk_is hk2, mk_g0 hk2, mk_g1 hk2, mk_g2 hk2, mk_g3 hk2, mk_g4 hk2, mk_g5 hk2, mk_g6 hk2, mk_g7 hk2, mk_g8 hk2, mk_g9 hk2, mk_g10 hk2, mk_g11 hk2, mk_g12 hk2, mk_g13 hk2, mk_g14 hk2, mk_g15 hk2, mk_g16 hk2, mk_g17 hk2, mk_g18 hk2, mk_g19 hk2, mk_g20 hk2, mk_g21 hk2, mk_g22 hk2, mb_isValley hm1 Hl, t1, s10, n2, f1, f2]
theorem sa_much_13 {a : List Int32} {i s : Nat} {y : Int32} : sa_much (a.set 13 y) i s = sa_much a i s := by
  unfold sa_much
  rw [pv_ne (by omega), pv_ne (by omega)]
theorem sa_take1_13 {a : List Int32} {i s : Nat} {y : Int32} : sa_take1 (a.set 13 y) i s = (sa_take1 a i s).set 13 y := by
  unfold sa_take1
  rw [sa_much_13, pv_ne (by omega), pv_ne (by omega), List.set_comm _ _ (show 13 ≠ 14 + s by omega)]
  split
  · rfl
  · rw [List.set_comm _ _ (show 13 ≠ 11 by omega)]
theorem sa_take_13 {a : List Int32} {i s : Nat} {y : Int32} : sa_take (a.set 13 y) i s = (sa_take a i s).set 13 y := by
  have ew : sa_wall (a.set 13 y) s = sa_wall a s := by
    unfold sa_wall
    rw [pv_ne (by omega)]
  unfold sa_take
  rw [pv_ne (by omega), sa_take1_13, sa_much_13, ew]
  split
  · rfl
  · rw [pv_ne (by omega), List.set_comm _ _ (show 13 ≠ 14 + sa_wall a s by omega)]
theorem sa_R_13 {a : List Int32} {k m d q : Nat} (h : sa_R a k m d) (hq : q < 16) : sa_R (a.set 13 (nI q)) k m d := by
  obtain ⟨⟨g1, ⟨g2, g3⟩, ⟨g4, g5⟩, ⟨g6, g7⟩, g8, g9, g10⟩, h2, h3, h4, h5, h6⟩ := h
  have e : ∀ j, j ≠ 13 → pv (a.set 13 (nI q)) j = pv a j := fun j hj => pv_ne hj
  exact ⟨⟨by rw [List.length_set]; exact g1, ⟨g2, by rw [e _ (by omega)]; exact g3⟩, ⟨g4, by rw [e _ (by omega)]; exact g5⟩, ⟨g6, by rw [e _ (by omega)]; exact g7⟩, fun s hs => by rw [e _ (by omega)]; exact g8 s hs, fun s hs => by rw [e _ (by omega)]; exact g9 s hs, fun i hi => by rw [e _ (by omega)]; exact g10 i hi⟩, fun s hs => by rw [e _ (by omega)]; exact h2 s hs, fun i hi => by rw [e _ (by omega)]; exact h3 i hi, by rw [e _ (by omega)]; exact h4, by rw [e _ (by omega)]; exact h5, q, hq, pv_eq (by omega)⟩
theorem cb_isFree {N : Nat} {h0 h : ss_Hp} {T : List Nat} {a : List Int32} {fo x : Int32} {RS : List (List ru_C)} {US : List (List Int32)} {I : Nat → Option (List Int32 × Int32 × Int32)} {Z : Nat → List Int32} {z : Int32} (hc : cb_h h0 h T a fo x RS US I Z) (hn : ¬ sp_ho a z) : mm_S_isFree N (some 0) z h = some (nI 0) := by
  have hk := cb_ck hc
  unfold mm_S_isFree mm_S_isFree_j29 mm_S_isFree_j30
  simp (disch := omega) only [pb_its, pb_l2, pb_ll, nI_add, pb_mul, if_true, if_false, pb_bs, pb_b2n, pb_bz0, pb_bz1, pb_10, pb_01, pb_i31, ck_is0 hk, ck_r0_0 hk, ck_r0_1 hk, ck_r0_2 hk, ck_r0_3 hk, ck_r0_4 hk, ck_r0_5 hk, ck_r0_6 hk, ck_r0_7 hk, ck_r0_8 hk, ck_r0_9 hk, ck_is1 hk, ck_r1_0 hk, ck_is3 hk, ck_r3_0 hk, ck_r3_1 hk, ck_is20 hk, ck_r20_0 hk, ck_r20_1 hk, ck_r20_2 hk, ck_is24 hk, ck_r24_1 hk, ck_r24_2 hk, ck_r24_3 hk, ck_r24_4 hk, ck_is33 hk, ck_r33_0 hk, ck_r33_1 hk, ck_is40 hk, ck_r40_0 hk, ck_is102 hk, ck_r102_0 hk, ck_r102_1 hk, ck_r102_2 hk, ck_r102_3 hk, ck_r102_4 hk, ck_r102_5 hk, ck_is103 hk, ck_r103_0 hk, ck_r103_1 hk, ck_is111 hk, ck_r111_0 hk, ck_r111_1 hk, ck_r111_2 hk, ck_r111_3 hk, ck_r111_4 hk, ck_is114 hk, ck_r114_0 hk, ck_r114_1 hk, ck_r114_2 hk, ck_r114_3 hk, ck_r114_4 hk, cb_isHouse hc, pb_cf hn]
theorem cb_isFree2 {N : Nat} {h0 h : ss_Hp} {T : List Nat} {a : List Int32} {fo x : Int32} {RS : List (List ru_C)} {US : List (List Int32)} {I : Nat → Option (List Int32 × Int32 × Int32)} {Z : Nat → List Int32} {i : Nat} (hc : cb_h h0 h T a fo x RS US I Z) (hn : sp_ho a (nI i)) (hi : i < 4) : mm_S_isFree N (some 0) (nI i) h = some (if (pv a 13 >>> nI i) &&& nI 1 = nI 1 then nI 0 else nI 1) := by
  have hk := cb_ck hc
  obtain ⟨v, ⟨⟨bV, bI, bT, bF, bD, bS, bH⟩, ⟨bR0, bR1, bR2, bR3, bR4⟩, ⟨bFo, bX, bNo⟩, ⟨bG0, bG1, bG2, bG3⟩, bOwn, bStr, bBes, bSn, bWl, bNd, bCl⟩⟩ := cb_r hc
  unfold mm_S_isFree mm_S_isFree_j29 mm_S_isFree_j30
  rcases pb_and1 (pv a 13 >>> nI i) with c | c
  · simp (disch := omega) only [pb_its, pb_l2, pb_ll, nI_add, pb_mul, if_true, if_false, pb_bs, pb_b2n, pb_bz0, pb_bz1, pb_10, pb_01, pb_i31, ck_is0 hk, ck_r0_0 hk, ck_r0_1 hk, ck_r0_2 hk, ck_r0_3 hk, ck_r0_4 hk, ck_r0_5 hk, ck_r0_6 hk, ck_r0_7 hk, ck_r0_8 hk, ck_r0_9 hk, ck_is1 hk, ck_r1_0 hk, ck_is3 hk, ck_r3_0 hk, ck_r3_1 hk, ck_is20 hk, ck_r20_0 hk, ck_r20_1 hk, ck_r20_2 hk, ck_is24 hk, ck_r24_1 hk, ck_r24_2 hk, ck_r24_3 hk, ck_r24_4 hk, ck_is33 hk, ck_r33_0 hk, ck_r33_1 hk, ck_is40 hk, ck_r40_0 hk, ck_is102 hk, ck_r102_0 hk, ck_r102_1 hk, ck_r102_2 hk, ck_r102_3 hk, ck_r102_4 hk, ck_r102_5 hk, ck_is103 hk, ck_r103_0 hk, ck_r103_1 hk, ck_is111 hk, ck_r111_0 hk, ck_r111_1 hk, ck_r111_2 hk, ck_r111_3 hk, ck_r111_4 hk, ck_is114 hk, ck_r114_0 hk, ck_r114_1 hk, ck_r114_2 hk, ck_r114_3 hk, ck_r114_4 hk, bV, bI, bT, bF, bD, bS, bH, bR0, bR1, bR2, bR3, bR4, bFo, bX, bNo, bG0, bG1, bG2, bG3, cb_isHouse hc, pb_ct hn, c]
  · simp (disch := omega) only [pb_its, pb_l2, pb_ll, nI_add, pb_mul, if_true, if_false, pb_bs, pb_b2n, pb_bz0, pb_bz1, pb_10, pb_01, pb_i31, ck_is0 hk, ck_r0_0 hk, ck_r0_1 hk, ck_r0_2 hk, ck_r0_3 hk, ck_r0_4 hk, ck_r0_5 hk, ck_r0_6 hk, ck_r0_7 hk, ck_r0_8 hk, ck_r0_9 hk, ck_is1 hk, ck_r1_0 hk, ck_is3 hk, ck_r3_0 hk, ck_r3_1 hk, ck_is20 hk, ck_r20_0 hk, ck_r20_1 hk, ck_r20_2 hk, ck_is24 hk, ck_r24_1 hk, ck_r24_2 hk, ck_r24_3 hk, ck_r24_4 hk, ck_is33 hk, ck_r33_0 hk, ck_r33_1 hk, ck_is40 hk, ck_r40_0 hk, ck_is102 hk, ck_r102_0 hk, ck_r102_1 hk, ck_r102_2 hk, ck_r102_3 hk, ck_r102_4 hk, ck_r102_5 hk, ck_is103 hk, ck_r103_0 hk, ck_r103_1 hk, ck_is111 hk, ck_r111_0 hk, ck_r111_1 hk, ck_r111_2 hk, ck_r111_3 hk, ck_r111_4 hk, ck_is114 hk, ck_r114_0 hk, ck_r114_1 hk, ck_r114_2 hk, ck_r114_3 hk, ck_r114_4 hk, bV, bI, bT, bF, bD, bS, bH, bR0, bR1, bR2, bR3, bR4, bFo, bX, bNo, bG0, bG1, bG2, bG3, cb_isHouse hc, pb_ct hn, c]
theorem mb_canSweep {N : Nat} {h0 h : ss_Hp} {T : List Nat} {a : List Int32} {fo x : Int32} {RS : List (List ru_C)} {US : List (List Int32)} {I : Nat → Option (List Int32 × Int32 × Int32)} {fo2 : Int32} {b th2 fa2 kp2 : List Int32} {dx2 : Int64} {Z : Nat → List Int32} {i s : Nat} (hc : mb_h h0 h T a fo x RS US I fo2 b th2 fa2 kp2 dx2 Z) (hl : b.length = 124) (hi : i < 4) (hs : s < 8) (hq : ∃ q, q ≤ 999 ∧ pv b (14 + s) = nI q) : mm_M_canSweep N (some 118) (nI i) (nI s) h = some (if (pv b 13 >>> nI i) &&& nI 1 = nI 1 then nI 0 else if pv b (14 + s) = nI 0 then nI 0 else nI 1) := by
  have hk := mb_mk hc
  obtain ⟨q, q1, q2⟩ := hq
  unfold mm_M_canSweep mm_M_canSweep_j30 mm_M_canSweep_j31
  rcases pb_and1 (pv b 13 >>> nI i) with c | c
  · by_cases c0 : q = 0
    · subst c0
      have n0 : nI 0 ≤ nI 0 := Int32.le_refl _
      simp (disch := omega) only [pb_its, pb_l2, pb_ll, nI_add, pb_mul, if_true, if_false, pb_bs, pb_b2n, pb_bz0, pb_bz1, pb_10, pb_01, pb_i31, mk_is hk, mk_g0 hk, mk_g1 hk, mk_g2 hk, mk_g3 hk, mk_g4 hk, mk_g5 hk, mk_g6 hk, mk_g7 hk, mk_g8 hk, mk_g9 hk, mk_g10 hk, mk_g11 hk, mk_g12 hk, mk_g13 hk, mk_g14 hk, mk_g15 hk, mk_g16 hk, mk_g17 hk, mk_g18 hk, mk_g19 hk, mk_g20 hk, mk_g21 hk, mk_g22 hk, mb_said hc hl (show 13 < 124 by omega), po_isOf (show i < 32 by omega), c, mb_said hc hl (show 14 + s < 124 by omega), q2, n0]
    · have n0 : ¬ nI q ≤ nI 0 := nI_ge (by omega) (by omega)
      have n1 : ¬ nI q = nI 0 := fun e => c0 ((nI_eq (by omega) (by omega)).mp e)
      simp (disch := omega) only [pb_its, pb_l2, pb_ll, nI_add, pb_mul, if_true, if_false, pb_bs, pb_b2n, pb_bz0, pb_bz1, pb_10, pb_01, pb_i31, mk_is hk, mk_g0 hk, mk_g1 hk, mk_g2 hk, mk_g3 hk, mk_g4 hk, mk_g5 hk, mk_g6 hk, mk_g7 hk, mk_g8 hk, mk_g9 hk, mk_g10 hk, mk_g11 hk, mk_g12 hk, mk_g13 hk, mk_g14 hk, mk_g15 hk, mk_g16 hk, mk_g17 hk, mk_g18 hk, mk_g19 hk, mk_g20 hk, mk_g21 hk, mk_g22 hk, mb_said hc hl (show 13 < 124 by omega), po_isOf (show i < 32 by omega), c, mb_said hc hl (show 14 + s < 124 by omega), q2, n0, n1]
  · simp (disch := omega) only [pb_its, pb_l2, pb_ll, nI_add, pb_mul, if_true, if_false, pb_bs, pb_b2n, pb_bz0, pb_bz1, pb_10, pb_01, pb_i31, mk_is hk, mk_g0 hk, mk_g1 hk, mk_g2 hk, mk_g3 hk, mk_g4 hk, mk_g5 hk, mk_g6 hk, mk_g7 hk, mk_g8 hk, mk_g9 hk, mk_g10 hk, mk_g11 hk, mk_g12 hk, mk_g13 hk, mk_g14 hk, mk_g15 hk, mk_g16 hk, mk_g17 hk, mk_g18 hk, mk_g19 hk, mk_g20 hk, mk_g21 hk, mk_g22 hk, mb_said hc hl (show 13 < 124 by omega), po_isOf (show i < 32 by omega), c]
theorem jx_sweep {N : Nat} {h h2 : ss_Hp} {z y : Int32} {T : List Nat} {a : List Int32} {fo x : Int32} {RS : List (List ru_C)} {US : List (List Int32)} {I : Nat → Option (List Int32 × Int32 × Int32)} (hc : cl_h h T a fo x RS US I) (hm : mo_h h2 T a fo x RS US I) (ha : as_ok T a fo x RS US I) (hN : 5000 < N) : jo (mm_S_sweep N (some 0) z y h) (mm_M_sweep N (some 118) z y h2) h h2 := by
  obtain ⟨Z, hb⟩ := cb_of hc
  obtain ⟨v, ⟨⟨bV, bI, bT, bF, bD, bS, bH⟩, ⟨bR0, bR1, bR2, bR3, bR4⟩, ⟨bFo, bX, bNo⟩, ⟨bG0, bG1, bG2, bG3⟩, bOwn, bStr, bBes, bSn, bWl, bNd, bCl⟩⟩ := cb_r hb
  have hk := cb_ck hb
  obtain ⟨th, fa, kp, dx, Y, hm1⟩ := mb_of hm
  have hk2 := mb_mk hm1
  have ha0 := ha
  obtain ⟨⟨Ht1, Ht2⟩, ⟨k, m, d, Hsd, Hul, Hu⟩, HRS, Hfo, Hx, HI⟩ := ha
  have Hok := Hsd.1
  obtain ⟨Hl, ⟨Hk, H2⟩, ⟨Hm, H3⟩, ⟨Hd, H10⟩, Hwl, Hbe, How⟩ := Hok
  by_cases cs : ¬ sp_ho a z
  · refine jo_no hc hm ha0 (r := -nI 1) ?_ ?_
    · unfold mm_S_sweep mm_S_sweep_j31
      simp (disch := omega) only [pb_its, pb_l2, pb_ll, nI_add, pb_mul, if_true, if_false, pb_bs, pb_b2n, pb_bz0, pb_bz1, pb_10, pb_01, pb_i31, ck_is0 hk, ck_r0_0 hk, ck_r0_1 hk, ck_r0_2 hk, ck_r0_3 hk, ck_r0_4 hk, ck_r0_5 hk, ck_r0_6 hk, ck_r0_7 hk, ck_r0_8 hk, ck_r0_9 hk, ck_is1 hk, ck_r1_0 hk, ck_is3 hk, ck_r3_0 hk, ck_r3_1 hk, ck_is20 hk, ck_r20_0 hk, ck_r20_1 hk, ck_r20_2 hk, ck_is24 hk, ck_r24_1 hk, ck_r24_2 hk, ck_r24_3 hk, ck_r24_4 hk, ck_is33 hk, ck_r33_0 hk, ck_r33_1 hk, ck_is40 hk, ck_r40_0 hk, ck_is102 hk, ck_r102_0 hk, ck_r102_1 hk, ck_r102_2 hk, ck_r102_3 hk, ck_r102_4 hk, ck_r102_5 hk, ck_is103 hk, ck_r103_0 hk, ck_r103_1 hk, ck_is111 hk, ck_r111_0 hk, ck_r111_1 hk, ck_r111_2 hk, ck_r111_3 hk, ck_r111_4 hk, ck_is114 hk, ck_r114_0 hk, ck_r114_1 hk, ck_r114_2 hk, ck_r114_3 hk, ck_r114_4 hk, bV, bI, bT, bF, bD, bS, bH, bR0, bR1, bR2, bR3, bR4, bFo, bX, bNo, bG0, bG1, bG2, bG3, cb_isFree hb cs]
    · unfold mm_M_sweep mm_M_sweep_j25
      simp (disch := omega) only [pb_its, pb_l2, pb_ll, nI_add, pb_mul, if_true, if_false, pb_bs, pb_b2n, pb_bz0, pb_bz1, pb_10, pb_01, pb_i31, mk_is hk2, mk_g0 hk2, mk_g1 hk2, mk_g2 hk2, mk_g3 hk2, mk_g4 hk2, mk_g5 hk2, mk_g6 hk2, mk_g7 hk2, mk_g8 hk2, mk_g9 hk2, mk_g10 hk2, mk_g11 hk2, mk_g12 hk2, mk_g13 hk2, mk_g14 hk2, mk_g15 hk2, mk_g16 hk2, mk_g17 hk2, mk_g18 hk2, mk_g19 hk2, mk_g20 hk2, mk_g21 hk2, mk_g22 hk2, mb_isHouseC hm1 Hl, pb_cf cs]
  replace cs := Classical.not_not.mp cs
  obtain ⟨i, hi, rfl⟩ := sp_ho_n Hm H3 cs
  have fr := cb_isFree2 (N := N) hb cs (by omega)
  by_cases cy : ¬ sp_st a y
  · refine jo_no hc hm ha0 (r := -nI 1) ?_ ?_
    · unfold mm_S_sweep mm_S_sweep_j31
      rcases pb_and1 (pv a 13 >>> nI i) with c | c
      · simp (disch := omega) only [pb_its, pb_l2, pb_ll, nI_add, pb_mul, if_true, if_false, pb_bs, pb_b2n, pb_bz0, pb_bz1, pb_10, pb_01, pb_i31, ck_is0 hk, ck_r0_0 hk, ck_r0_1 hk, ck_r0_2 hk, ck_r0_3 hk, ck_r0_4 hk, ck_r0_5 hk, ck_r0_6 hk, ck_r0_7 hk, ck_r0_8 hk, ck_r0_9 hk, ck_is1 hk, ck_r1_0 hk, ck_is3 hk, ck_r3_0 hk, ck_r3_1 hk, ck_is20 hk, ck_r20_0 hk, ck_r20_1 hk, ck_r20_2 hk, ck_is24 hk, ck_r24_1 hk, ck_r24_2 hk, ck_r24_3 hk, ck_r24_4 hk, ck_is33 hk, ck_r33_0 hk, ck_r33_1 hk, ck_is40 hk, ck_r40_0 hk, ck_is102 hk, ck_r102_0 hk, ck_r102_1 hk, ck_r102_2 hk, ck_r102_3 hk, ck_r102_4 hk, ck_r102_5 hk, ck_is103 hk, ck_r103_0 hk, ck_r103_1 hk, ck_is111 hk, ck_r111_0 hk, ck_r111_1 hk, ck_r111_2 hk, ck_r111_3 hk, ck_r111_4 hk, ck_is114 hk, ck_r114_0 hk, ck_r114_1 hk, ck_r114_2 hk, ck_r114_3 hk, ck_r114_4 hk, bV, bI, bT, bF, bD, bS, bH, bR0, bR1, bR2, bR3, bR4, bFo, bX, bNo, bG0, bG1, bG2, bG3, fr, c, cb_isStep hb, pb_cf cy]
      · simp (disch := omega) only [pb_its, pb_l2, pb_ll, nI_add, pb_mul, if_true, if_false, pb_bs, pb_b2n, pb_bz0, pb_bz1, pb_10, pb_01, pb_i31, ck_is0 hk, ck_r0_0 hk, ck_r0_1 hk, ck_r0_2 hk, ck_r0_3 hk, ck_r0_4 hk, ck_r0_5 hk, ck_r0_6 hk, ck_r0_7 hk, ck_r0_8 hk, ck_r0_9 hk, ck_is1 hk, ck_r1_0 hk, ck_is3 hk, ck_r3_0 hk, ck_r3_1 hk, ck_is20 hk, ck_r20_0 hk, ck_r20_1 hk, ck_r20_2 hk, ck_is24 hk, ck_r24_1 hk, ck_r24_2 hk, ck_r24_3 hk, ck_r24_4 hk, ck_is33 hk, ck_r33_0 hk, ck_r33_1 hk, ck_is40 hk, ck_r40_0 hk, ck_is102 hk, ck_r102_0 hk, ck_r102_1 hk, ck_r102_2 hk, ck_r102_3 hk, ck_r102_4 hk, ck_r102_5 hk, ck_is103 hk, ck_r103_0 hk, ck_r103_1 hk, ck_is111 hk, ck_r111_0 hk, ck_r111_1 hk, ck_r111_2 hk, ck_r111_3 hk, ck_r111_4 hk, ck_is114 hk, ck_r114_0 hk, ck_r114_1 hk, ck_r114_2 hk, ck_r114_3 hk, ck_r114_4 hk, bV, bI, bT, bF, bD, bS, bH, bR0, bR1, bR2, bR3, bR4, bFo, bX, bNo, bG0, bG1, bG2, bG3, fr, c]
    · unfold mm_M_sweep mm_M_sweep_j25
      simp (disch := omega) only [pb_its, pb_l2, pb_ll, nI_add, pb_mul, if_true, if_false, pb_bs, pb_b2n, pb_bz0, pb_bz1, pb_10, pb_01, pb_i31, mk_is hk2, mk_g0 hk2, mk_g1 hk2, mk_g2 hk2, mk_g3 hk2, mk_g4 hk2, mk_g5 hk2, mk_g6 hk2, mk_g7 hk2, mk_g8 hk2, mk_g9 hk2, mk_g10 hk2, mk_g11 hk2, mk_g12 hk2, mk_g13 hk2, mk_g14 hk2, mk_g15 hk2, mk_g16 hk2, mk_g17 hk2, mk_g18 hk2, mk_g19 hk2, mk_g20 hk2, mk_g21 hk2, mk_g22 hk2, mb_isHouseC hm1 Hl, pb_ct cs, mb_isStepC hm1 Hl, pb_cf cy]
  replace cy := Classical.not_not.mp cy
  obtain ⟨s, hs, rfl⟩ := sp_st_n Hk H2 cy
  have ht := sd_step Hsd (Or.inl (by omega))
  have hR := sd_told Hsd ht
  have Hd9 : d ≤ 999 := Hsd.2.2.2.2.1
  have cn := mb_canSweep (N := N) (i := i) (s := s) hm1 Hl (by omega) (by omega) (by obtain ⟨q, q1, q2, -⟩ := hR.2.1 s (by omega); exact ⟨q, q1, q2⟩)
  have sn := bSn s (by omega)
  by_cases c : (pv a 13 >>> nI i) &&& nI 1 = nI 1
  · rw [if_pos c] at fr cn
    refine jo_no hc hm ha0 (r := -nI 1) ?_ ?_
    · unfold mm_S_sweep mm_S_sweep_j31
      simp (disch := omega) only [pb_its, pb_l2, pb_ll, nI_add, pb_mul, if_true, if_false, pb_bs, pb_b2n, pb_bz0, pb_bz1, pb_10, pb_01, pb_i31, ck_is0 hk, ck_r0_0 hk, ck_r0_1 hk, ck_r0_2 hk, ck_r0_3 hk, ck_r0_4 hk, ck_r0_5 hk, ck_r0_6 hk, ck_r0_7 hk, ck_r0_8 hk, ck_r0_9 hk, ck_is1 hk, ck_r1_0 hk, ck_is3 hk, ck_r3_0 hk, ck_r3_1 hk, ck_is20 hk, ck_r20_0 hk, ck_r20_1 hk, ck_r20_2 hk, ck_is24 hk, ck_r24_1 hk, ck_r24_2 hk, ck_r24_3 hk, ck_r24_4 hk, ck_is33 hk, ck_r33_0 hk, ck_r33_1 hk, ck_is40 hk, ck_r40_0 hk, ck_is102 hk, ck_r102_0 hk, ck_r102_1 hk, ck_r102_2 hk, ck_r102_3 hk, ck_r102_4 hk, ck_r102_5 hk, ck_is103 hk, ck_r103_0 hk, ck_r103_1 hk, ck_is111 hk, ck_r111_0 hk, ck_r111_1 hk, ck_r111_2 hk, ck_r111_3 hk, ck_r111_4 hk, ck_is114 hk, ck_r114_0 hk, ck_r114_1 hk, ck_r114_2 hk, ck_r114_3 hk, ck_r114_4 hk, bV, bI, bT, bF, bD, bS, bH, bR0, bR1, bR2, bR3, bR4, bFo, bX, bNo, bG0, bG1, bG2, bG3, fr]
    · unfold mm_M_sweep mm_M_sweep_j25
      simp (disch := omega) only [pb_its, pb_l2, pb_ll, nI_add, pb_mul, if_true, if_false, pb_bs, pb_b2n, pb_bz0, pb_bz1, pb_10, pb_01, pb_i31, mk_is hk2, mk_g0 hk2, mk_g1 hk2, mk_g2 hk2, mk_g3 hk2, mk_g4 hk2, mk_g5 hk2, mk_g6 hk2, mk_g7 hk2, mk_g8 hk2, mk_g9 hk2, mk_g10 hk2, mk_g11 hk2, mk_g12 hk2, mk_g13 hk2, mk_g14 hk2, mk_g15 hk2, mk_g16 hk2, mk_g17 hk2, mk_g18 hk2, mk_g19 hk2, mk_g20 hk2, mk_g21 hk2, mk_g22 hk2, mb_isHouseC hm1 Hl, pb_ct cs, mb_isStepC hm1 Hl, pb_ct cy, cn]
  rw [if_neg c] at fr cn
  by_cases c0 : pv a (14 + s) = nI 0
  · rw [if_pos c0] at cn
    rw [c0] at sn
    refine jo_no hc hm ha0 (r := -nI 1) ?_ ?_
    · unfold mm_S_sweep mm_S_sweep_j31
      simp (disch := omega) only [pb_its, pb_l2, pb_ll, nI_add, pb_mul, if_true, if_false, pb_bs, pb_b2n, pb_bz0, pb_bz1, pb_10, pb_01, pb_i31, ck_is0 hk, ck_r0_0 hk, ck_r0_1 hk, ck_r0_2 hk, ck_r0_3 hk, ck_r0_4 hk, ck_r0_5 hk, ck_r0_6 hk, ck_r0_7 hk, ck_r0_8 hk, ck_r0_9 hk, ck_is1 hk, ck_r1_0 hk, ck_is3 hk, ck_r3_0 hk, ck_r3_1 hk, ck_is20 hk, ck_r20_0 hk, ck_r20_1 hk, ck_r20_2 hk, ck_is24 hk, ck_r24_1 hk, ck_r24_2 hk, ck_r24_3 hk, ck_r24_4 hk, ck_is33 hk, ck_r33_0 hk, ck_r33_1 hk, ck_is40 hk, ck_r40_0 hk, ck_is102 hk, ck_r102_0 hk, ck_r102_1 hk, ck_r102_2 hk, ck_r102_3 hk, ck_r102_4 hk, ck_r102_5 hk, ck_is103 hk, ck_r103_0 hk, ck_r103_1 hk, ck_is111 hk, ck_r111_0 hk, ck_r111_1 hk, ck_r111_2 hk, ck_r111_3 hk, ck_r111_4 hk, ck_is114 hk, ck_r114_0 hk, ck_r114_1 hk, ck_r114_2 hk, ck_r114_3 hk, ck_r114_4 hk, bV, bI, bT, bF, bD, bS, bH, bR0, bR1, bR2, bR3, bR4, bFo, bX, bNo, bG0, bG1, bG2, bG3, fr, cb_isStep hb, pb_ct cy, sn]
    · unfold mm_M_sweep mm_M_sweep_j25
      simp (disch := omega) only [pb_its, pb_l2, pb_ll, nI_add, pb_mul, if_true, if_false, pb_bs, pb_b2n, pb_bz0, pb_bz1, pb_10, pb_01, pb_i31, mk_is hk2, mk_g0 hk2, mk_g1 hk2, mk_g2 hk2, mk_g3 hk2, mk_g4 hk2, mk_g5 hk2, mk_g6 hk2, mk_g7 hk2, mk_g8 hk2, mk_g9 hk2, mk_g10 hk2, mk_g11 hk2, mk_g12 hk2, mk_g13 hk2, mk_g14 hk2, mk_g15 hk2, mk_g16 hk2, mk_g17 hk2, mk_g18 hk2, mk_g19 hk2, mk_g20 hk2, mk_g21 hk2, mk_g22 hk2, mb_isHouseC hm1 Hl, pb_ct cs, mb_isStepC hm1 Hl, pb_ct cy, cn]
  rw [if_neg c0] at cn
  obtain ⟨bq, hbq, h13⟩ := hR.2.2.2.2.2
  obtain ⟨bq', hbq', ebq, -⟩ := pb_bu bq hbq i (by omega)
  have hbu : pv a 13 ||| nI 1 <<< nI i = nI bq' := by rw [h13]; exact ebq
  obtain ⟨h1, e1, c1⟩ := cb_keep (N := N) hb ht Hul
  obtain ⟨h3, e2, w2⟩ := cb_start (N := N) c1 ht Hfo HRS (by omega)
  obtain ⟨h4, e3, w3⟩ := cw_sweep (N := N) w2 hR hi hs c0
  rw [hbu] at w3
  have hRA := sa_R_take hR hi hs
  have eA : ∀ j, j ≠ 11 → (j < 14 ∨ 22 ≤ j) → pv (sa_take a i s) j = pv a j := fun j g1 g2 => by
    rcases Hwl s hs with hw | ⟨t, ht, hw⟩
    · exact sa_take_pv (t := 0) (by omega) (Or.inl hw) g1 g2
    · exact sa_take_pv (t := t) (by omega) (Or.inr ⟨by omega, hw⟩) g1 g2
  obtain ⟨h5, e4, c4⟩ := cw_copy (N := N) w3 hRA.1.1 (fun j hj => eA j (by omega) (by omega))
  obtain ⟨g1, f1, m1⟩ := mb_keepsAct (N := N) hm1 Hl Hul (by omega)
  obtain ⟨g2, f2, m2⟩ := mb_set (i := 13) (y := nI bq') m1 Hl (by omega)
  obtain ⟨g3, f3, m3⟩ := mb_takes (N := N) m2 (sa_R_13 hR hbq') (by omega : i < 4) hs
  rw [sa_much_13] at f3
  rw [sa_take_13] at m3
  have m4 := mb_to m3
  have k1 := cb_ck c1
  have k3 := cw_ck w2
  have k4 := cw_ck w3
  have km := mb_mk m1
  have s13 := mb_said m1 Hl (show 13 < 124 by omega)
  have hRB := sa_R_13 hRA hbq'
  have eB : ∀ j, j < 10 ∨ 22 ≤ j → pv ((sa_take a i s).set 13 (nI bq')) j = pv a j := fun j hj => by rw [pv_ne (by omega)]; exact eA j (by omega) (by omega)
  refine jo_st (as_act ha0 ht (fun k' m' d' hs => ?_) (fun j hj => eB j (by omega))) c4 m4 (r := sa_much a i s) ?_ ?_
  · have hk' : k' = k := (nI_eq (by have := hs.1.2.1.1; omega) (by omega)).mp (hs.1.2.1.2.symm.trans H2)
    have hm' : m' = m := (nI_eq (by have := hs.1.2.2.1.1; omega) (by omega)).mp (hs.1.2.2.1.2.symm.trans H3)
    subst hk' hm'
    exact ⟨d, sd_of_R Hsd hRB Hd9 eB⟩
  · unfold mm_S_sweep
    simp (disch := omega) only [pb_its, pb_l2, pb_ll, nI_add, pb_mul, if_true, if_false, pb_bs, pb_b2n, pb_bz0, pb_bz1, pb_10, pb_01, pb_i31, ck_is0 hk, ck_r0_0 hk, ck_r0_1 hk, ck_r0_2 hk, ck_r0_3 hk, ck_r0_4 hk, ck_r0_5 hk, ck_r0_6 hk, ck_r0_7 hk, ck_r0_8 hk, ck_r0_9 hk, ck_is1 hk, ck_r1_0 hk, ck_is3 hk, ck_r3_0 hk, ck_r3_1 hk, ck_is20 hk, ck_r20_0 hk, ck_r20_1 hk, ck_r20_2 hk, ck_is24 hk, ck_r24_1 hk, ck_r24_2 hk, ck_r24_3 hk, ck_r24_4 hk, ck_is33 hk, ck_r33_0 hk, ck_r33_1 hk, ck_is40 hk, ck_r40_0 hk, ck_is102 hk, ck_r102_0 hk, ck_r102_1 hk, ck_r102_2 hk, ck_r102_3 hk, ck_r102_4 hk, ck_r102_5 hk, ck_is103 hk, ck_r103_0 hk, ck_r103_1 hk, ck_is111 hk, ck_r111_0 hk, ck_r111_1 hk, ck_r111_2 hk, ck_r111_3 hk, ck_r111_4 hk, ck_is114 hk, ck_r114_0 hk, ck_r114_1 hk, ck_r114_2 hk, ck_r114_3 hk, ck_r114_4 hk, bV, bI, bT, bF, bD, bS, bH, bR0, bR1, bR2, bR3, bR4, bFo, bX, bNo, bG0, bG1, bG2, bG3, fr, cb_isStep hb, pb_ct cy, sn, c0, e1, ck_r0_8 k1, e2, ck_r0_7 k3, e3, ck_r0_4 k4, ck_r24_1 k4, ck_r0_7 k4, ck_r102_0 k4, e4]
  · unfold mm_M_sweep
    simp (disch := omega) only [pb_its, pb_l2, pb_ll, nI_add, pb_mul, if_true, if_false, pb_bs, pb_b2n, pb_bz0, pb_bz1, pb_10, pb_01, pb_i31, mk_is hk2, mk_g0 hk2, mk_g1 hk2, mk_g2 hk2, mk_g3 hk2, mk_g4 hk2, mk_g5 hk2, mk_g6 hk2, mk_g7 hk2, mk_g8 hk2, mk_g9 hk2, mk_g10 hk2, mk_g11 hk2, mk_g12 hk2, mk_g13 hk2, mk_g14 hk2, mk_g15 hk2, mk_g16 hk2, mk_g17 hk2, mk_g18 hk2, mk_g19 hk2, mk_g20 hk2, mk_g21 hk2, mk_g22 hk2, mb_isHouseC hm1 Hl, pb_ct cs, mb_isStepC hm1 Hl, pb_ct cy, cn, f1, mk_g9 km, s13, hbu, f2, f3]
theorem cb_sets {h0 h : ss_Hp} {T : List Nat} {a : List Int32} {fo x : Int32} {RS : List (List ru_C)} {US : List (List Int32)} {I : Nat → Option (List Int32 × Int32 × Int32)} {Z : Nat → List Int32} {s : Nat} {y : Int32} (hc : cb_h h0 h T a fo x RS US I Z) (hl : a.length = 124) (hs : s < 8) : ∃ h', ss_ui h (some 34) 20 (nI s) y = some h' ∧ cb_h h0 h' T (a.set (14 + s) y) fo x RS US I Z := by
  obtain ⟨n, g, rc, ti, tb, vt, ri, cd, sx, rl, wi, wv, gi, gs, gw, nd, ns, nw, il, ai, yv, yr, yi, ys, yw, yt, yh, yf, yo, yk, fr, fg, pl, pc, pg, rfl, F, hg, z⟩ := hc
  obtain ⟨Fn, Frc, ⟨Ft1, Ft2, Ft3, Ft4⟩, Fr, Fl, ⟨Fw, ⟨v, Fv, Fq⟩, Fg, Fs, Fwl, Fno⟩, Fi, ⟨nx, Fa, Fu⟩, Fy, Ff⟩ := F
  subst Fs
  have e : ∀ j, j ≠ 14 + s → pv (a.set (14 + s) y) j = pv a j := fun j hj => pv_ne hj
  refine ⟨_, pk_y26 hs (by omega), n, g, rc, ti, tb, vt, ri, cd, sx, rl, _, _, _, _, _, nd, ns, nw, il, _, _, _, _, _, _, _, _, _, _, _, fr, fg, pl, pc, pg, rfl, ⟨Fn, Frc, ⟨Ft1, Ft2, Ft3, Ft4⟩, Fr, Fl, ⟨by rw [e 123 (by omega)]; exact Fw, ⟨v, Fv, qv_R_of Fq (fun j hj => e j (by omega))⟩, by rw [e 10 (by omega), e 11 (by omega), e 12 (by omega), e 13 (by omega)]; exact Fg, rfl, ⟨Fwl.1, fun ht => by rw [sl_ne (by omega)]; rw [e 0 (by omega)] at ht; exact Fwl.2 ht⟩, note_R_of Fno (fun j hj => e j (by omega))⟩, Fi, ⟨nx, Fa, Fu⟩, Fy, Ff⟩, hg, z⟩
theorem cb_setw {h0 h : ss_Hp} {T : List Nat} {a : List Int32} {fo x : Int32} {RS : List (List ru_C)} {US : List (List Int32)} {I : Nat → Option (List Int32 × Int32 × Int32)} {Z : Nat → List Int32} {s : Nat} {y : Int32} (hc : cb_h h0 h T a fo x RS US I Z) (ht : ¬ pv a 0 ≤ nI 0) (hl : a.length = 124) (hs : s < 8) : ∃ h', ss_ui h (some 35) 20 (nI s) y = some h' ∧ cb_h h0 h' T (a.set (22 + s) y) fo x RS US I Z := by
  obtain ⟨n, g, rc, ti, tb, vt, ri, cd, sx, rl, wi, wv, gi, gs, gw, nd, ns, nw, il, ai, yv, yr, yi, ys, yw, yt, yh, yf, yo, yk, fr, fg, pl, pc, pg, rfl, F, hg, z⟩ := hc
  obtain ⟨Fn, Frc, ⟨Ft1, Ft2, Ft3, Ft4⟩, Fr, Fl, ⟨Fw, ⟨v, Fv, Fq⟩, Fg, Fs, Fwl, Fno⟩, Fi, ⟨nx, Fa, Fu⟩, Fy, Ff⟩ := F
  have hgw := Fwl.2 ht
  subst hgw
  have e : ∀ j, j ≠ 22 + s → pv (a.set (22 + s) y) j = pv a j := fun j hj => pv_ne hj
  refine ⟨_, pk_y27 hs (by omega), n, g, rc, ti, tb, vt, ri, cd, sx, rl, _, _, _, _, _, nd, ns, nw, il, _, _, _, _, _, _, _, _, _, _, _, fr, fg, pl, pc, pg, rfl, ⟨Fn, Frc, ⟨Ft1, Ft2, Ft3, Ft4⟩, Fr, Fl, ⟨by rw [e 123 (by omega)]; exact Fw, ⟨v, Fv, qv_R_of Fq (fun j hj => e j (by omega))⟩, by rw [e 10 (by omega), e 11 (by omega), e 12 (by omega), e 13 (by omega)]; exact Fg, by rw [sl_ne (by omega)]; exact Fs, ⟨sl_len _ _ _, fun _ => rfl⟩, note_R_of Fno (fun j hj => e j (by omega))⟩, Fi, ⟨nx, Fa, Fu⟩, Fy, Ff⟩, hg, z⟩
theorem cb_lay {N : Nat} {h0 h : ss_Hp} {T : List Nat} {a : List Int32} {fo x : Int32} {RS : List (List ru_C)} {US : List (List Int32)} {I : Nat → Option (List Int32 × Int32 × Int32)} {Z : Nat → List Int32} {s : Nat} {y : Int32} (hc : cb_h h0 h T a fo x RS US I Z) (hl : a.length = 124) (hs : s < 8) : ∃ h', mm_G_lay N (some 33) (nI s) y h = some h' ∧ cb_h h0 h' T (a.set (14 + s) (sa_held (pv a (14 + s) + y))) fo x RS US I Z := by
  obtain ⟨v, ⟨⟨bV, bI, bT, bF, bD, bS, bH⟩, ⟨bR0, bR1, bR2, bR3, bR4⟩, ⟨bFo, bX, bNo⟩, ⟨bG0, bG1, bG2, bG3⟩, bOwn, bStr, bBes, bSn, bWl, bNd, bCl⟩⟩ := cb_r hc
  have hk := cb_ck hc
  obtain ⟨h', e1, c1⟩ := cb_sets (y := sa_held (pv a (14 + s) + y)) hc hl hs
  refine ⟨h', ?_, c1⟩
  unfold mm_G_lay
  simp (disch := omega) only [pb_its, pb_l2, pb_ll, nI_add, pb_mul, if_true, if_false, pb_bs, pb_b2n, pb_bz0, pb_bz1, pb_10, pb_01, pb_i31, ck_is0 hk, ck_r0_0 hk, ck_r0_1 hk, ck_r0_2 hk, ck_r0_3 hk, ck_r0_4 hk, ck_r0_5 hk, ck_r0_6 hk, ck_r0_7 hk, ck_r0_8 hk, ck_r0_9 hk, ck_is1 hk, ck_r1_0 hk, ck_is3 hk, ck_r3_0 hk, ck_r3_1 hk, ck_is20 hk, ck_r20_0 hk, ck_r20_1 hk, ck_r20_2 hk, ck_is24 hk, ck_r24_1 hk, ck_r24_2 hk, ck_r24_3 hk, ck_r24_4 hk, ck_is33 hk, ck_r33_0 hk, ck_r33_1 hk, ck_is40 hk, ck_r40_0 hk, ck_is102 hk, ck_r102_0 hk, ck_r102_1 hk, ck_r102_2 hk, ck_r102_3 hk, ck_r102_4 hk, ck_r102_5 hk, ck_is103 hk, ck_r103_0 hk, ck_r103_1 hk, ck_is111 hk, ck_r111_0 hk, ck_r111_1 hk, ck_r111_2 hk, ck_r111_3 hk, ck_r111_4 hk, ck_is114 hk, ck_r114_0 hk, ck_r114_1 hk, ck_r114_2 hk, ck_r114_3 hk, ck_r114_4 hk, bSn s hs, pb_held, e1]
theorem jx_toss {N : Nat} {h h2 : ss_Hp} {z y : Int32} {T : List Nat} {a : List Int32} {fo x : Int32} {RS : List (List ru_C)} {US : List (List Int32)} {I : Nat → Option (List Int32 × Int32 × Int32)} (hc : cl_h h T a fo x RS US I) (hm : mo_h h2 T a fo x RS US I) (ha : as_ok T a fo x RS US I) (hN : 5000 < N) : jo (mm_S_toss N (some 0) z y h) (mm_M_toss N (some 118) z y h2) h h2 := by
  obtain ⟨Z, hb⟩ := cb_of hc
  obtain ⟨v, ⟨⟨bV, bI, bT, bF, bD, bS, bH⟩, ⟨bR0, bR1, bR2, bR3, bR4⟩, ⟨bFo, bX, bNo⟩, ⟨bG0, bG1, bG2, bG3⟩, bOwn, bStr, bBes, bSn, bWl, bNd, bCl⟩⟩ := cb_r hb
  have hk := cb_ck hb
  obtain ⟨th, fa, kp, dx, Y, hm1⟩ := mb_of hm
  have hk2 := mb_mk hm1
  have ha0 := ha
  obtain ⟨⟨Ht1, Ht2⟩, ⟨k, m, d, Hsd, Hul, Hu⟩, HRS, Hfo, Hx, HI⟩ := ha
  have Hok := Hsd.1
  obtain ⟨Hl, ⟨Hk, H2⟩, ⟨Hm, H3⟩, ⟨Hd, H10⟩, Hwl, Hbe, How⟩ := Hok
  by_cases cs : ¬ sp_st a z
  · refine jo_no hc hm ha0 (r := -nI 1) ?_ ?_
    · unfold mm_S_toss mm_S_toss_j18
      simp (disch := omega) only [pb_its, pb_l2, pb_ll, nI_add, pb_mul, if_true, if_false, pb_bs, pb_b2n, pb_bz0, pb_bz1, pb_10, pb_01, pb_i31, ck_is0 hk, ck_r0_0 hk, ck_r0_1 hk, ck_r0_2 hk, ck_r0_3 hk, ck_r0_4 hk, ck_r0_5 hk, ck_r0_6 hk, ck_r0_7 hk, ck_r0_8 hk, ck_r0_9 hk, ck_is1 hk, ck_r1_0 hk, ck_is3 hk, ck_r3_0 hk, ck_r3_1 hk, ck_is20 hk, ck_r20_0 hk, ck_r20_1 hk, ck_r20_2 hk, ck_is24 hk, ck_r24_1 hk, ck_r24_2 hk, ck_r24_3 hk, ck_r24_4 hk, ck_is33 hk, ck_r33_0 hk, ck_r33_1 hk, ck_is40 hk, ck_r40_0 hk, ck_is102 hk, ck_r102_0 hk, ck_r102_1 hk, ck_r102_2 hk, ck_r102_3 hk, ck_r102_4 hk, ck_r102_5 hk, ck_is103 hk, ck_r103_0 hk, ck_r103_1 hk, ck_is111 hk, ck_r111_0 hk, ck_r111_1 hk, ck_r111_2 hk, ck_r111_3 hk, ck_r111_4 hk, ck_is114 hk, ck_r114_0 hk, ck_r114_1 hk, ck_r114_2 hk, ck_r114_3 hk, ck_r114_4 hk, bV, bI, bT, bF, bD, bS, bH, bR0, bR1, bR2, bR3, bR4, bFo, bX, bNo, bG0, bG1, bG2, bG3, cb_isStep hb, pb_cf cs]
    · unfold mm_M_toss mm_M_toss_j20
      simp (disch := omega) only [pb_its, pb_l2, pb_ll, nI_add, pb_mul, if_true, if_false, pb_bs, pb_b2n, pb_bz0, pb_bz1, pb_10, pb_01, pb_i31, mk_is hk2, mk_g0 hk2, mk_g1 hk2, mk_g2 hk2, mk_g3 hk2, mk_g4 hk2, mk_g5 hk2, mk_g6 hk2, mk_g7 hk2, mk_g8 hk2, mk_g9 hk2, mk_g10 hk2, mk_g11 hk2, mk_g12 hk2, mk_g13 hk2, mk_g14 hk2, mk_g15 hk2, mk_g16 hk2, mk_g17 hk2, mk_g18 hk2, mk_g19 hk2, mk_g20 hk2, mk_g21 hk2, mk_g22 hk2, mb_isStepC hm1 Hl, pb_cf cs]
  replace cs := Classical.not_not.mp cs
  by_cases cy : ¬ sp_in y 1 99
  · refine jo_no hc hm ha0 (r := -nI 1) ?_ ?_
    · unfold mm_S_toss mm_S_toss_j18
      simp (disch := omega) only [pb_its, pb_l2, pb_ll, nI_add, pb_mul, if_true, if_false, pb_bs, pb_b2n, pb_bz0, pb_bz1, pb_10, pb_01, pb_i31, ck_is0 hk, ck_r0_0 hk, ck_r0_1 hk, ck_r0_2 hk, ck_r0_3 hk, ck_r0_4 hk, ck_r0_5 hk, ck_r0_6 hk, ck_r0_7 hk, ck_r0_8 hk, ck_r0_9 hk, ck_is1 hk, ck_r1_0 hk, ck_is3 hk, ck_r3_0 hk, ck_r3_1 hk, ck_is20 hk, ck_r20_0 hk, ck_r20_1 hk, ck_r20_2 hk, ck_is24 hk, ck_r24_1 hk, ck_r24_2 hk, ck_r24_3 hk, ck_r24_4 hk, ck_is33 hk, ck_r33_0 hk, ck_r33_1 hk, ck_is40 hk, ck_r40_0 hk, ck_is102 hk, ck_r102_0 hk, ck_r102_1 hk, ck_r102_2 hk, ck_r102_3 hk, ck_r102_4 hk, ck_r102_5 hk, ck_is103 hk, ck_r103_0 hk, ck_r103_1 hk, ck_is111 hk, ck_r111_0 hk, ck_r111_1 hk, ck_r111_2 hk, ck_r111_3 hk, ck_r111_4 hk, ck_is114 hk, ck_r114_0 hk, ck_r114_1 hk, ck_r114_2 hk, ck_r114_3 hk, ck_r114_4 hk, bV, bI, bT, bF, bD, bS, bH, bR0, bR1, bR2, bR3, bR4, bFo, bX, bNo, bG0, bG1, bG2, bG3, cb_isStep hb, pb_ct cs, pq_withinC, pb_cf cy]
    · unfold mm_M_toss mm_M_toss_j20
      simp (disch := omega) only [pb_its, pb_l2, pb_ll, nI_add, pb_mul, if_true, if_false, pb_bs, pb_b2n, pb_bz0, pb_bz1, pb_10, pb_01, pb_i31, mk_is hk2, mk_g0 hk2, mk_g1 hk2, mk_g2 hk2, mk_g3 hk2, mk_g4 hk2, mk_g5 hk2, mk_g6 hk2, mk_g7 hk2, mk_g8 hk2, mk_g9 hk2, mk_g10 hk2, mk_g11 hk2, mk_g12 hk2, mk_g13 hk2, mk_g14 hk2, mk_g15 hk2, mk_g16 hk2, mk_g17 hk2, mk_g18 hk2, mk_g19 hk2, mk_g20 hk2, mk_g21 hk2, mk_g22 hk2, mb_isStepC hm1 Hl, pb_ct cs, po_inC, pb_cf cy]
  replace cy := Classical.not_not.mp cy
  obtain ⟨s, hs, rfl⟩ := sp_st_n Hk H2 cs
  obtain ⟨t, ht1, ht2, rfl⟩ := sp_in_n cy (by omega) (by omega)
  have ht := sd_step Hsd (Or.inl (by omega))
  have Hd9 : d ≤ 999 := Hsd.2.2.2.2.1
  obtain ⟨q, q1, q2, q3⟩ := Hsd.2.1 s (by omega)
  obtain ⟨h1, e1, c1⟩ := cb_keep (N := N) hb ht Hul
  obtain ⟨h3, e2, c2⟩ := cb_lay (N := N) (y := nI t) c1 Hl (show s < 8 by omega)
  obtain ⟨g1, f1, m1⟩ := mb_keepsAct (N := N) hm1 Hl Hul (by omega)
  obtain ⟨g2, f2, m2⟩ := mb_set (i := 14 + s) (y := sa_held (pv a (14 + s) + nI t)) m1 Hl (by omega)
  have m3 := mb_to m2
  have hv : sa_held (pv a (14 + s) + nI t) = nI (min (q + t) 999) := by rw [q2, nI_add, sa_held_n (by omega)]
  obtain ⟨v2, ⟨⟨bVx, bIx, bTx, bFx, bDx, bSx, bHx⟩, ⟨bR0x, bR1x, bR2x, bR3x, bR4x⟩, ⟨bFox, bXx, bNox⟩, ⟨bG0x, bG1x, bG2x, bG3x⟩, bOwnx, bStrx, bBesx, bSnx, bWlx, bNdx, bClx⟩⟩ := cb_r c2
  have sn := bSnx s (by omega)
  rw [pv_eq (by omega)] at sn
  have k1 := cb_ck c1
  have k2 := cb_ck c2
  have km := mb_mk m1
  have km2 := mb_mk m2
  have s1 := mb_said m1 Hl (show 14 + s < 124 by omega)
  have s2 := mb_said m2 (by rw [List.length_set]; exact Hl) (show 14 + s < 124 by omega)
  rw [pv_eq (by omega)] at s2
  have e : ∀ j, j ≠ 14 + s → pv (a.set (14 + s) (sa_held (pv a (14 + s) + nI t))) j = pv a j := fun j hj => pv_ne hj
  refine jo_st (as_act ha0 ht (fun k' m' d' hs' => ?_) (fun j hj => e j (by omega))) c2 m3 (r := sa_held (pv a (14 + s) + nI t)) ?_ ?_
  · have hk' : k' = k := (nI_eq (by have := hs'.1.2.1.1; omega) (by omega)).mp (hs'.1.2.1.2.symm.trans H2)
    subst hk'
    refine ⟨d', sd_ok_act hs' (by rw [List.length_set]; exact Hl) (fun j hj => e j (by omega)) hs'.2.2.2.2.1 (by rw [e _ (by omega)]; exact hs'.1.2.2.2.1.2) (fun s' hs'' => ?_) (by rw [e _ (by omega)]; exact hs'.2.2.2.1) (fun s' hs'' => by rw [e _ (by omega)]; exact sd_walls hs' s' hs'')⟩
    by_cases c : s' = s
    · subst c
      exact ⟨min (q + t) 999, by omega, by rw [pv_eq (by omega)]; exact hv, fun hh => by omega⟩
    · rw [e _ (by omega)]
      exact hs'.2.1 s' hs''
  · unfold mm_S_toss
    simp (disch := omega) only [pb_its, pb_l2, pb_ll, nI_add, pb_mul, if_true, if_false, pb_bs, pb_b2n, pb_bz0, pb_bz1, pb_10, pb_01, pb_i31, ck_is0 hk, ck_r0_0 hk, ck_r0_1 hk, ck_r0_2 hk, ck_r0_3 hk, ck_r0_4 hk, ck_r0_5 hk, ck_r0_6 hk, ck_r0_7 hk, ck_r0_8 hk, ck_r0_9 hk, ck_is1 hk, ck_r1_0 hk, ck_is3 hk, ck_r3_0 hk, ck_r3_1 hk, ck_is20 hk, ck_r20_0 hk, ck_r20_1 hk, ck_r20_2 hk, ck_is24 hk, ck_r24_1 hk, ck_r24_2 hk, ck_r24_3 hk, ck_r24_4 hk, ck_is33 hk, ck_r33_0 hk, ck_r33_1 hk, ck_is40 hk, ck_r40_0 hk, ck_is102 hk, ck_r102_0 hk, ck_r102_1 hk, ck_r102_2 hk, ck_r102_3 hk, ck_r102_4 hk, ck_r102_5 hk, ck_is103 hk, ck_r103_0 hk, ck_r103_1 hk, ck_is111 hk, ck_r111_0 hk, ck_r111_1 hk, ck_r111_2 hk, ck_r111_3 hk, ck_r111_4 hk, ck_is114 hk, ck_r114_0 hk, ck_r114_1 hk, ck_r114_2 hk, ck_r114_3 hk, ck_r114_4 hk, bV, bI, bT, bF, bD, bS, bH, bR0, bR1, bR2, bR3, bR4, bFo, bX, bNo, bG0, bG1, bG2, bG3, cb_isStep hb, pb_ct cs, pq_withinC, pb_ct cy, e1, ck_r0_4 k1, ck_r24_1 k1, e2, ck_r0_4 k2, ck_r24_1 k2, ck_r33_0 k2, sn]
  · unfold mm_M_toss
    simp (disch := omega) only [pb_its, pb_l2, pb_ll, nI_add, pb_mul, if_true, if_false, pb_bs, pb_b2n, pb_bz0, pb_bz1, pb_10, pb_01, pb_i31, mk_is hk2, mk_g0 hk2, mk_g1 hk2, mk_g2 hk2, mk_g3 hk2, mk_g4 hk2, mk_g5 hk2, mk_g6 hk2, mk_g7 hk2, mk_g8 hk2, mk_g9 hk2, mk_g10 hk2, mk_g11 hk2, mk_g12 hk2, mk_g13 hk2, mk_g14 hk2, mk_g15 hk2, mk_g16 hk2, mk_g17 hk2, mk_g18 hk2, mk_g19 hk2, mk_g20 hk2, mk_g21 hk2, mk_g22 hk2, mb_isStepC hm1 Hl, pb_ct cs, po_inC, pb_ct cy, f1, mk_g9 km, s1, po_held, f2, mk_g9 km2, s2]
theorem jx_pull {N : Nat} {h h2 : ss_Hp} {z : Int32} {T : List Nat} {a : List Int32} {fo x : Int32} {RS : List (List ru_C)} {US : List (List Int32)} {I : Nat → Option (List Int32 × Int32 × Int32)} (hc : cl_h h T a fo x RS US I) (hm : mo_h h2 T a fo x RS US I) (ha : as_ok T a fo x RS US I) (hN : 5000 < N) : jo (mm_S_pull N (some 0) z h) (mm_M_pull N (some 118) z h2) h h2 := by
  obtain ⟨Z, hb⟩ := cb_of hc
  obtain ⟨v, ⟨⟨bV, bI, bT, bF, bD, bS, bH⟩, ⟨bR0, bR1, bR2, bR3, bR4⟩, ⟨bFo, bX, bNo⟩, ⟨bG0, bG1, bG2, bG3⟩, bOwn, bStr, bBes, bSn, bWl, bNd, bCl⟩⟩ := cb_r hb
  have hk := cb_ck hb
  obtain ⟨th, fa, kp, dx, Y, hm1⟩ := mb_of hm
  have hk2 := mb_mk hm1
  have ha0 := ha
  obtain ⟨⟨Ht1, Ht2⟩, ⟨k, m, d, Hsd, Hul, Hu⟩, HRS, Hfo, Hx, HI⟩ := ha
  have Hok := Hsd.1
  obtain ⟨Hl, ⟨Hk, H2⟩, ⟨Hm, H3⟩, ⟨Hd, H10⟩, Hwl, Hbe, How⟩ := Hok
  by_cases cs : ¬ sp_st a z
  · refine jo_no hc hm ha0 (r := -nI 1) ?_ ?_
    · unfold mm_S_pull mm_S_pull_j24
      simp (disch := omega) only [pb_its, pb_l2, pb_ll, nI_add, pb_mul, if_true, if_false, pb_bs, pb_b2n, pb_bz0, pb_bz1, pb_10, pb_01, pb_i31, ck_is0 hk, ck_r0_0 hk, ck_r0_1 hk, ck_r0_2 hk, ck_r0_3 hk, ck_r0_4 hk, ck_r0_5 hk, ck_r0_6 hk, ck_r0_7 hk, ck_r0_8 hk, ck_r0_9 hk, ck_is1 hk, ck_r1_0 hk, ck_is3 hk, ck_r3_0 hk, ck_r3_1 hk, ck_is20 hk, ck_r20_0 hk, ck_r20_1 hk, ck_r20_2 hk, ck_is24 hk, ck_r24_1 hk, ck_r24_2 hk, ck_r24_3 hk, ck_r24_4 hk, ck_is33 hk, ck_r33_0 hk, ck_r33_1 hk, ck_is40 hk, ck_r40_0 hk, ck_is102 hk, ck_r102_0 hk, ck_r102_1 hk, ck_r102_2 hk, ck_r102_3 hk, ck_r102_4 hk, ck_r102_5 hk, ck_is103 hk, ck_r103_0 hk, ck_r103_1 hk, ck_is111 hk, ck_r111_0 hk, ck_r111_1 hk, ck_r111_2 hk, ck_r111_3 hk, ck_r111_4 hk, ck_is114 hk, ck_r114_0 hk, ck_r114_1 hk, ck_r114_2 hk, ck_r114_3 hk, ck_r114_4 hk, bV, bI, bT, bF, bD, bS, bH, bR0, bR1, bR2, bR3, bR4, bFo, bX, bNo, bG0, bG1, bG2, bG3, cb_isStep hb, pb_cf cs]
    · unfold mm_M_pull mm_M_pull_j20
      simp (disch := omega) only [pb_its, pb_l2, pb_ll, nI_add, pb_mul, if_true, if_false, pb_bs, pb_b2n, pb_bz0, pb_bz1, pb_10, pb_01, pb_i31, mk_is hk2, mk_g0 hk2, mk_g1 hk2, mk_g2 hk2, mk_g3 hk2, mk_g4 hk2, mk_g5 hk2, mk_g6 hk2, mk_g7 hk2, mk_g8 hk2, mk_g9 hk2, mk_g10 hk2, mk_g11 hk2, mk_g12 hk2, mk_g13 hk2, mk_g14 hk2, mk_g15 hk2, mk_g16 hk2, mk_g17 hk2, mk_g18 hk2, mk_g19 hk2, mk_g20 hk2, mk_g21 hk2, mk_g22 hk2, mb_isStepC hm1 Hl, pb_cf cs]
  replace cs := Classical.not_not.mp cs
  obtain ⟨s, hs, rfl⟩ := sp_st_n Hk H2 cs
  have ht := sd_step Hsd (Or.inl (by omega))
  have wl := bWl ht s (by omega)
  have s1 := mb_said hm1 Hl (show 22 + s < 124 by omega)
  rcases sd_walls Hsd s hs with hw | ⟨t, ht1, hw⟩
  · rw [hw] at wl s1
    have n1 : ¬ nI 0 ≤ -nI 1 := by decide
    refine jo_no hc hm ha0 (r := -nI 1) ?_ ?_
    · unfold mm_S_pull mm_S_pull_j24
      simp (disch := omega) only [pb_its, pb_l2, pb_ll, nI_add, pb_mul, if_true, if_false, pb_bs, pb_b2n, pb_bz0, pb_bz1, pb_10, pb_01, pb_i31, ck_is0 hk, ck_r0_0 hk, ck_r0_1 hk, ck_r0_2 hk, ck_r0_3 hk, ck_r0_4 hk, ck_r0_5 hk, ck_r0_6 hk, ck_r0_7 hk, ck_r0_8 hk, ck_r0_9 hk, ck_is1 hk, ck_r1_0 hk, ck_is3 hk, ck_r3_0 hk, ck_r3_1 hk, ck_is20 hk, ck_r20_0 hk, ck_r20_1 hk, ck_r20_2 hk, ck_is24 hk, ck_r24_1 hk, ck_r24_2 hk, ck_r24_3 hk, ck_r24_4 hk, ck_is33 hk, ck_r33_0 hk, ck_r33_1 hk, ck_is40 hk, ck_r40_0 hk, ck_is102 hk, ck_r102_0 hk, ck_r102_1 hk, ck_r102_2 hk, ck_r102_3 hk, ck_r102_4 hk, ck_r102_5 hk, ck_is103 hk, ck_r103_0 hk, ck_r103_1 hk, ck_is111 hk, ck_r111_0 hk, ck_r111_1 hk, ck_r111_2 hk, ck_r111_3 hk, ck_r111_4 hk, ck_is114 hk, ck_r114_0 hk, ck_r114_1 hk, ck_r114_2 hk, ck_r114_3 hk, ck_r114_4 hk, bV, bI, bT, bF, bD, bS, bH, bR0, bR1, bR2, bR3, bR4, bFo, bX, bNo, bG0, bG1, bG2, bG3, cb_isStep hb, pb_ct cs, wl]
    · unfold mm_M_pull mm_M_pull_j20
      simp (disch := omega) only [pb_its, pb_l2, pb_ll, nI_add, pb_mul, if_true, if_false, pb_bs, pb_b2n, pb_bz0, pb_bz1, pb_10, pb_01, pb_i31, mk_is hk2, mk_g0 hk2, mk_g1 hk2, mk_g2 hk2, mk_g3 hk2, mk_g4 hk2, mk_g5 hk2, mk_g6 hk2, mk_g7 hk2, mk_g8 hk2, mk_g9 hk2, mk_g10 hk2, mk_g11 hk2, mk_g12 hk2, mk_g13 hk2, mk_g14 hk2, mk_g15 hk2, mk_g16 hk2, mk_g17 hk2, mk_g18 hk2, mk_g19 hk2, mk_g20 hk2, mk_g21 hk2, mk_g22 hk2, mb_isStepC hm1 Hl, pb_ct cs, s1, n1]
  have n1 : nI 0 ≤ nI t := nI_le (by omega) (by omega)
  have n2 : ¬ nI t = -nI 1 := pb_m1n (by omega)
  obtain ⟨h1, e1, c1⟩ := cb_keep (N := N) hb ht Hul
  obtain ⟨h3, e2, c2⟩ := cb_setw (y := -nI 1) c1 ht Hl (show s < 8 by omega)
  obtain ⟨g1, f1, m1⟩ := mb_keepsAct (N := N) hm1 Hl Hul (by omega)
  obtain ⟨g2, f2, m2⟩ := mb_set (i := 22 + s) (y := -nI 1) m1 Hl (by omega)
  have m3 := mb_to m2
  obtain ⟨v2, ⟨⟨bVx, bIx, bTx, bFx, bDx, bSx, bHx⟩, ⟨bR0x, bR1x, bR2x, bR3x, bR4x⟩, ⟨bFox, bXx, bNox⟩, ⟨bG0x, bG1x, bG2x, bG3x⟩, bOwnx, bStrx, bBesx, bSnx, bWlx, bNdx, bClx⟩⟩ := cb_r c1
  have wlx := bWlx ht s (by omega)
  have s2 := mb_said m1 Hl (show 22 + s < 124 by omega)
  rw [hw] at wl s1 wlx s2
  have k1 := cb_ck c1
  have km := mb_mk m1
  have e : ∀ j, j ≠ 22 + s → pv (a.set (22 + s) (-nI 1)) j = pv a j := fun j hj => pv_ne hj
  refine jo_st (as_act ha0 ht (fun k' m' d' hs' => ?_) (fun j hj => e j (by omega))) c2 m3 (r := nI t) ?_ ?_
  · have hk' : k' = k := (nI_eq (by have := hs'.1.2.1.1; omega) (by omega)).mp (hs'.1.2.1.2.symm.trans H2)
    subst hk'
    refine ⟨d', sd_ok_act hs' (by rw [List.length_set]; exact Hl) (fun j hj => e j (by omega)) hs'.2.2.2.2.1 (by rw [e _ (by omega)]; exact hs'.1.2.2.2.1.2) (fun s' hs'' => by rw [e _ (by omega)]; exact hs'.2.1 s' hs'') (by rw [e _ (by omega)]; exact hs'.2.2.2.1) (fun s' hs'' => ?_)⟩
    by_cases c : s' = s
    · subst c
      exact Or.inl (pv_eq (by omega))
    · rw [e _ (by omega)]
      exact sd_walls hs' s' hs''
  · unfold mm_S_pull
    simp (disch := omega) only [pb_its, pb_l2, pb_ll, nI_add, pb_mul, if_true, if_false, pb_bs, pb_b2n, pb_bz0, pb_bz1, pb_10, pb_01, pb_i31, ck_is0 hk, ck_r0_0 hk, ck_r0_1 hk, ck_r0_2 hk, ck_r0_3 hk, ck_r0_4 hk, ck_r0_5 hk, ck_r0_6 hk, ck_r0_7 hk, ck_r0_8 hk, ck_r0_9 hk, ck_is1 hk, ck_r1_0 hk, ck_is3 hk, ck_r3_0 hk, ck_r3_1 hk, ck_is20 hk, ck_r20_0 hk, ck_r20_1 hk, ck_r20_2 hk, ck_is24 hk, ck_r24_1 hk, ck_r24_2 hk, ck_r24_3 hk, ck_r24_4 hk, ck_is33 hk, ck_r33_0 hk, ck_r33_1 hk, ck_is40 hk, ck_r40_0 hk, ck_is102 hk, ck_r102_0 hk, ck_r102_1 hk, ck_r102_2 hk, ck_r102_3 hk, ck_r102_4 hk, ck_r102_5 hk, ck_is103 hk, ck_r103_0 hk, ck_r103_1 hk, ck_is111 hk, ck_r111_0 hk, ck_r111_1 hk, ck_r111_2 hk, ck_r111_3 hk, ck_r111_4 hk, ck_is114 hk, ck_r114_0 hk, ck_r114_1 hk, ck_r114_2 hk, ck_r114_3 hk, ck_r114_4 hk, bV, bI, bT, bF, bD, bS, bH, bR0, bR1, bR2, bR3, bR4, bFo, bX, bNo, bG0, bG1, bG2, bG3, cb_isStep hb, pb_ct cs, wl, n2, e1, ck_r0_4 k1, ck_r24_1 k1, ck_r33_1 k1, wlx, e2]
  · unfold mm_M_pull
    simp (disch := omega) only [pb_its, pb_l2, pb_ll, nI_add, pb_mul, if_true, if_false, pb_bs, pb_b2n, pb_bz0, pb_bz1, pb_10, pb_01, pb_i31, mk_is hk2, mk_g0 hk2, mk_g1 hk2, mk_g2 hk2, mk_g3 hk2, mk_g4 hk2, mk_g5 hk2, mk_g6 hk2, mk_g7 hk2, mk_g8 hk2, mk_g9 hk2, mk_g10 hk2, mk_g11 hk2, mk_g12 hk2, mk_g13 hk2, mk_g14 hk2, mk_g15 hk2, mk_g16 hk2, mk_g17 hk2, mk_g18 hk2, mk_g19 hk2, mk_g20 hk2, mk_g21 hk2, mk_g22 hk2, mb_isStepC hm1 Hl, pb_ct cs, s1, n1, f1, mk_g9 km, s2, f2]
/-! thaw -/
def sa_hv (a : List Int32) : Nat → List Int32
  | 0 => a
  | i + 1 => (sa_hv a i).set (14 + i) (pv (sa_hv a i) (14 + i) / nI 2)
theorem sa_hv_len (a : List Int32) : ∀ i, (sa_hv a i).length = a.length := by
  intro i
  induction i with
  | zero => rfl
  | succ i ih => rw [sa_hv, List.length_set, ih]
theorem sa_hv_pv {a : List Int32} {j : Nat} (hl : a.length = 124) : ∀ i, i ≤ 8 → pv (sa_hv a i) j = if 14 ≤ j ∧ j < 14 + i then pv a j / nI 2 else pv a j := by
  intro i
  induction i with
  | zero => intro _; rw [if_neg (by omega)]; rfl
  | succ i ih =>
    intro hi
    rw [sa_hv]
    by_cases c : j = 14 + i
    · have := ih (by omega)
      rw [if_neg (by omega)] at this
      subst c
      rw [pv_eq (by rw [sa_hv_len]; omega), this, if_pos (by omega)]
    · rw [pv_ne c, ih (by omega)]
      by_cases q : 14 ≤ j ∧ j < 14 + i
      · rw [if_pos q, if_pos (by omega)]
      · rw [if_neg q, if_neg (by omega)]
theorem pb_div2 {q : Nat} (hq : q < 2 ^ 31) : nI q / nI 2 = nI (q / 2) := by
  apply Int32.toInt_inj.mp
  rw [Int32.toInt_div, nI_toInt hq, nI_toInt (by omega), nI_toInt (by omega)]
  rw [show ((q : Int).tdiv ((2 : Nat) : Int)) = ((q / 2 : Nat) : Int) from rfl]
  rw [Int.bmod_def]
  split <;> omega
theorem pb_sd2 (x : Int32) : ss_div x (nI 2) = some (x / nI 2) := by
  unfold ss_div
  rw [if_neg (by decide)]
theorem sa_hv8 {a : List Int32} {k : Nat} (hl : a.length = 124) (hk : k ≤ 8) (h : ∀ s, s < 8 → ∃ q, q ≤ 999 ∧ pv a (14 + s) = nI q ∧ (k ≤ s → q = 0)) : sa_hv a 8 = sa_hv a k := pv_ext (by rw [sa_hv_len, sa_hv_len]) (fun j hj => by
  rw [sa_hv_pv hl 8 (by omega), sa_hv_pv hl k hk]
  by_cases c : 14 ≤ j ∧ j < 14 + k
  · rw [if_pos c, if_pos (by omega)]
  · rw [if_neg c]
    by_cases c2 : 14 ≤ j ∧ j < 14 + 8
    · rw [if_pos c2]
      obtain ⟨q, q1, q2, q3⟩ := h (j - 14) (by omega)
      rw [show 14 + (j - 14) = j by omega] at q2
      rw [q2, q3 (by omega)]
      decide
    · rw [if_neg c2])
theorem cb_halve {N : Nat} {h0 h : ss_Hp} {T : List Nat} {a : List Int32} {fo x : Int32} {RS : List (List ru_C)} {US : List (List Int32)} {I : Nat → Option (List Int32 × Int32 × Int32)} {Z : Nat → List Int32} (hc : cb_h h0 h T a fo x RS US I Z) (hl : a.length = 124) (hN : 8 < N) : ∃ h', mm_G_halve N (some 33) h = some h' ∧ cb_h h0 h' T (sa_hv a 8) fo x RS US I Z := by
  have hk := cb_ck hc
  have key := pb_for (body := mm_G_halve_b2 N (some 33)) 8 (fun i s => ∃ h', s = (nI i, h') ∧ cb_h h0 h' T (sa_hv a i) fo x RS US I Z) (fun e => cb_h h0 e T (sa_hv a 8) fo x RS US I Z) (N := N) (s := (nI 0, h)) hN ⟨h, rfl, hc⟩ (by
    rintro i s hi ⟨h', rfl, c⟩
    left
    obtain ⟨v, ⟨⟨bV, bI, bT, bF, bD, bS, bH⟩, ⟨bR0, bR1, bR2, bR3, bR4⟩, ⟨bFo, bX, bNo⟩, ⟨bG0, bG1, bG2, bG3⟩, bOwn, bStr, bBes, bSn, bWl, bNd, bCl⟩⟩ := cb_r c
    have ck := cb_ck c
    have hlt : ¬ nI 8 ≤ nI i := nI_ge hi (by omega)
    obtain ⟨h2, e1, c1⟩ := cb_sets (s := i) (y := pv (sa_hv a i) (14 + i) / nI 2) c (by rw [sa_hv_len]; exact hl) hi
    refine ⟨_, ?_, h2, rfl, c1⟩
    unfold mm_G_halve_b2
    simp (disch := omega) only [pb_its, pb_l2, pb_ll, nI_add, pb_mul, if_true, if_false, pb_bs, pb_b2n, pb_bz0, pb_bz1, pb_10, pb_01, pb_i31, ck_is0 ck, ck_r0_0 ck, ck_r0_1 ck, ck_r0_2 ck, ck_r0_3 ck, ck_r0_4 ck, ck_r0_5 ck, ck_r0_6 ck, ck_r0_7 ck, ck_r0_8 ck, ck_r0_9 ck, ck_is1 ck, ck_r1_0 ck, ck_is3 ck, ck_r3_0 ck, ck_r3_1 ck, ck_is20 ck, ck_r20_0 ck, ck_r20_1 ck, ck_r20_2 ck, ck_is24 ck, ck_r24_1 ck, ck_r24_2 ck, ck_r24_3 ck, ck_r24_4 ck, ck_is33 ck, ck_r33_0 ck, ck_r33_1 ck, ck_is40 ck, ck_r40_0 ck, ck_is102 ck, ck_r102_0 ck, ck_r102_1 ck, ck_r102_2 ck, ck_r102_3 ck, ck_r102_4 ck, ck_r102_5 ck, ck_is103 ck, ck_r103_0 ck, ck_r103_1 ck, ck_is111 ck, ck_r111_0 ck, ck_r111_1 ck, ck_r111_2 ck, ck_r111_3 ck, ck_r111_4 ck, ck_is114 ck, ck_r114_0 ck, ck_r114_1 ck, ck_r114_2 ck, ck_r114_3 ck, ck_r114_4 ck, hlt, bSn i hi, pb_sd2, e1]) (by
    rintro s ⟨h', rfl, c⟩
    refine ⟨h', ?_, c⟩
    unfold mm_G_halve_b2
    simp (disch := omega) only [pb_its, pb_l2, pb_ll, nI_add, pb_mul, if_true, if_false, pb_bs, pb_b2n, pb_bz0, pb_bz1, pb_10, pb_01, pb_i31, nI_le (Nat.le_refl 8) (by omega : 8 < 2 ^ 31)])
  obtain ⟨h', l1, l2⟩ := key
  refine ⟨h', ?_, l2⟩
  unfold mm_G_halve
  simp (disch := omega) only [pb_its, pb_l2, pb_ll, nI_add, pb_mul, if_true, if_false, pb_bs, pb_b2n, pb_bz0, pb_bz1, pb_10, pb_01, pb_i31, ck_is0 hk, ck_r0_0 hk, ck_r0_1 hk, ck_r0_2 hk, ck_r0_3 hk, ck_r0_4 hk, ck_r0_5 hk, ck_r0_6 hk, ck_r0_7 hk, ck_r0_8 hk, ck_r0_9 hk, ck_is1 hk, ck_r1_0 hk, ck_is3 hk, ck_r3_0 hk, ck_r3_1 hk, ck_is20 hk, ck_r20_0 hk, ck_r20_1 hk, ck_r20_2 hk, ck_is24 hk, ck_r24_1 hk, ck_r24_2 hk, ck_r24_3 hk, ck_r24_4 hk, ck_is33 hk, ck_r33_0 hk, ck_r33_1 hk, ck_is40 hk, ck_r40_0 hk, ck_is102 hk, ck_r102_0 hk, ck_r102_1 hk, ck_r102_2 hk, ck_r102_3 hk, ck_r102_4 hk, ck_r102_5 hk, ck_is103 hk, ck_r103_0 hk, ck_r103_1 hk, ck_is111 hk, ck_r111_0 hk, ck_r111_1 hk, ck_r111_2 hk, ck_r111_3 hk, ck_r111_4 hk, ck_is114 hk, ck_r114_0 hk, ck_r114_1 hk, ck_r114_2 hk, ck_r114_3 hk, ck_r114_4 hk, l1]
theorem jx_thaw {N : Nat} {h h2 : ss_Hp} {T : List Nat} {a : List Int32} {fo x : Int32} {RS : List (List ru_C)} {US : List (List Int32)} {I : Nat → Option (List Int32 × Int32 × Int32)} (hc : cl_h h T a fo x RS US I) (hm : mo_h h2 T a fo x RS US I) (ha : as_ok T a fo x RS US I) (hN : 5000 < N) : jo (mm_S_thaw N (some 0) h) (mm_M_thaw N (some 118) h2) h h2 := by
  obtain ⟨Z, hb⟩ := cb_of hc
  obtain ⟨v, ⟨⟨bV, bI, bT, bF, bD, bS, bH⟩, ⟨bR0, bR1, bR2, bR3, bR4⟩, ⟨bFo, bX, bNo⟩, ⟨bG0, bG1, bG2, bG3⟩, bOwn, bStr, bBes, bSn, bWl, bNd, bCl⟩⟩ := cb_r hb
  have hk := cb_ck hb
  obtain ⟨th, fa, kp, dx, Y, hm1⟩ := mb_of hm
  have hk2 := mb_mk hm1
  have ha0 := ha
  obtain ⟨⟨Ht1, Ht2⟩, ⟨k, m, d, Hsd, Hul, Hu⟩, HRS, Hfo, Hx, HI⟩ := ha
  have Hok := Hsd.1
  obtain ⟨Hl, ⟨Hk, H2⟩, ⟨Hm, H3⟩, ⟨Hd, H10⟩, Hwl, Hbe, How⟩ := Hok
  have r4 := (cb_more hb).2.2.2 N (by omega)
  rw [sd_sum8 Hk Hsd.2.1] at r4
  have q4 := mb_sum (N := N) hm1 Hl Hk H2 (by omega)
  by_cases c0 : sa_sum a k = nI 0
  · rw [c0] at r4 q4
    by_cases ht : pv a 0 ≤ nI 0
    · have t0 : sa_told a = nI 0 := if_pos ht
      refine jo_no hc hm ha0 (r := -nI 1) ?_ ?_
      · unfold mm_S_thaw
        simp (disch := omega) only [pb_its, pb_l2, pb_ll, nI_add, pb_mul, if_true, if_false, pb_bs, pb_b2n, pb_bz0, pb_bz1, pb_10, pb_01, pb_i31, ck_is0 hk, ck_r0_0 hk, ck_r0_1 hk, ck_r0_2 hk, ck_r0_3 hk, ck_r0_4 hk, ck_r0_5 hk, ck_r0_6 hk, ck_r0_7 hk, ck_r0_8 hk, ck_r0_9 hk, ck_is1 hk, ck_r1_0 hk, ck_is3 hk, ck_r3_0 hk, ck_r3_1 hk, ck_is20 hk, ck_r20_0 hk, ck_r20_1 hk, ck_r20_2 hk, ck_is24 hk, ck_r24_1 hk, ck_r24_2 hk, ck_r24_3 hk, ck_r24_4 hk, ck_is33 hk, ck_r33_0 hk, ck_r33_1 hk, ck_is40 hk, ck_r40_0 hk, ck_is102 hk, ck_r102_0 hk, ck_r102_1 hk, ck_r102_2 hk, ck_r102_3 hk, ck_r102_4 hk, ck_r102_5 hk, ck_is103 hk, ck_r103_0 hk, ck_r103_1 hk, ck_is111 hk, ck_r111_0 hk, ck_r111_1 hk, ck_r111_2 hk, ck_r111_3 hk, ck_r111_4 hk, ck_is114 hk, ck_r114_0 hk, ck_r114_1 hk, ck_r114_2 hk, ck_r114_3 hk, ck_r114_4 hk, bV, bI, bT, bF, bD, bS, bH, bR0, bR1, bR2, bR3, bR4, bFo, bX, bNo, bG0, bG1, bG2, bG3, r4]
      · unfold mm_M_thaw mm_M_thaw_j14
        simp (disch := omega) only [pb_its, pb_l2, pb_ll, nI_add, pb_mul, if_true, if_false, pb_bs, pb_b2n, pb_bz0, pb_bz1, pb_10, pb_01, pb_i31, mk_is hk2, mk_g0 hk2, mk_g1 hk2, mk_g2 hk2, mk_g3 hk2, mk_g4 hk2, mk_g5 hk2, mk_g6 hk2, mk_g7 hk2, mk_g8 hk2, mk_g9 hk2, mk_g10 hk2, mk_g11 hk2, mk_g12 hk2, mk_g13 hk2, mk_g14 hk2, mk_g15 hk2, mk_g16 hk2, mk_g17 hk2, mk_g18 hk2, mk_g19 hk2, mk_g20 hk2, mk_g21 hk2, mk_g22 hk2, mb_isValley hm1 Hl, t0]
    · have t1 : sa_told a = nI 1 := if_neg ht
      refine jo_no hc hm ha0 (r := -nI 1) ?_ ?_
      · unfold mm_S_thaw
        simp (disch := omega) only [pb_its, pb_l2, pb_ll, nI_add, pb_mul, if_true, if_false, pb_bs, pb_b2n, pb_bz0, pb_bz1, pb_10, pb_01, pb_i31, ck_is0 hk, ck_r0_0 hk, ck_r0_1 hk, ck_r0_2 hk, ck_r0_3 hk, ck_r0_4 hk, ck_r0_5 hk, ck_r0_6 hk, ck_r0_7 hk, ck_r0_8 hk, ck_r0_9 hk, ck_is1 hk, ck_r1_0 hk, ck_is3 hk, ck_r3_0 hk, ck_r3_1 hk, ck_is20 hk, ck_r20_0 hk, ck_r20_1 hk, ck_r20_2 hk, ck_is24 hk, ck_r24_1 hk, ck_r24_2 hk, ck_r24_3 hk, ck_r24_4 hk, ck_is33 hk, ck_r33_0 hk, ck_r33_1 hk, ck_is40 hk, ck_r40_0 hk, ck_is102 hk, ck_r102_0 hk, ck_r102_1 hk, ck_r102_2 hk, ck_r102_3 hk, ck_r102_4 hk, ck_r102_5 hk, ck_is103 hk, ck_r103_0 hk, ck_r103_1 hk, ck_is111 hk, ck_r111_0 hk, ck_r111_1 hk, ck_r111_2 hk, ck_r111_3 hk, ck_r111_4 hk, ck_is114 hk, ck_r114_0 hk, ck_r114_1 hk, ck_r114_2 hk, ck_r114_3 hk, ck_r114_4 hk, bV, bI, bT, bF, bD, bS, bH, bR0, bR1, bR2, bR3, bR4, bFo, bX, bNo, bG0, bG1, bG2, bG3, r4]
      · unfold mm_M_thaw mm_M_thaw_j14
        simp (disch := omega) only [pb_its, pb_l2, pb_ll, nI_add, pb_mul, if_true, if_false, pb_bs, pb_b2n, pb_bz0, pb_bz1, pb_10, pb_01, pb_i31, mk_is hk2, mk_g0 hk2, mk_g1 hk2, mk_g2 hk2, mk_g3 hk2, mk_g4 hk2, mk_g5 hk2, mk_g6 hk2, mk_g7 hk2, mk_g8 hk2, mk_g9 hk2, mk_g10 hk2, mk_g11 hk2, mk_g12 hk2, mk_g13 hk2, mk_g14 hk2, mk_g15 hk2, mk_g16 hk2, mk_g17 hk2, mk_g18 hk2, mk_g19 hk2, mk_g20 hk2, mk_g21 hk2, mk_g22 hk2, mb_isValley hm1 Hl, t1, q4]
  have hk0 : 0 < k := by
    rcases Nat.eq_zero_or_pos k with e | e
    · subst e
      exact absurd rfl c0
    · exact e
  have ht := sd_step Hsd (Or.inl hk0)
  have t1 : sa_told a = nI 1 := if_neg ht
  have Hd9 : d ≤ 999 := Hsd.2.2.2.2.1
  obtain ⟨h1, e1, c1⟩ := cb_keep (N := N) hb ht Hul
  obtain ⟨h3, e2, c2⟩ := cb_halve (N := N) c1 Hl (by omega)
  obtain ⟨g1, f1, m1⟩ := mb_keepsAct (N := N) hm1 Hl Hul (by omega)
  have e2k : ∀ i, i ≤ 8 → pv (sa_hv a i) 2 = nI k := fun i hi => by rw [sa_hv_pv Hl i hi, if_neg (by omega)]; exact H2
  have key := pb_for (body := mm_M_thaw_b22 N (some 118)) k (fun i s => ∃ h', s = (nI i, h') ∧ mb_h h2 h' T a fo x RS (sl a 10 20 :: US.take 19) I fo (sa_hv a i) th fa kp dx Y) (fun e => mb_h h2 e T a fo x RS (sl a 10 20 :: US.take 19) I fo (sa_hv a k) th fa kp dx Y) (N := N) (s := (nI 0, g1)) (by omega) ⟨g1, rfl, m1⟩ (by
    rintro i s hi ⟨h', rfl, q⟩
    left
    have hkq := mb_mk q
    have hl2 : (sa_hv a i).length = 124 := by rw [sa_hv_len]; exact Hl
    have hlt : ¬ nI k ≤ nI i := nI_ge hi (by omega)
    obtain ⟨h2, p1, p2⟩ := mb_set (i := 14 + i) (y := pv (sa_hv a i) (14 + i) / nI 2) q hl2 (by omega)
    refine ⟨_, ?_, h2, rfl, p2⟩
    unfold mm_M_thaw_b22
    simp (disch := omega) only [pb_its, pb_l2, pb_ll, nI_add, pb_mul, if_true, if_false, pb_bs, pb_b2n, pb_bz0, pb_bz1, pb_10, pb_01, pb_i31, mk_is hkq, mk_g0 hkq, mk_g1 hkq, mk_g2 hkq, mk_g3 hkq, mk_g4 hkq, mk_g5 hkq, mk_g6 hkq, mk_g7 hkq, mk_g8 hkq, mk_g9 hkq, mk_g10 hkq, mk_g11 hkq, mk_g12 hkq, mk_g13 hkq, mk_g14 hkq, mk_g15 hkq, mk_g16 hkq, mk_g17 hkq, mk_g18 hkq, mk_g19 hkq, mk_g20 hkq, mk_g21 hkq, mk_g22 hkq, mb_said q hl2 (show 2 < 124 by omega), e2k i (by omega), hlt, mb_said q hl2 (show 14 + i < 124 by omega), pb_sd2, p1]) (by
    rintro s ⟨h', rfl, q⟩
    have hkq := mb_mk q
    have hl2 : (sa_hv a k).length = 124 := by rw [sa_hv_len]; exact Hl
    refine ⟨h', ?_, q⟩
    unfold mm_M_thaw_b22
    simp (disch := omega) only [pb_its, pb_l2, pb_ll, nI_add, pb_mul, if_true, if_false, pb_bs, pb_b2n, pb_bz0, pb_bz1, pb_10, pb_01, pb_i31, mk_is hkq, mk_g0 hkq, mk_g1 hkq, mk_g2 hkq, mk_g3 hkq, mk_g4 hkq, mk_g5 hkq, mk_g6 hkq, mk_g7 hkq, mk_g8 hkq, mk_g9 hkq, mk_g10 hkq, mk_g11 hkq, mk_g12 hkq, mk_g13 hkq, mk_g14 hkq, mk_g15 hkq, mk_g16 hkq, mk_g17 hkq, mk_g18 hkq, mk_g19 hkq, mk_g20 hkq, mk_g21 hkq, mk_g22 hkq, mb_said q hl2 (show 2 < 124 by omega), e2k k (by omega), nI_le (Nat.le_refl k) (by omega : k < 2 ^ 31)])
  obtain ⟨g2, f2, m2⟩ := key
  have m3 := mb_to m2
  rw [sa_hv8 Hl Hk Hsd.2.1] at c2
  have hl2 : (sa_hv a k).length = 124 := by rw [sa_hv_len]; exact Hl
  have e : ∀ j, j < 14 ∨ 22 ≤ j → pv (sa_hv a k) j = pv a j := fun j hj => by rw [sa_hv_pv Hl k Hk, if_neg (by omega)]
  have hsn : ∀ s, s < 8 → ∃ q, q ≤ 999 ∧ pv (sa_hv a k) (14 + s) = nI q ∧ (k ≤ s → q = 0) := fun s hs => by
    obtain ⟨q, q1, q2, q3⟩ := Hsd.2.1 s hs
    rw [sa_hv_pv Hl k Hk]
    by_cases c : 14 ≤ 14 + s ∧ 14 + s < 14 + k
    · rw [if_pos c, q2, pb_div2 (by omega)]
      exact ⟨q / 2, by omega, rfl, fun hh => by omega⟩
    · rw [if_neg c]
      exact ⟨q, q1, q2, q3⟩
  have r5 := (cb_more c2).2.2.2 N (by omega)
  rw [sd_sum8 Hk hsn] at r5
  have q5 := mb_sum (N := N) m2 hl2 Hk (e2k k Hk) (by omega)
  have k1 := cb_ck c1
  have k2 := cb_ck c2
  refine jo_st (as_act ha0 ht (fun k' m' d' hs' => ?_) (fun j hj => e j (by omega))) c2 m3 (r := sa_sum (sa_hv a k) k) ?_ ?_
  · have hk' : k' = k := (nI_eq (by have := hs'.1.2.1.1; omega) (by omega)).mp (hs'.1.2.1.2.symm.trans H2)
    subst hk'
    exact ⟨d', sd_ok_act hs' hl2 (fun j hj => e j (by omega)) hs'.2.2.2.2.1 (by rw [e _ (by omega)]; exact hs'.1.2.2.2.1.2) hsn (by rw [e _ (by omega)]; exact hs'.2.2.2.1) (fun s' hs'' => by rw [e _ (by omega)]; exact sd_walls hs' s' hs'')⟩
  · unfold mm_S_thaw
    simp (disch := omega) only [pb_its, pb_l2, pb_ll, nI_add, pb_mul, if_true, if_false, pb_bs, pb_b2n, pb_bz0, pb_bz1, pb_10, pb_01, pb_i31, ck_is0 hk, ck_r0_0 hk, ck_r0_1 hk, ck_r0_2 hk, ck_r0_3 hk, ck_r0_4 hk, ck_r0_5 hk, ck_r0_6 hk, ck_r0_7 hk, ck_r0_8 hk, ck_r0_9 hk, ck_is1 hk, ck_r1_0 hk, ck_is3 hk, ck_r3_0 hk, ck_r3_1 hk, ck_is20 hk, ck_r20_0 hk, ck_r20_1 hk, ck_r20_2 hk, ck_is24 hk, ck_r24_1 hk, ck_r24_2 hk, ck_r24_3 hk, ck_r24_4 hk, ck_is33 hk, ck_r33_0 hk, ck_r33_1 hk, ck_is40 hk, ck_r40_0 hk, ck_is102 hk, ck_r102_0 hk, ck_r102_1 hk, ck_r102_2 hk, ck_r102_3 hk, ck_r102_4 hk, ck_r102_5 hk, ck_is103 hk, ck_r103_0 hk, ck_r103_1 hk, ck_is111 hk, ck_r111_0 hk, ck_r111_1 hk, ck_r111_2 hk, ck_r111_3 hk, ck_r111_4 hk, ck_is114 hk, ck_r114_0 hk, ck_r114_1 hk, ck_r114_2 hk, ck_r114_3 hk, ck_r114_4 hk, bV, bI, bT, bF, bD, bS, bH, bR0, bR1, bR2, bR3, bR4, bFo, bX, bNo, bG0, bG1, bG2, bG3, r4, c0, e1, ck_r0_4 k1, ck_r24_1 k1, e2, ck_r0_4 k2, ck_r24_1 k2, r5]
  · unfold mm_M_thaw
    simp (disch := omega) only [pb_its, pb_l2, pb_ll, nI_add, pb_mul, if_true, if_false, pb_bs, pb_b2n, pb_bz0, pb_bz1, pb_10, pb_01, pb_i31, mk_is hk2, mk_g0 hk2, mk_g1 hk2, mk_g2 hk2, mk_g3 hk2, mk_g4 hk2, mk_g5 hk2, mk_g6 hk2, mk_g7 hk2, mk_g8 hk2, mk_g9 hk2, mk_g10 hk2, mk_g11 hk2, mk_g12 hk2, mk_g13 hk2, mk_g14 hk2, mk_g15 hk2, mk_g16 hk2, mk_g17 hk2, mk_g18 hk2, mk_g19 hk2, mk_g20 hk2, mk_g21 hk2, mk_g22 hk2, mb_isValley hm1 Hl, t1, q4, c0, f1, f2, q5]
