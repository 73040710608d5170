/-! ===== rule: a clause, class and model ===== -/
def cFs (h : ss_Hp) (T : List Nat) (F : Nat) (H : ss_Hp) : Prop := ∃ l c k cd sx p, cd.length = 400 ∧ sx.length = 25 ∧ pv sx 0 = nI 0 ∧ p ≤ T.length ∧ H = lx (rH h l c k cd sx) T (nI F) p
def sxN (sx : List Int32) (ci l : Nat) (x : ru_C) : List Int32 := (sx.set (2 * ci + 1) (nI (l + x.1.length))).set (2 * (ci + 1)) (nI (l + x.1.length + (x2 x).length))
theorem C_begin0 {h : ss_Hp} {l ci k : Nat} {cd sx : List Int32} {N : Nat} {T : List Nat} {p : Nat} (ht : tz h T) (hN : 500 < N) (hp : p ≤ T.length) (hci : ci ≤ 12) (hs : ¬ wis T (blk T p) rw_sweep) : mm_RR_readRule_b26 N (some 20) (nI 1, nI ci, lx (rH h l ci k cd sx) T (nI 0) p) = mm_RR_readRule_j130 N (some 20) (nI ci) (lx (rH h l ci k cd sx) T (nI (rr_f T p 0)) p) := by
  have c12 : (nI 12 < nI ci) = False := eq_false (nI_nlt hci (by omega))
  unfold mm_RR_readRule_b26 mm_RR_begins mm_RR_begins_j40
  simp only [pb_l2, pb_ll, nI_add, pb_mul, if_true, if_false, pb_bs, pb_b2n, pb_bz0, pb_bz1, pb_10, pb_01, rl_is, rl_r0, rl_r1, rl_r2, rl_j0, rl_j1, rl_j2, rl_p0, rl_p1, rl_p2, c12, T_isw0 (rH_tz ht) rw_sweep_ok hp hN hs, T_failr, T_welln (rf_n ht.1 hp (show 0 < 8 by omega))]
theorem C_begin4 {h : ss_Hp} {l ci k : Nat} {cd sx : List Int32} {N : Nat} {T : List Nat} {p : Nat} (ht : tz h T) (hN : 500 < N) (hp : p ≤ T.length) (hci : ci = 12) (hs : wis T (blk T p) rw_sweep) : mm_RR_readRule_b26 N (some 20) (nI 1, nI ci, lx (rH h l ci k cd sx) T (nI 0) p) = mm_RR_readRule_j130 N (some 20) (nI ci) (lx (rH h l ci k cd sx) T (nI (rr_f T p 4)) p) := by
  have c12 : (nI 12 < nI ci) = False := eq_false (nI_nlt (by omega) (by omega))
  have d12 : (nI ci < nI 12) = False := eq_false (nI_nlt (by omega) (by omega))
  unfold mm_RR_readRule_b26 mm_RR_begins mm_RR_begins_j40
  simp only [pb_l2, pb_ll, nI_add, pb_mul, if_true, if_false, pb_bs, pb_b2n, pb_bz0, pb_bz1, pb_10, pb_01, rl_is, rl_r0, rl_r1, rl_r2, rl_j0, rl_j1, rl_j2, rl_p0, rl_p1, rl_p2, c12, d12, T_isw1 (rH_tz ht) rw_sweep_ok hp hN hs, T_failr, T_welln (rf_n ht.1 hp (show 4 < 8 by omega))]
theorem C_j105 {h : ss_Hp} {l ci k : Nat} {cd sx : List Int32} {N : Nat} {T : List Nat} {p : Nat} {Fi : Int32} (hci : ci < 12) (hsx : sx.length = 25) : mm_RR_readRule_j105 N (some 20) (nI ci) (lx (rH h l ci k cd sx) T Fi p) = mm_RR_readRule_j130 N (some 20) (nI ci) (lx (rH h l (ci + 1) k cd (sx.set (2 * (ci + 1)) (nI l))) T Fi p) := by
  unfold mm_RR_readRule_j105
  simp only [pb_l2, pb_ll, nI_add, pb_mul, if_true, if_false, pb_bs, pb_b2n, pb_bz0, pb_bz1, pb_10, pb_01, rl_is, rl_r0, rl_r1, rl_r2, rl_j0, rl_j1, rl_j2, rl_p0, rl_p1, rl_p2, rl_u14 (show 2 * (ci + 1) < sx.length by omega) (show 2 * (ci + 1) < 2147483648 by omega)]
theorem C_clause {h : ss_Hp} {l ci k : Nat} {cd sx : List Int32} {N : Nat} {T : List Nat} {p : Nat} (ht : tz h T) (hN : 500 < N) (hp : p ≤ T.length) (hci : ci < 12) (hs : wis T (blk T p) rw_sweep) (hl : l ≤ p) (hk : k ≤ 60) (hcd : cd.length = 400) (hsx : sx.length = 25) (hs0 : pv sx 0 = nI 0) : match rK T p k with
    | .inl F => ∃ H, cFs h T F H ∧ mm_RR_readRule_b26 N (some 20) (nI 1, nI ci, lx (rH h l ci k cd sx) T (nI 0) p) = mm_RR_readRule_j130 N (some 20) (nI ci) H
    | .inr (p', x, k') => mm_RR_readRule_b26 N (some 20) (nI 1, nI ci, lx (rH h l ci k cd sx) T (nI 0) p) = mm_RR_readRule_j130 N (some 20) (nI ci) (lx (rH h (l + x.1.length + (x2 x).length) (ci + 1) k' (eW tk_C cd l (x.1 ++ x2 x)) (sxN sx ci l x)) T (nI 0) p') := by
  have hT := ht.1
  have c12 : (nI 12 < nI ci) = False := eq_false (nI_nlt (by omega) (by omega))
  have d12 : (nI ci < nI 12) = True := eq_true (nI_lt hci (by omega))
  have hq := blk_ub hp
  have hbl := blk_le (T := T) (p := p)
  have hen := en_w hs rw_sweep_wl hq
  have hub := eL_ub hq
  have S1 := C_sum (c := ci) (sx := sx) (k := k) (l := l) ht hN hub (by omega) hk hcd
  have G1 := gR_S (c := k) hT hub
  have K1 := kR_Sm (T := T) (p := eL T (blk T p)) (c := k)
  have lset : ∀ (y : Int32) (i : Nat), (sx.set i y).length = 25 := fun y i => by rw [List.length_set]; exact hsx
  unfold rK
  generalize mSm T (eL T (blk T p)) k = rr at S1 G1 K1 ⊢
  rcases rr with F | ⟨p1, E1, k1⟩
  · obtain ⟨l', k', cd', p', a1, a2, a3, a4⟩ := S1
    have hF : (nI F = nI 0) = False := pb_nn (by have := G1.1; omega) (by have := G1.2; omega) (by omega)
    refine ⟨lx (rH h l' (ci + 1) k' cd' ((sx.set (2 * ci + 1) (nI l')).set (2 * (ci + 1)) (nI l'))) T (nI F) p', ⟨l', ci + 1, k', cd', _, p', a2, by rw [List.length_set]; exact lset _ _, by rw [pv_ne (by omega), pv_ne (by omega)]; exact hs0, a3, rfl⟩, ?_⟩
    rw [← C_j105 hci (lset _ _)]
    unfold mm_RR_readRule_b26 mm_RR_begins mm_RR_begins_j40
    simp only [pb_l2, pb_ll, nI_add, pb_mul, if_true, if_false, pb_bs, pb_b2n, pb_bz0, pb_bz1, pb_10, pb_01, rl_is, rl_r0, rl_r1, rl_r2, rl_j0, rl_j1, rl_j2, rl_p0, rl_p1, rl_p2, c12, d12, T_isw1 (rH_tz ht) rw_sweep_ok hp hN hs, T_wellx, T_adv (rH_tz ht) hp hN, hen.1, a4, rl_u14 (show 2 * ci + 1 < sx.length by omega) (show 2 * ci + 1 < 2147483648 by omega), T_welln hF]
  · have S1 : mm_RR_readSum N (some 20) (lx (rH h l ci k cd sx) T (nI 0) (eL T (blk T p))) = some (lx (rH h (l + E1.length) ci k1 (eW tk_C cd l E1) sx) T (nI 0) p1) := S1
    obtain ⟨g1, g2, g3, -⟩ := G1
    have hk1 := K1 p1 E1 k1 rfl
    have hcd1 : (eW tk_C cd l E1).length = 400 := by rw [eW_len]; exact hcd
    have hq1 := blk_ub g2
    have hbl1 := blk_le (T := T) (p := p1)
    have sx1 := lset (nI (l + E1.length)) (2 * ci + 1)
    by_cases hi : wis T (blk T p1) rw_if
    · have hen1 := en_w hi rw_if_wl hq1
      have hub1 := eL_ub hq1
      have R := (C_rec (sx := sx.set (2 * ci + 1) (nI (l + E1.length))) (c := ci) ht hN 11 (by omega) (by omega)).2 (eL T (blk T p1)) (l + E1.length) k1 (eW tk_C cd l E1) hub1 (by omega) hk1 hcd1
      have R : cOut h T (sx.set (2 * ci + 1) (nI (l + E1.length))) (eW tk_C cd l E1) ci (l + E1.length) ((mm_RR_rec N 12).2 (some 20) (nI 0) (lx (rH h (l + E1.length) ci k1 (eW tk_C cd l E1) (sx.set (2 * ci + 1) (nI (l + E1.length)))) T (nI 0) (eL T (blk T p1)))) ((rX T 12).2 (eL T (blk T p1)) k1) := R
      have G2 : gR T (eL T (blk T p1)) 26 b01 ((rX T 12).2 (eL T (blk T p1)) k1) := (rX_good hT 11 (by omega)).2 (eL T (blk T p1)) k1 hub1
      show match (@ite _ (wis T (blk T p1) rw_if) (Classical.propDecidable _) _ _ : rK9) with
        | .inl F => _
        | .inr (p', x, k') => _
      rw [if_pos hi]
      generalize (rX T 12).2 (eL T (blk T p1)) k1 = rr at R G2 ⊢
      rcases rr with F | ⟨p2, E2, k2⟩
      · obtain ⟨l', k', cd', p', a1, a2, a3, a4⟩ := R
        refine ⟨lx (rH h l' (ci + 1) k' cd' ((sx.set (2 * ci + 1) (nI (l + E1.length))).set (2 * (ci + 1)) (nI l'))) T (nI F) p', ⟨l', ci + 1, k', cd', _, p', a2, by rw [List.length_set]; exact sx1, by rw [pv_ne (by omega), pv_ne (by omega)]; exact hs0, a3, rfl⟩, ?_⟩
        rw [← C_j105 hci sx1]
        unfold mm_RR_readRule_b26 mm_RR_begins mm_RR_begins_j40
        simp only [pb_l2, pb_ll, nI_add, pb_mul, if_true, if_false, pb_bs, pb_b2n, pb_bz0, pb_bz1, pb_10, pb_01, rl_is, rl_r0, rl_r1, rl_r2, rl_j0, rl_j1, rl_j2, rl_p0, rl_p1, rl_p2, c12, d12, T_isw1 (rH_tz ht) rw_sweep_ok hp hN hs, T_wellx, T_adv (rH_tz ht) hp hN, hen.1, S1, rl_u14 (show 2 * ci + 1 < sx.length by omega) (show 2 * ci + 1 < 2147483648 by omega), T_isw1 (rH_tz ht) rw_if_ok g2 hN hi, T_adv (rH_tz ht) g2 hN, hen1.1, a4]
      · have R : (mm_RR_rec N 12).2 (some 20) (nI 0) (lx (rH h (l + E1.length) ci k1 (eW tk_C cd l E1) (sx.set (2 * ci + 1) (nI (l + E1.length)))) T (nI 0) (eL T (blk T p1))) = some (lx (rH h (l + E1.length + E2.length) ci k2 (eW tk_C (eW tk_C cd l E1) (l + E1.length) E2) (sx.set (2 * ci + 1) (nI (l + E1.length)))) T (nI 0) p2) := R
        show _ = mm_RR_readRule_j130 N (some 20) (nI ci) (lx (rH h (l + E1.length + E2.length) (ci + 1) k2 (eW tk_C cd l (E1 ++ E2)) ((sx.set (2 * ci + 1) (nI (l + E1.length))).set (2 * (ci + 1)) (nI (l + E1.length + E2.length)))) T (nI 0) p2)
        rw [eW_app, ← C_j105 hci sx1]
        unfold mm_RR_readRule_b26 mm_RR_begins mm_RR_begins_j40
        simp only [pb_l2, pb_ll, nI_add, pb_mul, if_true, if_false, pb_bs, pb_b2n, pb_bz0, pb_bz1, pb_10, pb_01, rl_is, rl_r0, rl_r1, rl_r2, rl_j0, rl_j1, rl_j2, rl_p0, rl_p1, rl_p2, c12, d12, T_isw1 (rH_tz ht) rw_sweep_ok hp hN hs, T_wellx, T_adv (rH_tz ht) hp hN, hen.1, S1, rl_u14 (show 2 * ci + 1 < sx.length by omega) (show 2 * ci + 1 < 2147483648 by omega), T_isw1 (rH_tz ht) rw_if_ok g2 hN hi, T_adv (rH_tz ht) g2 hN, hen1.1, R]
    · show match (@ite _ (wis T (blk T p1) rw_if) (Classical.propDecidable _) _ _ : rK9) with
        | .inl F => _
        | .inr (p', x, k') => _
      rw [if_neg hi]
      show _ = mm_RR_readRule_j130 N (some 20) (nI ci) (lx (rH h (l + E1.length + 0) (ci + 1) k1 (eW tk_C cd l (E1 ++ [])) ((sx.set (2 * ci + 1) (nI (l + E1.length))).set (2 * (ci + 1)) (nI (l + E1.length + 0)))) T (nI 0) p1)
      rw [List.append_nil, Nat.add_zero, ← C_j105 hci sx1]
      unfold mm_RR_readRule_b26 mm_RR_begins mm_RR_begins_j40
      simp only [pb_l2, pb_ll, nI_add, pb_mul, if_true, if_false, pb_bs, pb_b2n, pb_bz0, pb_bz1, pb_10, pb_01, rl_is, rl_r0, rl_r1, rl_r2, rl_j0, rl_j1, rl_j2, rl_p0, rl_p1, rl_p2, c12, d12, T_isw1 (rH_tz ht) rw_sweep_ok hp hN hs, T_wellx, T_adv (rH_tz ht) hp hN, hen.1, S1, rl_u14 (show 2 * ci + 1 < sx.length by omega) (show 2 * ci + 1 < 2147483648 by omega), T_isw0 (rH_tz ht) rw_if_ok g2 hN hi]
/-! the model's clause -/
def clN (cl : List Int32) (b ci l : Nat) (x : ru_C) : List Int32 := match x.2 with
  | none => (((cl.set (b + 4 * ci) (nI l)).set (b + 4 * ci + 1) (nI (l + x.1.length))).set (b + 4 * ci + 2) (-nI 1)).set (b + 4 * ci + 3) (nI (l + x.1.length))
  | some t => ((((cl.set (b + 4 * ci) (nI l)).set (b + 4 * ci + 1) (nI (l + x.1.length))).set (b + 4 * ci + 2) (-nI 1)).set (b + 4 * ci + 2) (nI (l + x.1.length))).set (b + 4 * ci + 3) (nI (l + x.1.length + t.length))
def clK (r : Nat) (cl cl' : List Int32) : Prop := cl'.length = 288 ∧ ∀ i, i < 48 * r → pv cl' i = pv cl i
def kOut (T : List Nat) (r l ci : Nat) (cl sg : List Int32) (MK : Int32 → Int32 → Int32 → Int32 → Int32 → Int32 → Int32 → Int32 → Int32 → List Int32 → List Int32 → List Int32 → ss_Hp) (o : Option (Int32 × ss_Hp)) : rK9 → Prop
  | .inl F => ∃ z2 z4 z6 z7 z8 z9 zl cl' op sg', clK r cl cl' ∧ sgK r sg sg' ∧ op.length = 400 ∧ o = some (nI 0, MK z2 (nI F) z4 z6 z7 z8 z9 zl (nI ci) cl' op sg')
  | .inr (p', x, k') => ∃ p1 z4 z7 z9 op, p1 ≤ T.length ∧ blk T p1 = blk T p' ∧ op.length = 400 ∧ o = some (nI 1, MK (nI p1) (nI 0) z4 (nI k') z7 (nI (ci + 1)) z9 (nI (l + x.1.length + (x2 x).length)) (nI (ci + 1)) (clN cl (48 * r) ci l x) op (eW tk_M sg (400 * r + l) (x.1 ++ x2 x)))
section MZ9
variable {n : Nat} {f : Nat → ss_Cl} {m0 m1 m2 m3 m4 m5 m6 m7 m8 m9 m10 m11 m12 m13 m14 m15 : Int32} {dx : Int64} {tp : List Int32} {sg : List Int32} {lg : List Int32} {cl : List Int32} {cs : List Int32} {rd : List Int32} {op : List Int32} {sk : List Int64} {wd : List Int64} {sd : List Int32} {th : List Int32} {fa : List Int32} {ws : List Int32} {kp : List Int32} {li : List Int32} {pr : List Int32} {hb : List Int32} {fi : List Int32} {st : List Int32} {im : List Int32} {jf : List Int32} {jx : List Int32} {mk : List Int32} {N : Nat}
variable {T : List Nat} {r p p0 q k l ci : Nat}
theorem M_cl0 (hm : mz tp T) (hp : p ≤ T.length) (h0 : p0 ≤ T.length) (hb0 : blk T p0 = blk T p) (hN : 500 < N) (hr : r < 6) (hs : ¬ wis T (blk T p) rw_sweep) : mm_M_clauseHere N (some 118) (pm_M n f (mL (nI T.length) m1 (nI p0) (nI 0) m4 (nI r) m6 m7 m8 m9 m10 m11 m12 m13 m14 m15) dx tp sg lg cl cs rd op sk wd sd th fa ws kp li pr hb fi st im jf jx mk) = some (nI 0, (pm_M n f (mL (nI T.length) m1 (nI (blk T p)) (nI (rr_f T p 0)) m4 (nI r) m6 m7 m8 m9 m10 m11 m12 m13 m14 m15) dx tp sg lg cl cs rd op sk wd sd th fa ws kp li pr hb fi st im jf jx mk)) := by
  have n6 : (nI r = nI 6) = False := pb_nn (by omega) (by omega) (by omega)
  unfold mm_M_clauseHere mm_M_clauseHere_j24 mm_M_clauseHere_j49
  simp only [pb_l2, pb_ll, nI_add, pb_mul, if_true, if_false, pb_bs, pb_b2n, pb_bz0, pb_bz1, pb_10, pb_01, pn_is, pn_g0, pn_g1, pn_g2, pn_g3, pn_g4, pn_g5, pn_g6, pn_g9, mL_g0, mL_p0, mL_g1, mL_p1, mL_g2, mL_p2, mL_g3, mL_p3, mL_g4, mL_p4, mL_g5, mL_p5, mL_g6, mL_p6, mL_g7, mL_p7, mL_g8, mL_p8, mL_g9, mL_p9, mL_g10, mL_p10, mL_g11, mL_p11, mL_g12, mL_p12, mL_g13, mL_p13, mL_g14, mL_p14, mL_g15, mL_p15, M_see2 hm h0 hb0 hN, n6, M_w0 hm (blk_ub hp) blk_id hN rw_sweep_wl rw_sweep_pk hs, M_fail]
  rfl
theorem M_cl4 (hm : mz tp T) (hp : p ≤ T.length) (h0 : p0 ≤ T.length) (hb0 : blk T p0 = blk T p) (hN : 500 < N) (hr : r < 6) (hs : wis T (blk T p) rw_sweep) : mm_M_clauseHere N (some 118) (pm_M n f (mL (nI T.length) m1 (nI p0) (nI 0) m4 (nI r) m6 m7 (nI 12) m9 m10 m11 m12 m13 m14 m15) dx tp sg lg cl cs rd op sk wd sd th fa ws kp li pr hb fi st im jf jx mk) = some (nI 0, (pm_M n f (mL (nI T.length) m1 (nI (blk T p)) (nI (rr_f T p 4)) m4 (nI r) m6 m7 (nI 12) m9 m10 m11 m12 m13 m14 m15) dx tp sg lg cl cs rd op sk wd sd th fa ws kp li pr hb fi st im jf jx mk)) := by
  have n6 : (nI r = nI 6) = False := pb_nn (by omega) (by omega) (by omega)
  unfold mm_M_clauseHere mm_M_clauseHere_j24 mm_M_clauseHere_j56 mm_M_clauseHere_j71
  simp only [pb_l2, pb_ll, nI_add, pb_mul, if_true, if_false, pb_bs, pb_b2n, pb_bz0, pb_bz1, pb_10, pb_01, pn_is, pn_g0, pn_g1, pn_g2, pn_g3, pn_g4, pn_g5, pn_g6, pn_g9, mL_g0, mL_p0, mL_g1, mL_p1, mL_g2, mL_p2, mL_g3, mL_p3, mL_g4, mL_p4, mL_g5, mL_p5, mL_g6, mL_p6, mL_g7, mL_p7, mL_g8, mL_p8, mL_g9, mL_p9, mL_g10, mL_p10, mL_g11, mL_p11, mL_g12, mL_p12, mL_g13, mL_p13, mL_g14, mL_p14, mL_g15, mL_p15, M_see2 hm h0 hb0 hN, n6, M_w1 hm (blk_ub hp) blk_id hN rw_sweep_wl rw_sweep_pk hs, M_fail]
  rfl
theorem M_clh (hm : mz tp T) (hp : p ≤ T.length) (h0 : p0 ≤ T.length) (hb0 : blk T p0 = blk T p) (hN : 500 < N) (hr : r < 6) (hs : wis T (blk T p) rw_sweep) (hci : ci < 12) : mm_M_clauseHere N (some 118) (pm_M n f (mL (nI T.length) m1 (nI p0) m3 m4 (nI r) m6 m7 (nI ci) m9 m10 m11 m12 m13 m14 m15) dx tp sg lg cl cs rd op sk wd sd th fa ws kp li pr hb fi st im jf jx mk) = ss_b2 (mm_M_isSweepHere N (some 118) (pm_M n f (mL (nI T.length) m1 (nI (blk T p)) m3 m4 (nI r) m6 m7 (nI (ci + 1)) m9 m10 m11 m12 m13 m14 m15) dx tp sg lg cl cs rd op sk wd sd th fa ws kp li pr hb fi st im jf jx mk)) fun v9 h10 => (ss_bz v9).bind fun v4 => some (v4, h10) := by
  have n6 : (nI r = nI 6) = False := pb_nn (by omega) (by omega) (by omega)
  have n12 : (nI ci = nI 12) = False := pb_nn (by omega) (by omega) (by omega)
  unfold mm_M_clauseHere mm_M_clauseHere_j24 mm_M_clauseHere_j56 mm_M_clauseHere_j71 mm_M_clauseHere_j107
  simp only [pb_l2, pb_ll, nI_add, pb_mul, if_true, if_false, pb_bs, pb_b2n, pb_bz0, pb_bz1, pb_10, pb_01, pn_is, pn_g0, pn_g1, pn_g2, pn_g3, pn_g4, pn_g5, pn_g6, pn_g9, mL_g0, mL_p0, mL_g1, mL_p1, mL_g2, mL_p2, mL_g3, mL_p3, mL_g4, mL_p4, mL_g5, mL_p5, mL_g6, mL_p6, mL_g7, mL_p7, mL_g8, mL_p8, mL_g9, mL_p9, mL_g10, mL_p10, mL_g11, mL_p11, mL_g12, mL_p12, mL_g13, mL_p13, mL_g14, mL_p14, mL_g15, mL_p15, M_see2 hm h0 hb0 hN, n6, n12, M_w1 hm (blk_ub hp) blk_id hN rw_sweep_wl rw_sweep_pk hs]
theorem M_j110 {c9 : List Int32} {a9 l9 : Nat} (hr : r < 6) (hlg : lg.length = 7) (hcs : cs.length = 6) (hC : c9.length = 288) (ha : a9 + 3 < 288) : mm_M_isSweepHere_j110 N (some 118) (nI a9) (pm_M n f (mL m0 m1 m2 m3 m4 (nI r) m6 m7 m8 m9 m10 m11 m12 m13 m14 m15) dx tp sg (lg.set r (nI l9)) c9 (cs.set r (nI ci)) rd op sk wd sd th fa ws kp li pr hb fi st im jf jx mk) = some (nI 1, (pm_M n f (mL m0 m1 m2 m3 m4 (nI r) m6 m7 m8 m9 m10 m11 m12 m13 m14 m15) dx tp sg (lg.set r (nI l9)) (c9.set (a9 + 3) (nI l9)) (cs.set r (nI (ci + 1))) rd op sk wd sd th fa ws kp li pr hb fi st im jf jx mk)) := by
  have ecs : pv (cs.set r (nI ci)) r = nI ci := pv_eq (by omega)
  have elg : ∀ y : Int32, pv (lg.set r y) r = y := fun y => pv_eq (by omega)
  have ecs2 : (cs.set r (nI ci)).set r (nI (ci + 1)) = cs.set r (nI (ci + 1)) := by rw [List.set_set]
  unfold mm_M_isSweepHere_j110
  simp (disch := ((try simp only [List.length_set, sl_len]); omega)) only [pb_l2, pb_ll, nI_add, pb_mul, if_true, if_false, pb_bs, pb_b2n, pb_bz0, pb_bz1, pb_10, pb_01, pn_is, pn_g0, pn_g1, pn_g2, pn_g3, pn_g4, pn_g5, pn_g6, pn_g9, mL_g0, mL_p0, mL_g1, mL_p1, mL_g2, mL_p2, mL_g3, mL_p3, mL_g4, mL_p4, mL_g5, mL_p5, mL_g6, mL_p6, mL_g7, mL_p7, mL_g8, mL_p8, mL_g9, mL_p9, mL_g10, mL_p10, mL_g11, mL_p11, mL_g12, mL_p12, mL_g13, mL_p13, mL_g14, mL_p14, mL_g15, mL_p15, pn_a4, pn_a2, pn_u3, pn_u4, ecs, ecs2, elg]
theorem M_clause (hm : mz tp T) (hN : 500 < N) (hr : r < 6) (hlg : lg.length = 7) (hp : p ≤ T.length) (h0 : p0 ≤ T.length) (hb0 : blk T p0 = blk T p) (hsg : sg.length = 2400) (hk : k ≤ 60) (hs : wis T (blk T p) rw_sweep) (hci : ci < 12) (hl : l ≤ p) (hcs : cs.length = 6) (hcl : cl.length = 288) (hop : op.length = 400) : kOut T r l ci cl sg (fun z2 z3 z4 z6 z7 z8 z9 zl zc cl op sg => (pm_M n f (mL (nI T.length) m1 z2 z3 z4 (nI r) z6 z7 z8 z9 m10 m11 m12 m13 m14 m15) dx tp sg (lg.set r zl) cl (cs.set r zc) rd op sk wd sd th fa ws kp li pr hb fi st im jf jx mk)) (mm_M_clauseHere N (some 118) (pm_M n f (mL (nI T.length) m1 (nI p0) (nI 0) m4 (nI r) (nI k) m7 (nI ci) m9 m10 m11 m12 m13 m14 m15) dx tp sg (lg.set r (nI l)) cl (cs.set r (nI ci)) rd op sk wd sd th fa ws kp li pr hb fi st im jf jx mk)) (rK T p k) := by
  have hT := hm.1
  have hq := blk_ub hp
  have hbl := blk_le (T := T) (p := p)
  have hen := en_w hs rw_sweep_wl hq
  have hub := eL_ub hq
  have ecs : pv (cs.set r (nI ci)) r = nI ci := pv_eq (by omega)
  have elg : ∀ y : Int32, pv (lg.set r y) r = y := fun y => pv_eq (by omega)
  rw [M_clh hm hp h0 hb0 hN hr hs hci]
  have V := M_sum (p := eL T (blk T p)) (p0 := eL T (blk T p)) (k := k) (l := l) (m4 := m4) (sg := sg) (n := n) (f := f) (m1 := m1) (m7 := m7) (m8 := nI (ci + 1)) (m9 := m9) (m10 := m10) (m11 := m11) (m12 := m12) (m13 := m13) (m14 := m14) (m15 := m15) (dx := dx) (cl := cl.set (48 * r + 4 * ci) (nI l)) (cs := cs.set r (nI ci)) (rd := rd) (op := op) (sk := sk) (wd := wd) (sd := sd) (th := th) (fa := fa) (ws := ws) (kp := kp) (li := li) (pr := pr) (hb := hb) (fi := fi) (st := st) (im := im) (jf := jf) (jx := jx) (mk := mk) hm hN hr hlg hub hub rfl hsg hk (by omega)
  have G1 := gR_S (c := k) hT hub
  have K1 := kR_Sm (T := T) (p := eL T (blk T p)) (c := k)
  unfold rK
  generalize mSm T (eL T (blk T p)) k = rr at V G1 K1 ⊢
  rcases rr with F | ⟨p1, E1, k1⟩
  · obtain ⟨z2, z4, z6, zl, sg2, s1, V⟩ := V
    refine ⟨z2, z4, z6, m7, nI (ci + 1), m9, zl, cl.set (48 * r + 4 * ci) (nI l), op, sg2, ⟨by rw [List.length_set]; exact hcl, fun i hi => pv_ne (by omega)⟩, s1, hop, ?_⟩
    unfold mm_M_isSweepHere
    simp (disch := ((try simp only [List.length_set, sl_len]); omega)) only [pb_l2, pb_ll, nI_add, pb_mul, if_true, if_false, pb_bs, pb_b2n, pb_bz0, pb_bz1, pb_10, pb_01, pn_is, pn_g0, pn_g1, pn_g2, pn_g3, pn_g4, pn_g5, pn_g6, pn_g9, mL_g0, mL_p0, mL_g1, mL_p1, mL_g2, mL_p2, mL_g3, mL_p3, mL_g4, mL_p4, mL_g5, mL_p5, mL_g6, mL_p6, mL_g7, mL_p7, mL_g8, mL_p8, mL_g9, mL_p9, mL_g10, mL_p10, mL_g11, mL_p11, mL_g12, mL_p12, mL_g13, mL_p13, mL_g14, mL_p14, mL_g15, mL_p15, M_pass hm hq hN, pn_a4, pn_a2, pn_u3, ecs, elg, V]
  · obtain ⟨p2, z4, q1, q2, V⟩ := V
    obtain ⟨g1, g2, g3, -⟩ := G1
    have hk1 := K1 p1 E1 k1 rfl
    have hq1 := blk_ub g2
    have hbl1 := blk_le (T := T) (p := p1)
    have hs1 : (eW tk_M sg (400 * r + l) E1).length = 2400 := by rw [eW_len]; exact hsg
    by_cases hi : wis T (blk T p1) rw_if
    · have hen1 := en_w hi rw_if_wl hq1
      have hub1 := eL_ub hq1
      have W := M_tested (p := eL T (blk T p1)) (p0 := eL T (blk T p1)) (k := k1) (l := l + E1.length) (m4 := z4) (sg := eW tk_M sg (400 * r + l) E1) (n := n) (f := f) (m1 := m1) (m7 := m7) (m8 := nI (ci + 1)) (m9 := m9) (m10 := m10) (m11 := m11) (m12 := m12) (m13 := m13) (m14 := m14) (m15 := m15) (dx := dx) (cl := (((cl.set (48 * r + 4 * ci) (nI l)).set (48 * r + 4 * ci + 1) (nI (l + E1.length))).set (48 * r + 4 * ci + 2) (-nI 1)).set (48 * r + 4 * ci + 2) (nI (l + E1.length))) (cs := cs.set r (nI ci)) (rd := rd) (op := op) (sk := sk) (wd := wd) (sd := sd) (th := th) (fa := fa) (ws := ws) (kp := kp) (li := li) (pr := pr) (hb := hb) (fi := fi) (st := st) (im := im) (jf := jf) (jx := jx) (mk := mk) hm hN hr hlg hub1 hub1 rfl hs1 hk1 hop (by omega)
      have G2 : gR T (eL T (blk T p1)) 26 b01 ((rX T 12).2 (eL T (blk T p1)) k1) := (rX_good hT 11 (by omega)).2 (eL T (blk T p1)) k1 hub1
      have tw : mm_M_takesWord N (some 118) (lN 26982) (pm_M n f (mL (nI T.length) m1 (nI p2) (nI 0) z4 (nI r) (nI k1) m7 (nI (ci + 1)) m9 m10 m11 m12 m13 m14 m15) dx tp (eW tk_M sg (400 * r + l) E1) (lg.set r (nI (l + E1.length))) (((cl.set (48 * r + 4 * ci) (nI l)).set (48 * r + 4 * ci + 1) (nI (l + E1.length))).set (48 * r + 4 * ci + 2) (-nI 1)) (cs.set r (nI ci)) rd op sk wd sd th fa ws kp li pr hb fi st im jf jx mk) = some (nI 1, (pm_M n f (mL (nI T.length) m1 (nI (eL T (blk T p1))) (nI 0) z4 (nI r) (nI k1) m7 (nI (ci + 1)) m9 m10 m11 m12 m13 m14 m15) dx tp (eW tk_M sg (400 * r + l) E1) (lg.set r (nI (l + E1.length))) (((cl.set (48 * r + 4 * ci) (nI l)).set (48 * r + 4 * ci + 1) (nI (l + E1.length))).set (48 * r + 4 * ci + 2) (-nI 1)) (cs.set r (nI ci)) rd op sk wd sd th fa ws kp li pr hb fi st im jf jx mk)) := by
        unfold mm_M_takesWord
        simp only [pb_l2, pb_ll, nI_add, pb_mul, if_true, if_false, pb_bs, pb_b2n, pb_bz0, pb_bz1, pb_10, pb_01, pn_is, pn_g0, pn_g1, pn_g2, pn_g3, pn_g4, pn_g5, pn_g6, pn_g9, mL_g0, mL_p0, mL_g1, mL_p1, mL_g2, mL_p2, mL_g3, mL_p3, mL_g4, mL_p4, mL_g5, mL_p5, mL_g6, mL_p6, mL_g7, mL_p7, mL_g8, mL_p8, mL_g9, mL_p9, mL_g10, mL_p10, mL_g11, mL_p11, mL_g12, mL_p12, mL_g13, mL_p13, mL_g14, mL_p14, mL_g15, mL_p15, M_word1 hm q1 hN rw_if_wl rw_if_pk (by rw [q2]; exact hi), q2, M_pass hm hq1 hN]
      show kOut T r l ci cl sg (fun z2 z3 z4 z6 z7 z8 z9 zl zc cl op sg => (pm_M n f (mL (nI T.length) m1 z2 z3 z4 (nI r) z6 z7 z8 z9 m10 m11 m12 m13 m14 m15) dx tp sg (lg.set r zl) cl (cs.set r zc) rd op sk wd sd th fa ws kp li pr hb fi st im jf jx mk)) _ (@ite _ (wis T (blk T p1) rw_if) (Classical.propDecidable _) _ _)
      rw [if_pos hi]
      generalize (rX T 12).2 (eL T (blk T p1)) k1 = rr at W G2 ⊢
      rcases rr with F | ⟨p3, E2, k2⟩
      · obtain ⟨z2, z4', z6, z7, z9, zl, op', sg', s1, s2, W⟩ := W
        refine ⟨z2, z4', z6, z7, nI (ci + 1), z9, zl, (((cl.set (48 * r + 4 * ci) (nI l)).set (48 * r + 4 * ci + 1) (nI (l + E1.length))).set (48 * r + 4 * ci + 2) (-nI 1)).set (48 * r + 4 * ci + 2) (nI (l + E1.length)), op', sg', ⟨?_, ?_⟩, sgK_e s1, s2, ?_⟩
        · rw [List.length_set, List.length_set, List.length_set, List.length_set]; exact hcl
        · intro i hi
          rw [pv_ne (by omega), pv_ne (by omega), pv_ne (by omega), pv_ne (by omega)]
        · unfold mm_M_isSweepHere
          simp (disch := ((try simp only [List.length_set, sl_len]); omega)) only [pb_l2, pb_ll, nI_add, pb_mul, if_true, if_false, pb_bs, pb_b2n, pb_bz0, pb_bz1, pb_10, pb_01, pn_is, pn_g0, pn_g1, pn_g2, pn_g3, pn_g4, pn_g5, pn_g6, pn_g9, mL_g0, mL_p0, mL_g1, mL_p1, mL_g2, mL_p2, mL_g3, mL_p3, mL_g4, mL_p4, mL_g5, mL_p5, mL_g6, mL_p6, mL_g7, mL_p7, mL_g8, mL_p8, mL_g9, mL_p9, mL_g10, mL_p10, mL_g11, mL_p11, mL_g12, mL_p12, mL_g13, mL_p13, mL_g14, mL_p14, mL_g15, mL_p15, M_pass hm hq hN, pn_a4, pn_a2, pn_u3, ecs, elg, V, tw, W]
      · obtain ⟨p4, z4', z7, z9, op', b1, b2, b3, W⟩ := W
        refine ⟨p4, z4', z7, z9, op', b1, b2, b3, ?_⟩
        have eapp : eW tk_M sg (400 * r + l) (E1 ++ x2 (E1, some E2)) = eW tk_M (eW tk_M sg (400 * r + l) E1) (400 * r + (l + E1.length)) E2 := by
          show eW tk_M sg (400 * r + l) (E1 ++ E2) = _
          rw [eW_app, Nat.add_assoc]
        rw [eapp]
        have J := M_j110 (N := N) (l9 := l + E1.length + E2.length) (a9 := 48 * r + 4 * ci) (ci := ci) (n := n) (f := f) (m0 := nI T.length) (m1 := m1) (m2 := nI p4) (m3 := nI 0) (m4 := z4') (m6 := nI k2) (m7 := z7) (m8 := nI (ci + 1)) (m9 := z9) (m10 := m10) (m11 := m11) (m12 := m12) (m13 := m13) (m14 := m14) (m15 := m15) (dx := dx) (tp := tp) (sg := eW tk_M (eW tk_M sg (400 * r + l) E1) (400 * r + (l + E1.length)) E2) (rd := rd) (op := op') (sk := sk) (wd := wd) (sd := sd) (th := th) (fa := fa) (ws := ws) (kp := kp) (li := li) (pr := pr) (hb := hb) (fi := fi) (st := st) (im := im) (jf := jf) (jx := jx) (mk := mk) hr hlg hcs (c9 := (((cl.set (48 * r + 4 * ci) (nI l)).set (48 * r + 4 * ci + 1) (nI (l + E1.length))).set (48 * r + 4 * ci + 2) (-nI 1)).set (48 * r + 4 * ci + 2) (nI (l + E1.length))) (by rw [List.length_set, List.length_set, List.length_set, List.length_set]; exact hcl) (by omega)
        unfold mm_M_isSweepHere
        simp (config := { maxSteps := 2000000 }) (disch := ((try simp only [List.length_set, sl_len]); omega)) only [pb_l2, pb_ll, nI_add, pb_mul, if_true, if_false, pb_bs, pb_b2n, pb_bz0, pb_bz1, pb_10, pb_01, pn_is, pn_g0, pn_g1, pn_g2, pn_g3, pn_g4, pn_g5, pn_g6, pn_g9, mL_g0, mL_p0, mL_g1, mL_p1, mL_g2, mL_p2, mL_g3, mL_p3, mL_g4, mL_p4, mL_g5, mL_p5, mL_g6, mL_p6, mL_g7, mL_p7, mL_g8, mL_p8, mL_g9, mL_p9, mL_g10, mL_p10, mL_g11, mL_p11, mL_g12, mL_p12, mL_g13, mL_p13, mL_g14, mL_p14, mL_g15, mL_p15, M_pass hm hq hN, pn_a4, pn_a2, pn_u3, ecs, elg, V, tw, W, J]
        rfl
    · have tw : mm_M_takesWord N (some 118) (lN 26982) (pm_M n f (mL (nI T.length) m1 (nI p2) (nI 0) z4 (nI r) (nI k1) m7 (nI (ci + 1)) m9 m10 m11 m12 m13 m14 m15) dx tp (eW tk_M sg (400 * r + l) E1) (lg.set r (nI (l + E1.length))) (((cl.set (48 * r + 4 * ci) (nI l)).set (48 * r + 4 * ci + 1) (nI (l + E1.length))).set (48 * r + 4 * ci + 2) (-nI 1)) (cs.set r (nI ci)) rd op sk wd sd th fa ws kp li pr hb fi st im jf jx mk) = some (nI 0, (pm_M n f (mL (nI T.length) m1 (nI (blk T p1)) (nI 0) z4 (nI r) (nI k1) m7 (nI (ci + 1)) m9 m10 m11 m12 m13 m14 m15) dx tp (eW tk_M sg (400 * r + l) E1) (lg.set r (nI (l + E1.length))) (((cl.set (48 * r + 4 * ci) (nI l)).set (48 * r + 4 * ci + 1) (nI (l + E1.length))).set (48 * r + 4 * ci + 2) (-nI 1)) (cs.set r (nI ci)) rd op sk wd sd th fa ws kp li pr hb fi st im jf jx mk)) := by
        unfold mm_M_takesWord
        simp only [pb_l2, pb_ll, nI_add, pb_mul, if_true, if_false, pb_bs, pb_b2n, pb_bz0, pb_bz1, pb_10, pb_01, pn_is, pn_g0, pn_g1, pn_g2, pn_g3, pn_g4, pn_g5, pn_g6, pn_g9, mL_g0, mL_p0, mL_g1, mL_p1, mL_g2, mL_p2, mL_g3, mL_p3, mL_g4, mL_p4, mL_g5, mL_p5, mL_g6, mL_p6, mL_g7, mL_p7, mL_g8, mL_p8, mL_g9, mL_p9, mL_g10, mL_p10, mL_g11, mL_p11, mL_g12, mL_p12, mL_g13, mL_p13, mL_g14, mL_p14, mL_g15, mL_p15, M_word0 hm q1 hN rw_if_wl rw_if_pk (by rw [q2]; exact hi), q2]
      show kOut T r l ci cl sg (fun z2 z3 z4 z6 z7 z8 z9 zl zc cl op sg => (pm_M n f (mL (nI T.length) m1 z2 z3 z4 (nI r) z6 z7 z8 z9 m10 m11 m12 m13 m14 m15) dx tp sg (lg.set r zl) cl (cs.set r zc) rd op sk wd sd th fa ws kp li pr hb fi st im jf jx mk)) _ (@ite _ (wis T (blk T p1) rw_if) (Classical.propDecidable _) _ _)
      rw [if_neg hi]
      refine ⟨blk T p1, z4, m7, m9, op, hq1, blk_id, hop, ?_⟩
      have eapp : eW tk_M sg (400 * r + l) (E1 ++ x2 (E1, none)) = eW tk_M sg (400 * r + l) E1 := by
        show eW tk_M sg (400 * r + l) (E1 ++ []) = _
        rw [List.append_nil]
      rw [eapp]
      have J := M_j110 (N := N) (l9 := l + E1.length) (a9 := 48 * r + 4 * ci) (ci := ci) (n := n) (f := f) (m0 := nI T.length) (m1 := m1) (m2 := nI (blk T p1)) (m3 := nI 0) (m4 := z4) (m6 := nI k1) (m7 := m7) (m8 := nI (ci + 1)) (m9 := m9) (m10 := m10) (m11 := m11) (m12 := m12) (m13 := m13) (m14 := m14) (m15 := m15) (dx := dx) (tp := tp) (sg := eW tk_M sg (400 * r + l) E1) (rd := rd) (op := op) (sk := sk) (wd := wd) (sd := sd) (th := th) (fa := fa) (ws := ws) (kp := kp) (li := li) (pr := pr) (hb := hb) (fi := fi) (st := st) (im := im) (jf := jf) (jx := jx) (mk := mk) hr hlg hcs (c9 := ((cl.set (48 * r + 4 * ci) (nI l)).set (48 * r + 4 * ci + 1) (nI (l + E1.length))).set (48 * r + 4 * ci + 2) (-nI 1)) (by rw [List.length_set, List.length_set, List.length_set]; exact hcl) (by omega)
      unfold mm_M_isSweepHere
      simp (config := { maxSteps := 2000000 }) (disch := ((try simp only [List.length_set, sl_len]); omega)) only [pb_l2, pb_ll, nI_add, pb_mul, if_true, if_false, pb_bs, pb_b2n, pb_bz0, pb_bz1, pb_10, pb_01, pn_is, pn_g0, pn_g1, pn_g2, pn_g3, pn_g4, pn_g5, pn_g6, pn_g9, mL_g0, mL_p0, mL_g1, mL_p1, mL_g2, mL_p2, mL_g3, mL_p3, mL_g4, mL_p4, mL_g5, mL_p5, mL_g6, mL_p6, mL_g7, mL_p7, mL_g8, mL_p8, mL_g9, mL_p9, mL_g10, mL_p10, mL_g11, mL_p11, mL_g12, mL_p12, mL_g13, mL_p13, mL_g14, mL_p14, mL_g15, mL_p15, M_pass hm hq hN, pn_a4, pn_a2, pn_u3, ecs, elg, V, tw, J]
      rfl
end MZ9
