/-! ===== valley: all clauses ===== -/
def rT (N : Nat) (e : Int32 × ss_Hp) : Option (Int32 × ss_Hp) :=
  if e.1 = 0 then
    mm_M_readsAll_j88 N (some 118) e.2
  else
    ss_b2 (mm_M_see N (some 118) e.2) fun v15 h16 =>
    if v15 = (-1 : Int32) then
      mm_M_readsAll_j88 N (some 118) h16
    else
      (ss_gi h16 (some 118) 12 2).bind fun v18 =>
      ss_b2 (mm_M_fails N (some 118) (0 : Int32) v18 h16) fun v19 h20 =>
      mm_M_readsAll_j88 N (some 118) h20
def rL (N Q : Nat) (o : Option (Int32 × ss_Hp)) : Option (Int32 × ss_Hp) := ss_b2 o fun v12 h13 => (ss_lp (mm_M_readsAll_b35 N (some 118)) Q (v12, h13)).bind (rT N)
theorem se_1 {T : List Nat} {q : Nat} (h : ¬ q < T.length) : se T q = -nI 1 := if_neg h
theorem se_0 {T : List Nat} {q : Nat} (h : q < T.length) : se T q = nI (T.getD q 0) := if_pos h
theorem m1_59 : (-nI 1 = nI 59) = False := by simp; decide
def vEnd (hc : ss_Hp) (v : Nat) (T : List Nat) (oc : Option ss_Hp) (om : Option (Int32 × ss_Hp)) (MM : Int32 → Int32 → Int32 → Int32 → Int32 → Int32 → List Int32 → ss_Hp) : Prop := (∃ p rd nds k m z2 z4 z8 z10 z11, p ≤ T.length ∧ vI rd nds k m ∧ oc = some (vK hc v T rd nds p) ∧ om = some (nI 1, MM z2 (nI 0) z4 z8 z10 z11 rd)) ∨ ∃ q w J0 J1 J2 J3 J4 own str bes nds sn wa z2 z4 z8 z10 z11 rd, q ≤ T.length ∧ w < 8 ∧ (rd.length = 93 ∧ bl_L [J0, J1, J2, J3, J4] own str bes nds sn wa) ∧ oc = some (fl (wH hc v J0 J1 J2 J3 J4 own str bes nds sn wa) T q w) ∧ om = some (nI 0, MM z2 (nI (1 + 8 * blk T q + w)) z4 z8 z10 z11 rd)
section JX
variable {n : Nat} {f : Nat → ss_Cl} {m0 m1 m2 m3 m4 m5 m6 m7 m8 m9 m10 m11 m12 m13 m14 m15 : Int32} {dx : Int64} {tp : List Int32} {sg : List Int32} {lg : List Int32} {cl : List Int32} {cs : List Int32} {rd : List Int32} {op : List Int32} {sk : List Int64} {wd : List Int64} {sd : List Int32} {th : List Int32} {fa : List Int32} {ws : List Int32} {kp : List Int32} {li : List Int32} {pr : List Int32} {hb : List Int32} {fi : List Int32} {st : List Int32} {im : List Int32} {jf : List Int32} {jx : List Int32} {mk : List Int32} {N : Nat}
variable {hc : ss_Hp} {v : Nat} {T : List Nat} {q p k m ci Q : Nat} {nds : List Int32}
theorem rT_0 (hz : (m3 = nI 0) = False) : rT N (nI 0, (pm_M n f (mL m0 m1 m2 m3 m4 m5 m6 m7 m8 m9 m10 m11 m12 m13 m14 m15) dx tp sg lg cl cs rd op sk wd sd th fa ws kp li pr hb fi st im jf jx mk)) = some (nI 0, (pm_M n f (mL (nI 0) m1 m2 m3 m4 m5 m6 m7 m8 m9 m10 m11 m12 m13 m14 m15) dx tp sg lg cl cs rd op sk wd sd th fa ws kp li pr hb fi st im jf jx mk)) := by
  unfold rT mm_M_readsAll_j88 mm_M_readsAll_j105
  simp only [pb_l2, pb_ll, nI_add, pb_mul, if_true, if_false, pb_bs, pb_b2n, pb_bz0, pb_bz1, pb_10, pb_01, pn_is, pn_g0, pn_g1, pn_g2, pn_g3, pn_g4, pn_g5, pn_g6, pn_g9, mL_g0, mL_p0, mL_g1, mL_p1, mL_g2, mL_p2, mL_g3, mL_p3, mL_g4, mL_p4, mL_g5, mL_p5, mL_g6, mL_p6, mL_g7, mL_p7, mL_g8, mL_p8, mL_g9, mL_p9, mL_g10, mL_p10, mL_g11, mL_p11, mL_g12, mL_p12, mL_g13, mL_p13, mL_g14, mL_p14, mL_g15, mL_p15, hz]
theorem rT_1 (hm : mz tp T) (hp : p ≤ T.length) (hN : 500 < N) (he : ¬ blk T p < T.length) : rT N (nI 1, (pm_M n f (mL (nI T.length) m1 (nI p) (nI 0) m4 m5 m6 m7 m8 m9 m10 m11 m12 m13 m14 m15) dx tp sg lg cl cs rd op sk wd sd th fa ws kp li pr hb fi st im jf jx mk)) = some (nI 1, (pm_M n f (mL (nI 0) m1 (nI (blk T p)) (nI 0) m4 m5 m6 m7 m8 m9 m10 m11 m12 m13 m14 m15) dx tp sg lg cl cs rd op sk wd sd th fa ws kp li pr hb fi st im jf jx mk)) := by
  unfold rT mm_M_readsAll_j88 mm_M_readsAll_j105
  simp only [pb_l2, pb_ll, nI_add, pb_mul, if_true, if_false, pb_bs, pb_b2n, pb_bz0, pb_bz1, pb_10, pb_01, pn_is, pn_g0, pn_g1, pn_g2, pn_g3, pn_g4, pn_g5, pn_g6, pn_g9, mL_g0, mL_p0, mL_g1, mL_p1, mL_g2, mL_p2, mL_g3, mL_p3, mL_g4, mL_p4, mL_g5, mL_p5, mL_g6, mL_p6, mL_g7, mL_p7, mL_g8, mL_p8, mL_g9, mL_p9, mL_g10, mL_p10, mL_g11, mL_p11, mL_g12, mL_p12, mL_g13, mL_p13, mL_g14, mL_p14, mL_g15, mL_p15, M_see hm hp hN, se_1 he]
theorem rT_2 (hm : mz tp T) (hp : p ≤ T.length) (hN : 500 < N) (he : blk T p < T.length) : rT N (nI 1, (pm_M n f (mL (nI T.length) m1 (nI p) (nI 0) m4 m5 m6 m7 m8 m9 m10 m11 m12 m13 m14 m15) dx tp sg lg cl cs rd op sk wd sd th fa ws kp li pr hb fi st im jf jx mk)) = some (nI 0, (pm_M n f (mL (nI 0) m1 (nI (blk T p)) (nI (1 + 8 * blk T p + 0)) m4 m5 m6 m7 m8 m9 m10 m11 m12 m13 m14 m15) dx tp sg lg cl cs rd op sk wd sd th fa ws kp li pr hb fi st im jf jx mk)) := by
  have hl := hm.1
  have hb2 := hm.2.1 _ he
  have e1 := eq_false (pb_m1n (s := T.getD (blk T p) 0) (by omega))
  have e2 : (nI (1 + 8 * blk T p + 0) = nI 0) = False := pb_nn (by omega) (by omega) (by omega)
  unfold rT mm_M_readsAll_j88 mm_M_readsAll_j105
  simp only [pb_l2, pb_ll, nI_add, pb_mul, if_true, if_false, pb_bs, pb_b2n, pb_bz0, pb_bz1, pb_10, pb_01, pn_is, pn_g0, pn_g1, pn_g2, pn_g3, pn_g4, pn_g5, pn_g6, pn_g9, mL_g0, mL_p0, mL_g1, mL_p1, mL_g2, mL_p2, mL_g3, mL_p3, mL_g4, mL_p4, mL_g5, mL_p5, mL_g6, mL_p6, mL_g7, mL_p7, mL_g8, mL_p8, mL_g9, mL_p9, mL_g10, mL_p10, mL_g11, mL_p11, mL_g12, mL_p12, mL_g13, mL_p13, mL_g14, mL_p14, mL_g15, mL_p15, M_see hm hp hN, se_0 he, e1, M_fail, e2]
theorem b35_0 : mm_M_readsAll_b35 N (some 118) (nI 0, (pm_M n f (mL m0 m1 m2 m3 m4 m5 m6 m7 m8 m9 m10 m11 m12 m13 m14 m15) dx tp sg lg cl cs rd op sk wd sd th fa ws kp li pr hb fi st im jf jx mk)) = some (.inr (nI 0, (pm_M n f (mL m0 m1 m2 m3 m4 m5 m6 m7 m8 m9 m10 m11 m12 m13 m14 m15) dx tp sg lg cl cs rd op sk wd sd th fa ws kp li pr hb fi st im jf jx mk))) := by
  unfold mm_M_readsAll_b35
  simp only [pb_l2, pb_ll, nI_add, pb_mul, if_true, if_false, pb_bs, pb_b2n, pb_bz0, pb_bz1, pb_10, pb_01]
theorem b35_1 (hm : mz tp T) (hp : p ≤ T.length) (hN : 500 < N) (he : se T (blk T p) ≠ nI 59) : mm_M_readsAll_b35 N (some 118) (nI 1, (pm_M n f (mL (nI T.length) m1 (nI p) m3 m4 m5 m6 m7 m8 m9 m10 m11 m12 m13 m14 m15) dx tp sg lg cl cs rd op sk wd sd th fa ws kp li pr hb fi st im jf jx mk)) = some (.inr (nI 1, (pm_M n f (mL (nI T.length) m1 (nI (blk T p)) m3 m4 m5 m6 m7 m8 m9 m10 m11 m12 m13 m14 m15) dx tp sg lg cl cs rd op sk wd sd th fa ws kp li pr hb fi st im jf jx mk))) := by
  unfold mm_M_readsAll_b35
  simp only [pb_l2, pb_ll, nI_add, pb_mul, if_true, if_false, pb_bs, pb_b2n, pb_bz0, pb_bz1, pb_10, pb_01, pn_is, pn_g0, pn_g1, pn_g2, pn_g3, pn_g4, pn_g5, pn_g6, pn_g9, mL_g0, mL_p0, mL_g1, mL_p1, mL_g2, mL_p2, mL_g3, mL_p3, mL_g4, mL_p4, mL_g5, mL_p5, mL_g6, mL_p6, mL_g7, mL_p7, mL_g8, mL_p8, mL_g9, mL_p9, mL_g10, mL_p10, mL_g11, mL_p11, mL_g12, mL_p12, mL_g13, mL_p13, mL_g14, mL_p14, mL_g15, mL_p15, M_see hm hp hN, eq_false he]
theorem b35_2 (hm : mz tp T) (hp : p ≤ T.length) (hN : 500 < N) (he : se T (blk T p) = nI 59) {r : Int32} {h9 : ss_Hp} (hcl : mm_M_clauseHere N (some 118) (pm_M n f (mL (nI T.length) m1 (nI (blk T p + 1)) m3 m4 m5 m6 m7 m8 m9 m10 m11 m12 m13 m14 m15) dx tp sg lg cl cs rd op sk wd sd th fa ws kp li pr hb fi st im jf jx mk) = some (r, h9)) : mm_M_readsAll_b35 N (some 118) (nI 1, (pm_M n f (mL (nI T.length) m1 (nI p) m3 m4 m5 m6 m7 m8 m9 m10 m11 m12 m13 m14 m15) dx tp sg lg cl cs rd op sk wd sd th fa ws kp li pr hb fi st im jf jx mk)) = some (.inl (r, h9)) := by
  unfold mm_M_readsAll_b35
  simp only [pb_l2, pb_ll, nI_add, pb_mul, if_true, if_false, pb_bs, pb_b2n, pb_bz0, pb_bz1, pb_10, pb_01, pn_is, pn_g0, pn_g1, pn_g2, pn_g3, pn_g4, pn_g5, pn_g6, pn_g9, mL_g0, mL_p0, mL_g1, mL_p1, mL_g2, mL_p2, mL_g3, mL_p3, mL_g4, mL_p4, mL_g5, mL_p5, mL_g6, mL_p6, mL_g7, mL_p7, mL_g8, mL_p8, mL_g9, mL_p9, mL_g10, mL_p10, mL_g11, mL_p11, mL_g12, mL_p12, mL_g13, mL_p13, mL_g14, mL_p14, mL_g15, mL_p15, M_see hm hp hN, he, hcl]
theorem ve_step (hm : mz tp T) (ht : tz hc T) (h3 : hc.2 3 = (6, [], [], [some 1, some 4, some v])) (hv : 12 ≤ v) (hN : 500 < N) {H0 : ss_Hp} {om : Option (Int32 × ss_Hp)} (hci : ci ≤ 40) (hX : vOut2 hc v T p ci (mm_VR_readClause N (some 3) (nI ci) H0) om (fun z2 z3 z4 z8 z10 z11 rd => (pm_M n f (mL (nI T.length) m1 z2 z3 z4 (nI 6) m6 m7 z8 m9 z10 z11 m12 m13 m14 m15) dx tp sg lg cl cs rd op sk wd sd th fa ws kp li pr hb fi st im jf jx mk))) (IH : ci < 40 → ∀ p rd nds k m m4 m10 m11, p ≤ T.length → vI rd nds k m → vEnd hc v T (ss_lp (mm_VR_readValley_b30 N (some 3)) (Q + 1) (nI 1, nI (ci + 1), vK hc v T rd nds p)) (rL N (Q + 1) (mm_M_clauseHere N (some 118) (pm_M n f (mL (nI T.length) m1 (nI p) (nI 0) m4 (nI 6) m6 m7 (nI (ci + 1)) m9 m10 m11 m12 m13 m14 m15) dx tp sg lg cl cs rd op sk wd sd th fa ws kp li pr hb fi st im jf jx mk))) (fun z2 z3 z4 z8 z10 z11 rd => (pm_M n f (mL (nI 0) m1 z2 z3 z4 (nI 6) m6 m7 z8 m9 z10 z11 m12 m13 m14 m15) dx tp sg lg cl cs rd op sk wd sd th fa ws kp li pr hb fi st im jf jx mk))) : vEnd hc v T (ss_lp (mm_VR_readValley_b30 N (some 3)) (Q + 1 + 1) (nI 1, nI ci, H0)) (rL N (Q + 1 + 1) om) (fun z2 z3 z4 z8 z10 z11 rd => (pm_M n f (mL (nI 0) m1 z2 z3 z4 (nI 6) m6 m7 z8 m9 z10 z11 m12 m13 m14 m15) dx tp sg lg cl cs rd op sk wd sd th fa ws kp li pr hb fi st im jf jx mk)) := by
  have hT := hm.1
  have c40 : (nI 40 < nI ci) = False := eq_false (nI_nlt hci (by omega))
  rcases hX with ⟨p2, rd2, nds2, kb, mb, y4, y10, y11, t0, t1, t2, t3, t4, t5⟩ | ⟨q2, w2, J0, J1, J2, J3, J4, own, str, bes, nds2, sn, wa, y2, y4, y8, y10, y11, rd2, t1, t2, t3, t4, t5⟩
  · have hq := blk_ub t2
    by_cases he : blk T p2 < T.length
    · have hse := se_0 he
      by_cases h59 : T.getD (blk T p2) 0 = 59
      · have hs : sgn T (blk T p2) 59 := sgn_of he h59 (by omega) (by omega)
        have hse2 : se T (blk T p2) = nI 59 := by rw [hse, h59]
        have IHx := IH t0 (blk T p2 + 1) rd2 nds2 kb mb y4 y10 y11 (by omega) t3
        have e1 : ss_lp (mm_VR_readValley_b30 N (some 3)) (Q + 1 + 1) (nI 1, nI ci, H0) = ss_lp (mm_VR_readValley_b30 N (some 3)) (Q + 1) (nI 1, nI (ci + 1), vK hc v T rd2 nds2 (blk T p2 + 1)) := by
          rw [ss_lp]
          have : mm_VR_readValley_b30 N (some 3) (nI 1, nI ci, H0) = some (.inl (nI 1, nI (ci + 1), vK hc v T rd2 nds2 (blk T p2 + 1))) := by
            unfold vK at t4 ⊢
            unfold mm_VR_readValley_b30
            simp only [pb_l2, pb_ll, nI_add, pb_mul, if_true, if_false, pb_bs, pb_b2n, pb_bz0, pb_bz1, pb_10, pb_01, vL_is h3 hv, vL_r0 h3 hv, vL_r1 h3 hv, vL_j0 hv, vL_j1 hv, vL_j2 hv, vL_j3 hv, vL_j4 hv, vL_f0 hv, vL_f1 hv, vL_f2 hv, vL_f3 hv, vL_f4 hv, vL_p0 hv, vL_p1 hv, vL_p2 hv, vL_p3 hv, vL_p4 hv, vL_g0 hv, vL_g1 hv, vF_is h3 hv, vF_r0 h3 hv, vF_r1 h3 hv, vF_j0 hv, vF_j1 hv, vF_j2 hv, vF_j3 hv, vF_j4 hv, vF_f0 hv, vF_f1 hv, vF_f2 hv, vF_f3 hv, vF_f4 hv, vF_p0 hv, vF_p1 hv, vF_p2 hv, vF_p3 hv, vF_p4 hv, vF_g0 hv, vF_g1 hv, t4, c40, T_go1 (vX_tz hv ht) t2 hN hs]
          rw [this]
        rw [e1]
        have e2 : rL N (Q + 1 + 1) om = rL N (Q + 1) (mm_M_clauseHere N (some 118) (pm_M n f (mL (nI T.length) m1 (nI (blk T p2 + 1)) (nI 0) y4 (nI 6) m6 m7 (nI (ci + 1)) m9 y10 y11 m12 m13 m14 m15) dx tp sg lg cl cs rd2 op sk wd sd th fa ws kp li pr hb fi st im jf jx mk)) := by
          rw [t5]
          unfold rL
          rw [pb_b2n]
          rcases IHx with ⟨p3, rd3, nds3, k3, m3, u2, u4, u8, u10, u11, s1, s2, s3, s4⟩ | ⟨q3, w3, J0, J1, J2, J3, J4, own, str, bes, nds3, sn, wa, u2, u4, u8, u10, u11, rd3, s1, s2, s3, s4, s5⟩
          · cases hcl : mm_M_clauseHere N (some 118) (pm_M n f (mL (nI T.length) m1 (nI (blk T p2 + 1)) (nI 0) y4 (nI 6) m6 m7 (nI (ci + 1)) m9 y10 y11 m12 m13 m14 m15) dx tp sg lg cl cs rd2 op sk wd sd th fa ws kp li pr hb fi st im jf jx mk) with
            | none => rw [hcl] at s4; cases s4
            | some z =>
              obtain ⟨r, h9⟩ := z
              rw [ss_lp, b35_2 hm t2 hN hse2 hcl]
              rfl
          · cases hcl : mm_M_clauseHere N (some 118) (pm_M n f (mL (nI T.length) m1 (nI (blk T p2 + 1)) (nI 0) y4 (nI 6) m6 m7 (nI (ci + 1)) m9 y10 y11 m12 m13 m14 m15) dx tp sg lg cl cs rd2 op sk wd sd th fa ws kp li pr hb fi st im jf jx mk) with
            | none => rw [hcl] at s5; cases s5
            | some z =>
              obtain ⟨r, h9⟩ := z
              rw [ss_lp, b35_2 hm t2 hN hse2 hcl]
              rfl
        rw [e2]
        exact IHx
      · have hs : ¬ sgn T (blk T p2) 59 := fun x => h59 x.2.2.2
        have hb2 := hm.2.1 _ he
        have hse2 : se T (blk T p2) ≠ nI 59 := by rw [hse]; exact of_eq_false (pb_nn h59 (by omega) (by omega))
        refine Or.inr ⟨p2, 0, nI 1, pv rd2 0, pv rd2 1, pv rd2 2, pv rd2 3, [pv rd2 38, pv rd2 40, pv rd2 42, pv rd2 44], [pv rd2 39, pv rd2 41, pv rd2 43, pv rd2 45], sl rd2 30 8, nds2, sl rd2 46 8, sl rd2 54 8, nI (blk T p2), y4, nI (ci + 1), y10, y11, rd2, t2, by omega, ⟨t3.1.1, vI_L t3⟩, ?_, ?_⟩
        · have e1 : mm_VR_readValley_b30 N (some 3) (nI 1, nI ci, H0) = some (.inl (nI 0, nI (ci + 1), fl (wH hc v (nI 1) (pv rd2 0) (pv rd2 1) (pv rd2 2) (pv rd2 3) [pv rd2 38, pv rd2 40, pv rd2 42, pv rd2 44] [pv rd2 39, pv rd2 41, pv rd2 43, pv rd2 45] (sl rd2 30 8) nds2 (sl rd2 46 8) (sl rd2 54 8)) T p2 0)) := by
            unfold vK at t4
            unfold mm_VR_readValley_b30
            simp only [pb_l2, pb_ll, nI_add, pb_mul, if_true, if_false, pb_bs, pb_b2n, pb_bz0, pb_bz1, pb_10, pb_01, vL_is h3 hv, vL_r0 h3 hv, vL_r1 h3 hv, vL_j0 hv, vL_j1 hv, vL_j2 hv, vL_j3 hv, vL_j4 hv, vL_f0 hv, vL_f1 hv, vL_f2 hv, vL_f3 hv, vL_f4 hv, vL_p0 hv, vL_p1 hv, vL_p2 hv, vL_p3 hv, vL_p4 hv, vL_g0 hv, vL_g1 hv, vF_is h3 hv, vF_r0 h3 hv, vF_r1 h3 hv, vF_j0 hv, vF_j1 hv, vF_j2 hv, vF_j3 hv, vF_j4 hv, vF_f0 hv, vF_f1 hv, vF_f2 hv, vF_f3 hv, vF_f4 hv, vF_p0 hv, vF_p1 hv, vF_p2 hv, vF_p3 hv, vF_p4 hv, vF_g0 hv, vF_g1 hv, t4, c40, T_go2 (vX_tz hv ht) t2 he hs]
          rw [ss_lp, e1]
          show ss_lp _ (Q + 1) _ = _
          rw [ss_lp]
          unfold mm_VR_readValley_b30
          simp only [pb_l2, pb_ll, nI_add, pb_mul, if_true, if_false, pb_bs, pb_b2n, pb_bz0, pb_bz1, pb_10, pb_01]
        · rw [t5]
          unfold rL
          rw [pb_b2n, ss_lp, b35_1 hm t2 hN hse2]
          show rT N _ = _
          rw [rT_2 hm hq hN (by rw [blk_id]; exact he), blk_id]
    · have hse2 : se T (blk T p2) ≠ nI 59 := by rw [se_1 he]; exact of_eq_false m1_59
      refine Or.inl ⟨p2, rd2, nds2, kb, mb, nI (blk T p2), y4, nI (ci + 1), y10, y11, t2, t3, ?_, ?_⟩
      · have e1 : mm_VR_readValley_b30 N (some 3) (nI 1, nI ci, H0) = some (.inl (nI 0, nI (ci + 1), vK hc v T rd2 nds2 p2)) := by
          unfold vK at t4 ⊢
          unfold mm_VR_readValley_b30
          simp only [pb_l2, pb_ll, nI_add, pb_mul, if_true, if_false, pb_bs, pb_b2n, pb_bz0, pb_bz1, pb_10, pb_01, vL_is h3 hv, vL_r0 h3 hv, vL_r1 h3 hv, vL_j0 hv, vL_j1 hv, vL_j2 hv, vL_j3 hv, vL_j4 hv, vL_f0 hv, vL_f1 hv, vL_f2 hv, vL_f3 hv, vL_f4 hv, vL_p0 hv, vL_p1 hv, vL_p2 hv, vL_p3 hv, vL_p4 hv, vL_g0 hv, vL_g1 hv, vF_is h3 hv, vF_r0 h3 hv, vF_r1 h3 hv, vF_j0 hv, vF_j1 hv, vF_j2 hv, vF_j3 hv, vF_j4 hv, vF_f0 hv, vF_f1 hv, vF_f2 hv, vF_f3 hv, vF_f4 hv, vF_p0 hv, vF_p1 hv, vF_p2 hv, vF_p3 hv, vF_p4 hv, vF_g0 hv, vF_g1 hv, t4, c40, T_go0 he]
        rw [ss_lp, e1]
        show ss_lp _ (Q + 1) _ = _
        rw [ss_lp]
        unfold mm_VR_readValley_b30
        simp only [pb_l2, pb_ll, nI_add, pb_mul, if_true, if_false, pb_bs, pb_b2n, pb_bz0, pb_bz1, pb_10, pb_01]
      · rw [t5]
        unfold rL
        rw [pb_b2n, ss_lp, b35_1 hm t2 hN hse2]
        show rT N _ = _
        rw [rT_1 hm hq hN (by rw [blk_id]; exact he), blk_id]
  · have hq := blk_ub t1
    refine Or.inr ⟨q2, w2, J0, J1, J2, J3, J4, own, str, bes, nds2, sn, wa, y2, y4, y8, y10, y11, rd2, t1, t2, t3, ?_, ?_⟩
    · have e1 : mm_VR_readValley_b30 N (some 3) (nI 1, nI ci, H0) = some (.inl (nI 0, nI (ci + 1), fl (wH hc v J0 J1 J2 J3 J4 own str bes nds2 sn wa) T q2 w2)) := by
        unfold mm_VR_readValley_b30
        simp only [pb_l2, pb_ll, nI_add, pb_mul, if_true, if_false, pb_bs, pb_b2n, pb_bz0, pb_bz1, pb_10, pb_01, vL_is h3 hv, vL_r0 h3 hv, vL_r1 h3 hv, vL_j0 hv, vL_j1 hv, vL_j2 hv, vL_j3 hv, vL_j4 hv, vL_f0 hv, vL_f1 hv, vL_f2 hv, vL_f3 hv, vL_f4 hv, vL_p0 hv, vL_p1 hv, vL_p2 hv, vL_p3 hv, vL_p4 hv, vL_g0 hv, vL_g1 hv, vF_is h3 hv, vF_r0 h3 hv, vF_r1 h3 hv, vF_j0 hv, vF_j1 hv, vF_j2 hv, vF_j3 hv, vF_j4 hv, vF_f0 hv, vF_f1 hv, vF_f2 hv, vF_f3 hv, vF_f4 hv, vF_p0 hv, vF_p1 hv, vF_p2 hv, vF_p3 hv, vF_p4 hv, vF_g0 hv, vF_g1 hv, t4, c40, T_go3 t1 hT t2]
      rw [ss_lp, e1]
      show ss_lp _ (Q + 1) _ = _
      rw [ss_lp]
      unfold mm_VR_readValley_b30
      simp only [pb_l2, pb_ll, nI_add, pb_mul, if_true, if_false, pb_bs, pb_b2n, pb_bz0, pb_bz1, pb_10, pb_01]
    · have e2 : (nI (1 + 8 * blk T q2 + w2) = nI 0) = False := pb_nn (by omega) (by omega) (by omega)
      rw [t5]
      unfold rL
      rw [pb_b2n, ss_lp, b35_0]
      show rT N _ = _
      rw [rT_0 e2]
theorem ve_all (hm : mz tp T) (ht : tz hc T) (h3 : hc.2 3 = (6, [], [], [some 1, some 4, some v])) (hv : 12 ≤ v) (hN : 500 < N) : ∀ d ci, ci + d = 40 → 0 < ci → ∀ Q, d < Q → ∀ p rd nds k m m4 m10 m11, p ≤ T.length → vI rd nds k m → vEnd hc v T (ss_lp (mm_VR_readValley_b30 N (some 3)) (Q + 1) (nI 1, nI ci, vK hc v T rd nds p)) (rL N (Q + 1) (mm_M_clauseHere N (some 118) (pm_M n f (mL (nI T.length) m1 (nI p) (nI 0) m4 (nI 6) m6 m7 (nI ci) m9 m10 m11 m12 m13 m14 m15) dx tp sg lg cl cs rd op sk wd sd th fa ws kp li pr hb fi st im jf jx mk))) (fun z2 z3 z4 z8 z10 z11 rd => (pm_M n f (mL (nI 0) m1 z2 z3 z4 (nI 6) m6 m7 z8 m9 z10 z11 m12 m13 m14 m15) dx tp sg lg cl cs rd op sk wd sd th fa ws kp li pr hb fi st im jf jx mk)) := by
  intro d
  induction d with
  | zero =>
    intro ci hd h0 Q hQ p rd nds k m m4 m10 m11 hp hI
    obtain ⟨Q, rfl⟩ : ∃ Q', Q = Q' + 1 := ⟨Q - 1, by omega⟩
    exact ve_step hm ht h3 hv hN (by omega) (jv_clause hm ht h3 hv hI hp hN ⟨h0, by omega⟩) (fun h => by omega)
  | succ d ih =>
    intro ci hd h0 Q hQ p rd nds k m m4 m10 m11 hp hI
    obtain ⟨Q, rfl⟩ : ∃ Q', Q = Q' + 1 := ⟨Q - 1, by omega⟩
    exact ve_step hm ht h3 hv hN (by omega) (jv_clause hm ht h3 hv hI hp hN ⟨h0, by omega⟩) (fun _ => ih (ci + 1) (by omega) (by omega) Q (by omega))
theorem ve_whole (hm : mz tp T) (ht : tz hc T) (h3 : hc.2 3 = (6, [], [], [some 1, some 4, some v])) (hv : 12 ≤ v) (hN : 500 < N) : vEnd hc v T (ss_lp (mm_VR_readValley_b30 N (some 3)) N (nI 1, nI 0, vK0 hc v T 0)) (rL N N (mm_M_clauseHere N (some 118) (pm_M n f (mL (nI T.length) m1 (nI 0) (nI 0) m4 (nI 6) m6 m7 (nI 0) m9 m10 m11 m12 m13 m14 m15) dx tp sg lg cl cs r93 op sk wd sd th fa ws kp li pr hb fi st im jf jx mk))) (fun z2 z3 z4 z8 z10 z11 rd => (pm_M n f (mL (nI 0) m1 z2 z3 z4 (nI 6) m6 m7 z8 m9 z10 z11 m12 m13 m14 m15) dx tp sg lg cl cs rd op sk wd sd th fa ws kp li pr hb fi st im jf jx mk)) := by
  obtain ⟨Q, rfl⟩ : ∃ Q', N = Q' + 1 + 1 := ⟨N - 2, by omega⟩
  exact ve_step hm ht h3 hv hN (by omega) (jv_first hm ht h3 hv (by omega) hN) (fun _ => ve_all hm ht h3 hv hN 39 1 (by omega) (by omega) Q (by omega))
end JX
