/-! ===== valley: numbers read on both sides, the state while reading ===== -/
theorem blk_id {T : List Nat} {p : Nat} : blk T (blk T p) = blk T p := sc_id
theorem blk_le {T : List Nat} {p : Nat} : p ≤ blk T p := sc_le
def vn_dg (T : List Nat) (p : Nat) : Prop := blk T p < T.length ∧ isD T (blk T p) = true
def vn_v (T : List Nat) (p : Nat) : Nat := nv T (blk T p)
def vn_e (T : List Nat) (p : Nat) : Nat := eD T (blk T p)
def vn_gd (T : List Nat) (p : Nat) (x y : Int32) : Prop := vn_dg T p ∧ eD T (blk T p) - blk T p ≤ 5 ∧ ¬ nI (vn_v T p) < x ∧ ¬ y < nI (vn_v T p)
noncomputable def vn_w (T : List Nat) (p : Nat) : Nat := @ite _ (vn_dg T p) (Classical.propDecidable _) 1 0
noncomputable def vn_z (T : List Nat) (p : Nat) : Nat := @ite _ (vn_dg T p) (Classical.propDecidable _) (eD T (blk T p)) (blk T p)
noncomputable def vn_4 (T : List Nat) (p : Nat) (z : Int32) : Int32 := @ite _ (vn_dg T p) (Classical.propDecidable _) (nI (dv T (blk T p) (min 5 (eD T (blk T p) - blk T p)))) z
theorem vn_w8 {T : List Nat} {p : Nat} : vn_w T p < 8 := by
  unfold vn_w
  by_cases c : vn_dg T p
  · rw [if_pos c]; omega
  · rw [if_neg c]; omega
theorem vn_m1 {T : List Nat} {p : Nat} {x y : Int32} (hg : vn_gd T p x y) : ¬ nI (vn_v T p) = -nI 1 := of_eq_false (nv_ne hg.2.1)
theorem vn_pos {T : List Nat} {p : Nat} {x y : Int32} (hp : p ≤ T.length) (hg : vn_gd T p x y) : p < vn_e T p ∧ vn_e T p ≤ T.length ∧ vn_v T p < 100000 := by
  have h1 := blk_le (T := T) (p := p)
  have h2 : eD T (blk T p) = sc (isD T) T.length (blk T p + 1) := sc_t hg.1.1 hg.1.2
  have h3 := sc_le (P := isD T) (L := T.length) (p := blk T p + 1)
  have h4 := eD_ub (blk_ub hp)
  have h5 := nv_lt hg.2.1
  refine ⟨?_, h4, h5⟩
  show p < eD T (blk T p)
  omega
theorem vn_le {T : List Nat} {p k : Nat} {x : Int32} (hp : p ≤ T.length) (hg : vn_gd T p x (nI k)) : vn_v T p ≤ k := by
  have h1 := vn_pos hp hg
  exact Nat.le_of_not_lt (fun q => hg.2.2.2 (nI_lt q (by omega)))
theorem vn_ge {T : List Nat} {p k : Nat} {y : Int32} (hk : k < 1000) (hg : vn_gd T p (nI k) y) : k ≤ vn_v T p :=
  Nat.le_of_not_lt (fun q => hg.2.2.1 (nI_lt q (by omega)))
theorem vn_sub : ∀ k, k ≤ 8 → (nI k - nI 1).toInt = (k : Int) - 1 := by decide +kernel
theorem vn_lt {T : List Nat} {p k : Nat} {x : Int32} (hp : p ≤ T.length) (hk : k ≤ 8) (hg : vn_gd T p x (nI k - nI 1)) : vn_v T p < k := by
  have h1 := vn_pos hp hg
  have h2 := hg.2.2.2
  rw [Int32.lt_iff_toInt_lt, vn_sub k hk, nI_toInt (by omega)] at h2
  omega
section NJ
variable {h : ss_Hp} {N : Nat} {T : List Nat} {p : Nat} {x y z : Int32}
theorem T_bad (ht : tz h T) (hp : p ≤ T.length) (hN : 500 < N) (hg : ¬ vn_gd T p x y) : mm_T_number N (some 1) x y z (lx h T (nI 0) p) = some (-nI 1, fl h T p (vn_w T p)) := by
  unfold vn_w
  by_cases c : vn_dg T p
  · rw [if_pos c]
    exact T_num1 ht hp hN c.1 c.2 (fun q => hg ⟨c, q.1, q.2.1, q.2.2.1⟩)
  · rw [if_neg c]
    exact T_num0 c
theorem T_good (ht : tz h T) (hp : p ≤ T.length) (hN : 500 < N) (hz : ¬ nI (vn_v T p) = z) (hg : vn_gd T p x y) : mm_T_number N (some 1) x y z (lx h T (nI 0) p) = some (nI (vn_v T p), lx h T (nI 0) (vn_e T p)) := T_num2 ht hp hN hg.1.1 hg.1.2 ⟨hg.2.1, hg.2.2.1, hg.2.2.2, hz⟩
theorem T_same (ht : tz h T) (hp : p ≤ T.length) (hN : 500 < N) (hz : nI (vn_v T p) = z) (hg : vn_gd T p x y) : mm_T_number N (some 1) x y z (lx h T (nI 0) p) = some (-nI 1, fl h T p 1) := T_num1 ht hp hN hg.1.1 hg.1.2 (fun q => q.2.2.2 hz)
theorem T_adv {F : Int32} (ht : tz h T) (hp : p ≤ T.length) (hN : 500 < N) : mm_T_advance N (some 1) (lx h T F p) = some (lx h T F (en T (blk T p))) := T_advance ht (en_ub (blk_ub hp)) hN
end NJ
theorem en_w {T W : List Nat} {q : Nat} (hw : wis T q W) (hl : wl W) (hq : q ≤ T.length) : en T q = eL T q ∧ q < eL T q ∧ q < T.length := by
  have h1 := hw.1
  have h2 := hl.1
  have h3 : q < eL T q := by omega
  have h4 := eL_ub hq
  have h5 : isL T q = true := sc_in (P := isL T) (L := T.length) (p := q) (Nat.le_refl q) h3
  have h6 : q < T.length := by omega
  refine ⟨?_, h3, h6⟩
  unfold en eL
  rw [if_pos h6, if_pos h5, sc_t h6 h5]
section NK
variable {n : Nat} {f : Nat → ss_Cl} {m0 m1 m2 m3 m4 m5 m6 m7 m8 m9 m10 m11 m12 m13 m14 m15 : Int32} {dx : Int64} {tp : List Int32} {sg : List Int32} {lg : List Int32} {cl : List Int32} {cs : List Int32} {rd : List Int32} {op : List Int32} {sk : List Int64} {wd : List Int64} {sd : List Int32} {th : List Int32} {fa : List Int32} {ws : List Int32} {kp : List Int32} {li : List Int32} {pr : List Int32} {hb : List Int32} {fi : List Int32} {st : List Int32} {im : List Int32} {jf : List Int32} {jx : List Int32} {mk : List Int32} {N : Nat}
variable {T : List Nat} {p : Nat} {x y : Int32}
theorem M_n1x (ht : mz tp T) (hp : p ≤ T.length) (hN : 500 < N) (c1 : blk T p < T.length) (c2 : isD T (blk T p) = true) (hbd : ¬ (eD T (blk T p) - blk T p ≤ 5 ∧ ¬ nI (nv T (blk T p)) < x ∧ ¬ y < nI (nv T (blk T p)))) : mm_M_numberHere N (some 118) x y (pm_M n f (mL (nI T.length) m1 (nI p) (nI 0) m4 m5 m6 m7 m8 m9 m10 m11 m12 m13 m14 m15) dx tp sg lg cl cs rd op sk wd sd th fa ws kp li pr hb fi st im jf jx mk) = some (nI 0, (pm_M n f (mL (nI T.length) m1 (nI (eD T (blk T p))) (nI (1 + 8 * blk T p + 1)) (nI (dv T (blk T p) (min 5 (eD T (blk T p) - blk T p)))) m5 m6 m7 m8 m9 m10 m11 m12 m13 m14 m15) dx tp sg lg cl cs rd op sk wd sd th fa ws kp li pr hb fi st im jf jx mk)) := by
  have hl := ht.1
  have hu := blk_ub hp
  have hu2 := eD_ub hu
  have hle := eD_le (T := T) (q := blk T p)
  unfold mm_M_numberHere mm_M_numberHere_j117 mm_M_numberHere_j126 mm_M_numberHere_j131
  by_cases c5 : eD T (blk T p) - blk T p ≤ 5
  · have d5 : (nI 5 < nI (eD T (blk T p) - blk T p)) = False := eq_false (nI_nlt c5 (by omega))
    have e5 : min 5 (eD T (blk T p) - blk T p) = eD T (blk T p) - blk T p := by omega
    have hin : nI (nv T (blk T p)) < x ∨ y < nI (nv T (blk T p)) := by
      rcases Classical.em (nI (nv T (blk T p)) < x) with w | w
      · exact Or.inl w
      · exact Or.inr (Classical.not_not.mp (fun u => hbd ⟨c5, w, u⟩))
    have e6 : dv T (blk T p) (eD T (blk T p) - blk T p) = nv T (blk T p) := rfl
    simp only [pb_l2, pb_ll, nI_add, pb_mul, if_true, if_false, pb_bs, pb_b2n, pb_bz0, pb_bz1, pb_10, pb_01, pn_is, pn_g0, pn_g1, pn_g2, pn_g3, pn_g4, pn_g5, pn_g6, pn_g9, mL_g0, mL_p0, mL_g1, mL_p1, mL_g2, mL_p2, mL_g3, mL_p3, mL_g4, mL_p4, mL_g5, mL_p5, mL_g6, mL_p6, mL_g7, mL_p7, mL_g8, mL_p8, mL_g9, mL_p9, mL_g10, mL_p10, mL_g11, mL_p11, mL_g12, mL_p12, mL_g13, mL_p13, mL_g14, mL_p14, mL_g15, mL_p15, M_see ht hp hN, M_dig1 ht c1 c2, M_digs ht hu hN, pb_subn hle, d5, e5, e6, M_in0 hin, M_fail]
  · have d5 : (nI 5 < nI (eD T (blk T p) - blk T p)) = True := eq_true (nI_lt (by omega) (by omega))
    simp only [pb_l2, pb_ll, nI_add, pb_mul, if_true, if_false, pb_bs, pb_b2n, pb_bz0, pb_bz1, pb_10, pb_01, pn_is, pn_g0, pn_g1, pn_g2, pn_g3, pn_g4, pn_g5, pn_g6, pn_g9, mL_g0, mL_p0, mL_g1, mL_p1, mL_g2, mL_p2, mL_g3, mL_p3, mL_g4, mL_p4, mL_g5, mL_p5, mL_g6, mL_p6, mL_g7, mL_p7, mL_g8, mL_p8, mL_g9, mL_p9, mL_g10, mL_p10, mL_g11, mL_p11, mL_g12, mL_p12, mL_g13, mL_p13, mL_g14, mL_p14, mL_g15, mL_p15, M_see ht hp hN, M_dig1 ht c1 c2, M_digs ht hu hN, pb_subn hle, d5, M_fail]
theorem M_bad (ht : mz tp T) (hp : p ≤ T.length) (hN : 500 < N) (hg : ¬ vn_gd T p x y) : mm_M_numberHere N (some 118) x y (pm_M n f (mL (nI T.length) m1 (nI p) (nI 0) m4 m5 m6 m7 m8 m9 m10 m11 m12 m13 m14 m15) dx tp sg lg cl cs rd op sk wd sd th fa ws kp li pr hb fi st im jf jx mk) = some (nI 0, (pm_M n f (mL (nI T.length) m1 (nI (vn_z T p)) (nI (1 + 8 * blk T p + vn_w T p)) (vn_4 T p m4) m5 m6 m7 m8 m9 m10 m11 m12 m13 m14 m15) dx tp sg lg cl cs rd op sk wd sd th fa ws kp li pr hb fi st im jf jx mk)) := by
  unfold vn_z vn_w vn_4
  by_cases c : vn_dg T p
  · rw [if_pos c, if_pos c, if_pos c]
    exact M_n1x ht hp hN c.1 c.2 (fun q => hg ⟨c, q⟩)
  · rw [if_neg c, if_neg c, if_neg c]
    exact M_num0 ht hp hN c
theorem M_good (ht : mz tp T) (hp : p ≤ T.length) (hN : 500 < N) (hg : vn_gd T p x y) : mm_M_numberHere N (some 118) x y (pm_M n f (mL (nI T.length) m1 (nI p) m3 m4 m5 m6 m7 m8 m9 m10 m11 m12 m13 m14 m15) dx tp sg lg cl cs rd op sk wd sd th fa ws kp li pr hb fi st im jf jx mk) = some (nI 1, (pm_M n f (mL (nI T.length) m1 (nI (vn_e T p)) m3 (nI (vn_v T p)) m5 m6 m7 m8 m9 m10 m11 m12 m13 m14 m15) dx tp sg lg cl cs rd op sk wd sd th fa ws kp li pr hb fi st im jf jx mk)) := M_num2 ht hp hN hg.1.1 hg.1.2 hg.2
end NK
def vI (rd nds : List Int32) (k m : Nat) : Prop := (rd.length = 93 ∧ (k ≤ 8 ∧ pv rd 2 = nI k) ∧ (m ≤ 4 ∧ pv rd 3 = nI m)) ∧ ((∃ q, 0 < q ∧ q ≤ 9 ∧ pv rd 0 = nI q) ∧ (∃ q, 0 < q ∧ q ≤ 30 ∧ pv rd 1 = nI q)) ∧ (∀ s, s < 8 → ∃ b, b < 256 ∧ pv rd (30 + s) = nI b) ∧ (∀ i, i < m → ∃ o, o < k ∧ pv rd (38 + 2 * i) = nI o) ∧ (∀ i, i < m → ∃ q, 0 < q ∧ q ≤ 99 ∧ pv rd (38 + 2 * i + 1) = nI q) ∧ (∀ s, s < 8 → ∃ q, q ≤ 99 ∧ pv rd (46 + s) = nI q ∧ (k ≤ s → q = 0)) ∧ (∀ s, s < 8 → pv rd (54 + s) = -nI 1 ∨ ∃ t, t < k ∧ pv rd (54 + s) = nI t) ∧ (∀ e, e < 31 → ∃ b, b < 2 ^ k ∧ pv rd (62 + e) = nI b) ∧ nd_R nds rd
theorem vI_L {rd nds : List Int32} {k m : Nat} (h : vI rd nds k m) {j0 j1 j2 j3 j4 o0 o1 o2 o3 s0 s1 s2 s3 : Int32} : bl_L [j0, j1, j2, j3, j4] [o0, o1, o2, o3] [s0, s1, s2, s3] (sl rd 30 8) nds (sl rd 46 8) (sl rd 54 8) := ⟨rfl, rfl, rfl, sl_len _ _ _, h.2.2.2.2.2.2.2.2.1, sl_len _ _ _, sl_len _ _ _⟩
noncomputable def vK (hc : ss_Hp) (v : Nat) (T : List Nat) (rd nds : List Int32) (p : Nat) : ss_Hp := lx (wH hc v (nI 1) (pv rd 0) (pv rd 1) (pv rd 2) (pv rd 3) [pv rd 38, pv rd 40, pv rd 42, pv rd 44] [pv rd 39, pv rd 41, pv rd 43, pv rd 45] (sl rd 30 8) nds (sl rd 46 8) (sl rd 54 8)) T (nI 0) p
theorem vK_of {hc : ss_Hp} {v : Nat} {T : List Nat} {rd nds : List Int32} {p : Nat} {J1 J2 J3 J4 : Int32} {own str bes sn wa : List Int32} (e0 : J1 = pv rd 0) (e1 : J2 = pv rd 1) (e2 : J3 = pv rd 2) (e3 : J4 = pv rd 3) (e4 : own = [pv rd 38, pv rd 40, pv rd 42, pv rd 44]) (e5 : str = [pv rd 39, pv rd 41, pv rd 43, pv rd 45]) (e6 : bes = sl rd 30 8) (e7 : sn = sl rd 46 8) (e8 : wa = sl rd 54 8) : lx (wH hc v (nI 1) J1 J2 J3 J4 own str bes nds sn wa) T (nI 0) p = vK hc v T rd nds p := by
  rw [e0, e1, e2, e3, e4, e5, e6, e7, e8]
  rfl
def vOut (hc : ss_Hp) (v : Nat) (T : List Nat) (p : Nat) (oc : Option ss_Hp) (om : Option (Int32 × ss_Hp)) (MM : Int32 → Int32 → Int32 → Int32 → Int32 → List Int32 → ss_Hp) : Prop := (∃ p' rd nds k m z4 z10 z11, p < p' ∧ p' ≤ T.length ∧ vI rd nds k m ∧ oc = some (vK hc v T rd nds p') ∧ om = some (nI 1, MM (nI p') (nI 0) z4 z10 z11 rd)) ∨ ∃ q w J0 J1 J2 J3 J4 own str bes nds sn wa z2 z4 z10 z11 rd, q ≤ T.length ∧ w < 8 ∧ (rd.length = 93 ∧ bl_L [J0, J1, J2, J3, J4] own str bes nds sn wa) ∧ oc = some (fl (wH hc v J0 J1 J2 J3 J4 own str bes nds sn wa) T q w) ∧ om = some (nI 0, MM z2 (nI (1 + 8 * blk T q + w)) z4 z10 z11 rd)
theorem own_set {rd : List Int32} {m : Nat} {x : Int32} (hm : m < 4) (hl : rd.length = 93) : [pv rd 38, pv rd 40, pv rd 42, pv rd 44].set m x = [pv (rd.set (38 + 2 * m) x) 38, pv (rd.set (38 + 2 * m) x) 40, pv (rd.set (38 + 2 * m) x) 42, pv (rd.set (38 + 2 * m) x) 44] := by
  have hi' : m = 0 ∨ m = 1 ∨ m = 2 ∨ m = 3 := by omega
  rcases hi' with h | h | h | h <;> subst h <;> simp only [List.set_cons_zero, List.set_cons_succ, pv_set (show 38 < rd.length by omega), pv_set (show 40 < rd.length by omega), pv_set (show 42 < rd.length by omega), pv_set (show 44 < rd.length by omega), Nat.reduceMul, Nat.reduceAdd, if_true] <;> simp
theorem str_set {rd : List Int32} {m : Nat} {x : Int32} (hm : m < 4) (hl : rd.length = 93) : [pv rd 39, pv rd 41, pv rd 43, pv rd 45].set m x = [pv (rd.set (38 + 2 * m + 1) x) 39, pv (rd.set (38 + 2 * m + 1) x) 41, pv (rd.set (38 + 2 * m + 1) x) 43, pv (rd.set (38 + 2 * m + 1) x) 45] := by
  have hi' : m = 0 ∨ m = 1 ∨ m = 2 ∨ m = 3 := by omega
  rcases hi' with h | h | h | h <;> subst h <;> simp only [List.set_cons_zero, List.set_cons_succ, pv_set (show 39 < rd.length by omega), pv_set (show 41 < rd.length by omega), pv_set (show 43 < rd.length by omega), pv_set (show 45 < rd.length by omega), Nat.reduceMul, Nat.reduceAdd, if_true] <;> simp
/-- a write outside the cells of one kind -/
theorem own_ne {rd : List Int32} {j : Nat} {x : Int32} (hj : j ≠ 38 ∧ j ≠ 40 ∧ j ≠ 42 ∧ j ≠ 44) : [pv rd 38, pv rd 40, pv rd 42, pv rd 44] = [pv (rd.set j x) 38, pv (rd.set j x) 40, pv (rd.set j x) 42, pv (rd.set j x) 44] := by
  rw [pv_ne (fun q => hj.1 q.symm), pv_ne (fun q => hj.2.1 q.symm), pv_ne (fun q => hj.2.2.1 q.symm), pv_ne (fun q => hj.2.2.2 q.symm)]
theorem str_ne {rd : List Int32} {j : Nat} {x : Int32} (hj : j ≠ 39 ∧ j ≠ 41 ∧ j ≠ 43 ∧ j ≠ 45) : [pv rd 39, pv rd 41, pv rd 43, pv rd 45] = [pv (rd.set j x) 39, pv (rd.set j x) 41, pv (rd.set j x) 43, pv (rd.set j x) 45] := by
  rw [pv_ne (fun q => hj.1 q.symm), pv_ne (fun q => hj.2.1 q.symm), pv_ne (fun q => hj.2.2.1 q.symm), pv_ne (fun q => hj.2.2.2 q.symm)]
theorem vI_nd {nds rd rd' : List Int32} (h : nd_R nds rd) (he : ∀ d, d < 31 → pv rd' (62 + d) = pv rd (62 + d)) : nd_R nds rd' := by
  refine ⟨h.1, fun s hs => ?_⟩
  obtain ⟨b, h1, h2, h3⟩ := h.2 s hs
  exact ⟨b, h1, h2, fun d hd => by rw [he d hd]; exact h3 d hd⟩
/-! what one clause changes keeps the state well -/
theorem vI_step {rd nds : List Int32} {k m x : Nat} (hI : vI rd nds k m) (hk : k < 8) (hx : x ≤ 99) : vI ((rd.set (46 + k) (nI x)).set 2 (nI (k + 1))) nds (k + 1) m := by
  obtain ⟨⟨l0, ⟨k1, k2⟩, m1, m2⟩, ⟨f1, f2⟩, be, ow, st, sn, wa, nd, nR⟩ := hI
  have hne : ∀ j, j ≠ 2 → j ≠ 46 + k → pv ((rd.set (46 + k) (nI x)).set 2 (nI (k + 1))) j = pv rd j := fun j q1 q2 => by rw [pv_ne q1, pv_ne q2]
  refine ⟨⟨by rw [List.length_set, List.length_set]; exact l0, ⟨by omega, by rw [pv_eq (by rw [List.length_set]; omega)]⟩, m1, by rw [hne _ (by omega) (by omega)]; exact m2⟩, ⟨by rw [hne _ (by omega) (by omega)]; exact f1, by rw [hne _ (by omega) (by omega)]; exact f2⟩, fun s hs => by rw [hne _ (by omega) (by omega)]; exact be s hs, fun i hi => ?_, fun i hi => by rw [hne _ (by omega) (by omega)]; exact st i hi, fun s hs => ?_, fun s hs => ?_, fun e he => ?_, vI_nd nR (fun d hd => hne _ (by omega) (by omega))⟩
  · obtain ⟨o, o1, o2⟩ := ow i hi
    exact ⟨o, by omega, by rw [hne _ (by omega) (by omega)]; exact o2⟩
  · by_cases q : s = k
    · refine ⟨x, hx, ?_, fun h => by omega⟩
      rw [q, pv_ne (by omega), pv_eq (by omega)]
    · obtain ⟨o, o1, o2, o3⟩ := sn s hs
      exact ⟨o, o1, by rw [hne _ (by omega) (by omega)]; exact o2, fun h => o3 (by omega)⟩
  · rw [hne _ (by omega) (by omega)]
    rcases wa s hs with h | ⟨t, t1, t2⟩
    · exact Or.inl h
    · exact Or.inr ⟨t, by omega, t2⟩
  · obtain ⟨b, b1, b2⟩ := nd e he
    have h2 : 2 ^ k ≤ 2 ^ (k + 1) := Nat.pow_le_pow_right (by omega) (by omega)
    exact ⟨b, by omega, by rw [hne _ (by omega) (by omega)]; exact b2⟩
theorem vI_house {rd nds : List Int32} {k m x y : Nat} (hI : vI rd nds k m) (hm : m < 4) (hx : x < k) (hy : 0 < y ∧ y ≤ 99) : vI (((rd.set (38 + 2 * m) (nI x)).set (38 + 2 * m + 1) (nI y)).set 3 (nI (m + 1))) nds k (m + 1) := by
  obtain ⟨⟨l0, ⟨k1, k2⟩, m1, m2⟩, ⟨f1, f2⟩, be, ow, st, sn, wa, nd, nR⟩ := hI
  have hne : ∀ j, j ≠ 3 → j ≠ 38 + 2 * m → j ≠ 38 + 2 * m + 1 → pv (((rd.set (38 + 2 * m) (nI x)).set (38 + 2 * m + 1) (nI y)).set 3 (nI (m + 1))) j = pv rd j := fun j q1 q2 q3 => by rw [pv_ne q1, pv_ne q3, pv_ne q2]
  refine ⟨⟨by rw [List.length_set, List.length_set, List.length_set]; exact l0, ⟨k1, by rw [hne _ (by omega) (by omega) (by omega)]; exact k2⟩, by omega, by rw [pv_eq (by rw [List.length_set, List.length_set]; omega)]⟩, ⟨by rw [hne _ (by omega) (by omega) (by omega)]; exact f1, by rw [hne _ (by omega) (by omega) (by omega)]; exact f2⟩, fun s hs => by rw [hne _ (by omega) (by omega) (by omega)]; exact be s hs, fun i hi => ?_, fun i hi => ?_, fun s hs => by rw [hne _ (by omega) (by omega) (by omega)]; exact sn s hs, fun s hs => by rw [hne _ (by omega) (by omega) (by omega)]; exact wa s hs, fun e he => by rw [hne _ (by omega) (by omega) (by omega)]; exact nd e he, vI_nd nR (fun d hd => hne _ (by omega) (by omega) (by omega))⟩
  · by_cases q : i = m
    · exact ⟨x, hx, by rw [q, pv_ne (by omega), pv_ne (by omega), pv_eq (by omega)]⟩
    · obtain ⟨o, o1, o2⟩ := ow i (by omega)
      exact ⟨o, o1, by rw [hne _ (by omega) (by omega) (by omega)]; exact o2⟩
  · by_cases q : i = m
    · exact ⟨y, hy.1, hy.2, by rw [q, pv_ne (by omega), pv_eq (by rw [List.length_set]; omega)]⟩
    · obtain ⟨o, o1, o2, o3⟩ := st i (by omega)
      exact ⟨o, o1, o2, by rw [hne _ (by omega) (by omega) (by omega)]; exact o3⟩
theorem or_lt : ∀ b, b < 256 → ∀ s, s < 8 → b ||| 2 ^ s < 256 := by decide +kernel
theorem vI_beside {rd nds : List Int32} {k m x y : Nat} (hI : vI rd nds k m) (hx : x < 8) (hy : y < 8) : vI (rd.set (30 + x) (pv rd (30 + x) ||| nI 1 <<< (nI y &&& nI 31))) nds k m := by
  obtain ⟨⟨l0, ⟨k1, k2⟩, m1, m2⟩, ⟨f1, f2⟩, be, ow, st, sn, wa, nd, nR⟩ := hI
  have hne : ∀ j, j ≠ 30 + x → pv (rd.set (30 + x) (pv rd (30 + x) ||| nI 1 <<< (nI y &&& nI 31))) j = pv rd j := fun j q1 => pv_ne q1
  refine ⟨⟨by rw [List.length_set]; exact l0, ⟨k1, by rw [hne _ (by omega)]; exact k2⟩, m1, by rw [hne _ (by omega)]; exact m2⟩, ⟨by rw [hne _ (by omega)]; exact f1, by rw [hne _ (by omega)]; exact f2⟩, fun s hs => ?_, fun i hi => by rw [hne _ (by omega)]; exact ow i hi, fun i hi => by rw [hne _ (by omega)]; exact st i hi, fun s hs => by rw [hne _ (by omega)]; exact sn s hs, fun s hs => by rw [hne _ (by omega)]; exact wa s hs, fun e he => by rw [hne _ (by omega)]; exact nd e he, vI_nd nR (fun d hd => hne _ (by omega))⟩
  by_cases q : s = x
  · obtain ⟨b, b1, b2⟩ := be x hx
    refine ⟨b ||| 2 ^ y, or_lt b b1 y hy, ?_⟩
    rw [q, pv_eq (by omega), b2, pb_i31 (by omega), pb_sh1 y (by omega), pb_or]
  · rw [hne _ (by omega)]
    exact be s hs
theorem vI_wall {rd nds : List Int32} {k m x y : Nat} (hI : vI rd nds k m) (hx : x < 8) (hy : y < k) : vI (rd.set (54 + x) (nI y)) nds k m := by
  obtain ⟨⟨l0, ⟨k1, k2⟩, m1, m2⟩, ⟨f1, f2⟩, be, ow, st, sn, wa, nd, nR⟩ := hI
  have hne : ∀ j, j ≠ 54 + x → pv (rd.set (54 + x) (nI y)) j = pv rd j := fun j q1 => pv_ne q1
  refine ⟨⟨by rw [List.length_set]; exact l0, ⟨k1, by rw [hne _ (by omega)]; exact k2⟩, m1, by rw [hne _ (by omega)]; exact m2⟩, ⟨by rw [hne _ (by omega)]; exact f1, by rw [hne _ (by omega)]; exact f2⟩, fun s hs => by rw [hne _ (by omega)]; exact be s hs, fun i hi => by rw [hne _ (by omega)]; exact ow i hi, fun i hi => by rw [hne _ (by omega)]; exact st i hi, fun s hs => by rw [hne _ (by omega)]; exact sn s hs, fun s hs => ?_, fun e he => by rw [hne _ (by omega)]; exact nd e he, vI_nd nR (fun d hd => hne _ (by omega))⟩
  by_cases q : s = x
  · exact Or.inr ⟨y, hy, by rw [q, pv_eq (by omega)]⟩
  · rw [hne _ (by omega)]
    exact wa s hs
theorem or_lt2 {b s k : Nat} (hb : b < 2 ^ k) (hs : s < k) : b ||| 2 ^ s < 2 ^ k := Nat.or_lt_two_pow hb (Nat.pow_lt_pow_right (by omega) hs)
theorem vI_need {rd nds : List Int32} {k m x s : Nat} (hI : vI rd nds k m) (hx : x < 31) (hs : s < k) : vI (rd.set (62 + x) (pv rd (62 + x) ||| nI 1 <<< (nI s &&& nI 31))) (nds.set s (pv nds s ||| nI 1 <<< (nI x &&& nI 31))) k m := by
  obtain ⟨⟨l0, ⟨k1, k2⟩, m1, m2⟩, ⟨f1, f2⟩, be, ow, st, sn, wa, nd, nR⟩ := hI
  have hne : ∀ j, j ≠ 62 + x → pv (rd.set (62 + x) (pv rd (62 + x) ||| nI 1 <<< (nI s &&& nI 31))) j = pv rd j := fun j q1 => pv_ne q1
  obtain ⟨b, b1, b2⟩ := nd x hx
  have h8 : (2 : Nat) ^ k ≤ 2 ^ 8 := Nat.pow_le_pow_right (by omega) k1
  have hc : pv (rd.set (62 + x) (pv rd (62 + x) ||| nI 1 <<< (nI s &&& nI 31))) (62 + x) = nI (b ||| 2 ^ s) := by rw [pv_eq (by omega), b2, pb_i31 (by omega), pb_sh1 s (by omega), pb_or]
  have hb' := or_lt2 b1 hs
  refine ⟨⟨by rw [List.length_set]; exact l0, ⟨k1, by rw [hne _ (by omega)]; exact k2⟩, m1, by rw [hne _ (by omega)]; exact m2⟩, ⟨by rw [hne _ (by omega)]; exact f1, by rw [hne _ (by omega)]; exact f2⟩, fun s hs => by rw [hne _ (by omega)]; exact be s hs, fun i hi => by rw [hne _ (by omega)]; exact ow i hi, fun i hi => by rw [hne _ (by omega)]; exact st i hi, fun s hs => by rw [hne _ (by omega)]; exact sn s hs, fun s hs => by rw [hne _ (by omega)]; exact wa s hs, fun e he => ?_, ?_, fun t ht => ?_⟩
  · by_cases q : e = x
    · exact ⟨b ||| 2 ^ s, hb', by rw [q, hc]⟩
    · rw [hne _ (by omega)]
      exact nd e he
  · rw [List.length_set]; exact nR.1
  · obtain ⟨c, c1, c2, c3⟩ := nR.2 t ht
    have hs8 : s < nds.length := by rw [nR.1]; omega
    by_cases q : t = s
    · refine ⟨c ||| 2 ^ x, Nat.or_lt_two_pow c1 (Nat.pow_lt_pow_right (by omega) hx), ?_, fun d hd => ?_⟩
      · rw [q, pv_eq hs8, ← q, c2, pb_i31 (by omega), pb_sh1 x hx, pb_or]
      · rw [Nat.testBit_or, Nat.testBit_two_pow]
        by_cases qd : d = x
        · rw [qd, hc, pb_bit (by omega) (by omega), Nat.testBit_or, Nat.testBit_two_pow, q]
          simp
        · rw [hne _ (by omega), c3 d hd]
          simp
          exact fun h => absurd h.symm qd
    · refine ⟨c, c1, by rw [pv_ne q]; exact c2, fun d hd => ?_⟩
      by_cases qd : d = x
      · rw [qd, hc, pb_bit (by omega) (by omega), Nat.testBit_or, Nat.testBit_two_pow, ← c3 x hx, b2, pb_bit (by omega) (by omega)]
        simp
        exact fun h => absurd h.symm q
      · rw [hne _ (by omega)]
        exact c3 d hd
