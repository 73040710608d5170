/-! ===== rule: the model reads sums ===== -/
def sgK (r : Nat) (sg sg' : List Int32) : Prop := sg'.length = 2400 ∧ ∀ i, i < 400 * r → pv sg' i = pv sg i
theorem sgK_e {r l : Nat} {sg sg' : List Int32} {E : List (Nat × Nat)} (h : sgK r (eW tk_M sg (400 * r + l) E) sg') : sgK r sg sg' := ⟨h.1, fun i hi => by rw [h.2 i hi, eW_lo _ _ _ _ (by omega)]⟩
def mOut (T : List Nat) (r l : Nat) (sg : List Int32) (MM : Int32 → Int32 → Int32 → Int32 → Int32 → List Int32 → ss_Hp) (o : Option (Int32 × ss_Hp)) : rR → Prop
  | .inl F => ∃ z2 z4 z6 zl sg', sgK r sg sg' ∧ o = some (nI 0, MM z2 (nI F) z4 z6 zl sg')
  | .inr (p', E, k') => ∃ p1 z4, p1 ≤ T.length ∧ blk T p1 = blk T p' ∧ o = some (nI 1, MM (nI p1) (nI 0) z4 (nI k') (nI (l + E.length)) (eW tk_M sg (400 * r + l) E))
def mOuL (T : List Nat) (r l : Nat) (sg : List Int32) (MM : Int32 → Int32 → Int32 → Int32 → Int32 → List Int32 → ss_Hp) (o : Option (ss_Hp ⊕ ss_Hp)) : rR → Prop
  | .inl F => ∃ z2 z4 z6 zl sg', sgK r sg sg' ∧ o = some (.inr (MM z2 (nI F) z4 z6 zl sg'))
  | .inr (p', E, k') => ∃ p1 z4, p1 ≤ T.length ∧ blk T p1 = blk T p' ∧ o = some (.inl (MM (nI p1) (nI 0) z4 (nI k') (nI (l + E.length)) (eW tk_M sg (400 * r + l) E)))
theorem mOuL_pre {T : List Nat} {r l : Nat} {sg : List Int32} {MM : Int32 → Int32 → Int32 → Int32 → Int32 → List Int32 → ss_Hp} {o : Option (ss_Hp ⊕ ss_Hp)} {E : List (Nat × Nat)} {q : rR} (hh : mOuL T r (l + E.length) (eW tk_M sg (400 * r + l) E) MM o q) : mOuL T r l sg MM o (rr_pre E q) := by
  rcases q with F | ⟨p', E', k'⟩
  · obtain ⟨z2, z4, z6, zl, sg', s1, s2⟩ := hh
    exact ⟨z2, z4, z6, zl, sg', sgK_e s1, s2⟩
  · obtain ⟨p1, z4, a1, a2, a3⟩ := hh
    refine ⟨p1, z4, a1, a2, ?_⟩
    rw [eW_app, List.length_append, ← Nat.add_assoc, Nat.add_assoc (400 * r)]
    exact a3
theorem b2_0 {γ : Type} {X : Option (Int32 × ss_Hp)} {H : ss_Hp} {A B : ss_Hp → Option γ} (e : X = some (nI 0, H)) : ss_b2 X (fun v h' => if v = (0 : Int32) then A h' else B h') = A H := by
  rw [e]
  rfl
theorem b2_1 {γ : Type} {X : Option (Int32 × ss_Hp)} {H : ss_Hp} {A B : ss_Hp → Option γ} (e : X = some (nI 1, H)) : ss_b2 X (fun v h' => if v = (0 : Int32) then A h' else B h') = B H := by
  rw [e]
  rfl
section MR
variable {n : Nat} {f : Nat → ss_Cl} {m0 m1 m2 m3 m4 m5 m6 m7 m8 m9 m10 m11 m12 m13 m14 m15 : Int32} {dx : Int64} {tp : List Int32} {sg : List Int32} {lg : List Int32} {cl : List Int32} {cs : List Int32} {rd : List Int32} {op : List Int32} {sk : List Int64} {wd : List Int64} {sd : List Int32} {th : List Int32} {fa : List Int32} {ws : List Int32} {kp : List Int32} {li : List Int32} {pr : List Int32} {hb : List Int32} {fi : List Int32} {st : List Int32} {im : List Int32} {jf : List Int32} {jx : List Int32} {mk : List Int32} {N : Nat}
variable {T : List Nat} {r p p0 q k l : Nat}
theorem M_see2 (hm : mz tp T) (h0 : p0 ≤ T.length) (hb0 : blk T p0 = blk T p) (hN : 500 < N) : mm_M_see N (some 118) (pm_M n f (mL (nI T.length) m1 (nI p0) m3 m4 m5 m6 m7 m8 m9 m10 m11 m12 m13 m14 m15) dx tp sg lg cl cs rd op sk wd sd th fa ws kp li pr hb fi st im jf jx mk) = some (se T (blk T p), (pm_M n f (mL (nI T.length) m1 (nI (blk T p)) m3 m4 m5 m6 m7 m8 m9 m10 m11 m12 m13 m14 m15) dx tp sg lg cl cs rd op sk wd sd th fa ws kp li pr hb fi st im jf jx mk)) := by
  rw [M_see hm h0 hN, hb0]
theorem M_seeb (hm : mz tp T) (hp : p ≤ T.length) (hN : 500 < N) : mm_M_see N (some 118) (pm_M n f (mL (nI T.length) m1 (nI (blk T p)) m3 m4 m5 m6 m7 m8 m9 m10 m11 m12 m13 m14 m15) dx tp sg lg cl cs rd op sk wd sd th fa ws kp li pr hb fi st im jf jx mk) = some (se T (blk T p), (pm_M n f (mL (nI T.length) m1 (nI (blk T p)) m3 m4 m5 m6 m7 m8 m9 m10 m11 m12 m13 m14 m15) dx tp sg lg cl cs rd op sk wd sd th fa ws kp li pr hb fi st im jf jx mk)) := M_see2 hm (blk_ub hp) blk_id hN
theorem M_puts {s v : Nat} (hr : r < 6) (hlg : lg.length = 7) (hsg : sg.length = 2400) (hl : l < 400) : mm_M_puts N (some 118) (nI s) (nI v) (pm_M n f (mL m0 m1 m2 m3 m4 (nI r) m6 m7 m8 m9 m10 m11 m12 m13 m14 m15) dx tp sg (lg.set r (nI l)) cl cs rd op sk wd sd th fa ws kp li pr hb fi st im jf jx mk) = some (pm_M n f (mL m0 m1 m2 m3 m4 (nI r) m6 m7 m8 m9 m10 m11 m12 m13 m14 m15) dx tp (sg.set (400 * r + l) (tk_M (s, v))) (lg.set r (nI (l + 1))) cl cs rd op sk wd sd th fa ws kp li pr hb fi st im jf jx mk) := by
  have e1 : pv (lg.set r (nI l)) r = nI l := pv_eq (by omega)
  have e2 : tk_M (s, v) = nI (s + 16 * v) := rfl
  rw [e2]
  unfold mm_M_puts
  simp (disch := ((try simp only [List.length_set, sl_len]); omega)) only [pb_l2, pb_ll, nI_add, pb_mul, if_true, if_false, pb_bs, pb_b2n, pb_bz0, pb_bz1, pb_10, pb_01, pn_is, pn_g0, pn_g1, pn_g2, pn_g3, pn_g4, pn_g5, pn_g6, pn_g9, mL_g0, mL_p0, mL_g1, mL_p1, mL_g2, mL_p2, mL_g3, mL_p3, mL_g4, mL_p4, mL_g5, mL_p5, mL_g6, mL_p6, mL_g7, mL_p7, mL_g8, mL_p8, mL_g9, mL_p9, mL_g10, mL_p10, mL_g11, mL_p11, mL_g12, mL_p12, mL_g13, mL_p13, mL_g14, mL_p14, mL_g15, mL_p15, pn_a2, pn_u2, pn_u1, e1, List.set_set]
theorem M_mk1 {a1 : Int32} (hk : k < 60) : mm_M_makes N (some 118) a1 (pm_M n f (mL m0 m1 m2 m3 m4 m5 (nI k) m7 m8 m9 m10 m11 m12 m13 m14 m15) dx tp sg lg cl cs rd op sk wd sd th fa ws kp li pr hb fi st im jf jx mk) = some (nI 1, (pm_M n f (mL m0 m1 m2 m3 m4 m5 (nI (k + 1)) m7 m8 m9 m10 m11 m12 m13 m14 m15) dx tp sg lg cl cs rd op sk wd sd th fa ws kp li pr hb fi st im jf jx mk)) := by
  have c0 : (nI k = nI 60) = False := pb_nn (by omega) (by omega) (by omega)
  unfold mm_M_makes
  simp only [pb_l2, pb_ll, nI_add, pb_mul, if_true, if_false, pb_bs, pb_b2n, pb_bz0, pb_bz1, pb_10, pb_01, pn_is, pn_g0, pn_g1, pn_g2, pn_g3, pn_g4, pn_g5, pn_g6, pn_g9, mL_g0, mL_p0, mL_g1, mL_p1, mL_g2, mL_p2, mL_g3, mL_p3, mL_g4, mL_p4, mL_g5, mL_p5, mL_g6, mL_p6, mL_g7, mL_p7, mL_g8, mL_p8, mL_g9, mL_p9, mL_g10, mL_p10, mL_g11, mL_p11, mL_g12, mL_p12, mL_g13, mL_p13, mL_g14, mL_p14, mL_g15, mL_p15, c0]
theorem M_mk0 (hk : k = 60) : mm_M_makes N (some 118) (nI q) (pm_M n f (mL m0 m1 m2 (nI 0) m4 m5 (nI k) m7 m8 m9 m10 m11 m12 m13 m14 m15) dx tp sg lg cl cs rd op sk wd sd th fa ws kp li pr hb fi st im jf jx mk) = some (nI 0, (pm_M n f (mL m0 m1 m2 (nI (1 + 8 * q + 3)) m4 m5 (nI k) m7 m8 m9 m10 m11 m12 m13 m14 m15) dx tp sg lg cl cs rd op sk wd sd th fa ws kp li pr hb fi st im jf jx mk)) := by
  have c0 : (nI k = nI 60) = True := eq_true (by rw [hk])
  unfold mm_M_makes
  simp only [pb_l2, pb_ll, nI_add, pb_mul, if_true, if_false, pb_bs, pb_b2n, pb_bz0, pb_bz1, pb_10, pb_01, pn_is, pn_g0, pn_g1, pn_g2, pn_g3, pn_g4, pn_g5, pn_g6, pn_g9, mL_g0, mL_p0, mL_g1, mL_p1, mL_g2, mL_p2, mL_g3, mL_p3, mL_g4, mL_p4, mL_g5, mL_p5, mL_g6, mL_p6, mL_g7, mL_p7, mL_g8, mL_p8, mL_g9, mL_p9, mL_g10, mL_p10, mL_g11, mL_p11, mL_g12, mL_p12, mL_g13, mL_p13, mL_g14, mL_p14, mL_g15, mL_p15, c0, M_fail]
theorem M_wh1 {kd : Nat} (hm : mz tp T) (hq : q ≤ T.length) (hbq : blk T q = q) (hN : 500 < N) (hkd : kd < 12) (hw : wis T q (rW_l.getD kd [])) (hno : ∀ k', k' < kd → ¬ wis T q (rW_l.getD k' [])) : mm_M_wordHere N (some 118) (pm_M n f (mL (nI T.length) m1 (nI q) m3 m4 m5 m6 m7 m8 m9 m10 m11 m12 m13 m14 m15) dx tp sg lg cl cs rd op sk wd sd th fa ws kp li pr hb fi st im jf jx mk) = some (nI kd, (pm_M n f (mL (nI T.length) m1 (nI q) m3 m4 m5 m6 m7 m8 m9 m10 m11 m12 m13 m14 m15) dx tp sg lg cl cs rd op sk wd sd th fa ws kp li pr hb fi st im jf jx mk)) := by
  have hwl := rW_ok.2.2.2.2.2.2
  have hk12 : kd = 0 ∨ kd = 1 ∨ kd = 2 ∨ kd = 3 ∨ kd = 4 ∨ kd = 5 ∨ kd = 6 ∨ kd = 7 ∨ kd = 8 ∨ kd = 9 ∨ kd = 10 ∨ kd = 11 := by omega
  unfold mm_M_wordHere mm_M_wordHere_j155
  rw [if_pos pn_is]
  simp only [pb_ll]
  rcases hk12 with e | e | e | e | e | e | e | e | e | e | e | e <;> subst e
  · rw [b2_1 (M_w1 hm hq hbq hN (hwl 0 (by decide)) rW_0 hw)]
    try rfl
  · rw [b2_0 (M_w0 hm hq hbq hN (hwl 0 (by decide)) rW_0 (hno 0 (by omega))), b2_1 (M_w1 hm hq hbq hN (hwl 1 (by decide)) rW_1 hw)]
    try rfl
  · rw [b2_0 (M_w0 hm hq hbq hN (hwl 0 (by decide)) rW_0 (hno 0 (by omega))), b2_0 (M_w0 hm hq hbq hN (hwl 1 (by decide)) rW_1 (hno 1 (by omega))), b2_1 (M_w1 hm hq hbq hN (hwl 2 (by decide)) rW_2 hw)]
    try rfl
  · rw [b2_0 (M_w0 hm hq hbq hN (hwl 0 (by decide)) rW_0 (hno 0 (by omega))), b2_0 (M_w0 hm hq hbq hN (hwl 1 (by decide)) rW_1 (hno 1 (by omega))), b2_0 (M_w0 hm hq hbq hN (hwl 2 (by decide)) rW_2 (hno 2 (by omega))), b2_1 (M_w1 hm hq hbq hN (hwl 3 (by decide)) rW_3 hw)]
    try rfl
  · rw [b2_0 (M_w0 hm hq hbq hN (hwl 0 (by decide)) rW_0 (hno 0 (by omega))), b2_0 (M_w0 hm hq hbq hN (hwl 1 (by decide)) rW_1 (hno 1 (by omega))), b2_0 (M_w0 hm hq hbq hN (hwl 2 (by decide)) rW_2 (hno 2 (by omega))), b2_0 (M_w0 hm hq hbq hN (hwl 3 (by decide)) rW_3 (hno 3 (by omega))), b2_1 (M_w1 hm hq hbq hN (hwl 4 (by decide)) rW_4 hw)]
    try rfl
  · rw [b2_0 (M_w0 hm hq hbq hN (hwl 0 (by decide)) rW_0 (hno 0 (by omega))), b2_0 (M_w0 hm hq hbq hN (hwl 1 (by decide)) rW_1 (hno 1 (by omega))), b2_0 (M_w0 hm hq hbq hN (hwl 2 (by decide)) rW_2 (hno 2 (by omega))), b2_0 (M_w0 hm hq hbq hN (hwl 3 (by decide)) rW_3 (hno 3 (by omega))), b2_0 (M_w0 hm hq hbq hN (hwl 4 (by decide)) rW_4 (hno 4 (by omega))), b2_1 (M_w1 hm hq hbq hN (hwl 5 (by decide)) rW_5 hw)]
    try rfl
  · rw [b2_0 (M_w0 hm hq hbq hN (hwl 0 (by decide)) rW_0 (hno 0 (by omega))), b2_0 (M_w0 hm hq hbq hN (hwl 1 (by decide)) rW_1 (hno 1 (by omega))), b2_0 (M_w0 hm hq hbq hN (hwl 2 (by decide)) rW_2 (hno 2 (by omega))), b2_0 (M_w0 hm hq hbq hN (hwl 3 (by decide)) rW_3 (hno 3 (by omega))), b2_0 (M_w0 hm hq hbq hN (hwl 4 (by decide)) rW_4 (hno 4 (by omega))), b2_0 (M_w0 hm hq hbq hN (hwl 5 (by decide)) rW_5 (hno 5 (by omega))), b2_1 (M_w1 hm hq hbq hN (hwl 6 (by decide)) rW_6 hw)]
    try rfl
  · rw [b2_0 (M_w0 hm hq hbq hN (hwl 0 (by decide)) rW_0 (hno 0 (by omega))), b2_0 (M_w0 hm hq hbq hN (hwl 1 (by decide)) rW_1 (hno 1 (by omega))), b2_0 (M_w0 hm hq hbq hN (hwl 2 (by decide)) rW_2 (hno 2 (by omega))), b2_0 (M_w0 hm hq hbq hN (hwl 3 (by decide)) rW_3 (hno 3 (by omega))), b2_0 (M_w0 hm hq hbq hN (hwl 4 (by decide)) rW_4 (hno 4 (by omega))), b2_0 (M_w0 hm hq hbq hN (hwl 5 (by decide)) rW_5 (hno 5 (by omega))), b2_0 (M_w0 hm hq hbq hN (hwl 6 (by decide)) rW_6 (hno 6 (by omega))), b2_1 (M_w1 hm hq hbq hN (hwl 7 (by decide)) rW_7 hw)]
    try rfl
  · rw [b2_0 (M_w0 hm hq hbq hN (hwl 0 (by decide)) rW_0 (hno 0 (by omega))), b2_0 (M_w0 hm hq hbq hN (hwl 1 (by decide)) rW_1 (hno 1 (by omega))), b2_0 (M_w0 hm hq hbq hN (hwl 2 (by decide)) rW_2 (hno 2 (by omega))), b2_0 (M_w0 hm hq hbq hN (hwl 3 (by decide)) rW_3 (hno 3 (by omega))), b2_0 (M_w0 hm hq hbq hN (hwl 4 (by decide)) rW_4 (hno 4 (by omega))), b2_0 (M_w0 hm hq hbq hN (hwl 5 (by decide)) rW_5 (hno 5 (by omega))), b2_0 (M_w0 hm hq hbq hN (hwl 6 (by decide)) rW_6 (hno 6 (by omega))), b2_0 (M_w0 hm hq hbq hN (hwl 7 (by decide)) rW_7 (hno 7 (by omega))), b2_1 (M_w1 hm hq hbq hN (hwl 8 (by decide)) rW_8 hw)]
    try rfl
  · rw [b2_0 (M_w0 hm hq hbq hN (hwl 0 (by decide)) rW_0 (hno 0 (by omega))), b2_0 (M_w0 hm hq hbq hN (hwl 1 (by decide)) rW_1 (hno 1 (by omega))), b2_0 (M_w0 hm hq hbq hN (hwl 2 (by decide)) rW_2 (hno 2 (by omega))), b2_0 (M_w0 hm hq hbq hN (hwl 3 (by decide)) rW_3 (hno 3 (by omega))), b2_0 (M_w0 hm hq hbq hN (hwl 4 (by decide)) rW_4 (hno 4 (by omega))), b2_0 (M_w0 hm hq hbq hN (hwl 5 (by decide)) rW_5 (hno 5 (by omega))), b2_0 (M_w0 hm hq hbq hN (hwl 6 (by decide)) rW_6 (hno 6 (by omega))), b2_0 (M_w0 hm hq hbq hN (hwl 7 (by decide)) rW_7 (hno 7 (by omega))), b2_0 (M_w0 hm hq hbq hN (hwl 8 (by decide)) rW_8 (hno 8 (by omega))), b2_1 (M_w1 hm hq hbq hN (hwl 9 (by decide)) rW_9 hw)]
    try rfl
  · rw [b2_0 (M_w0 hm hq hbq hN (hwl 0 (by decide)) rW_0 (hno 0 (by omega))), b2_0 (M_w0 hm hq hbq hN (hwl 1 (by decide)) rW_1 (hno 1 (by omega))), b2_0 (M_w0 hm hq hbq hN (hwl 2 (by decide)) rW_2 (hno 2 (by omega))), b2_0 (M_w0 hm hq hbq hN (hwl 3 (by decide)) rW_3 (hno 3 (by omega))), b2_0 (M_w0 hm hq hbq hN (hwl 4 (by decide)) rW_4 (hno 4 (by omega))), b2_0 (M_w0 hm hq hbq hN (hwl 5 (by decide)) rW_5 (hno 5 (by omega))), b2_0 (M_w0 hm hq hbq hN (hwl 6 (by decide)) rW_6 (hno 6 (by omega))), b2_0 (M_w0 hm hq hbq hN (hwl 7 (by decide)) rW_7 (hno 7 (by omega))), b2_0 (M_w0 hm hq hbq hN (hwl 8 (by decide)) rW_8 (hno 8 (by omega))), b2_0 (M_w0 hm hq hbq hN (hwl 9 (by decide)) rW_9 (hno 9 (by omega))), b2_1 (M_w1 hm hq hbq hN (hwl 10 (by decide)) rW_10 hw)]
    try rfl
  · rw [b2_0 (M_w0 hm hq hbq hN (hwl 0 (by decide)) rW_0 (hno 0 (by omega))), b2_0 (M_w0 hm hq hbq hN (hwl 1 (by decide)) rW_1 (hno 1 (by omega))), b2_0 (M_w0 hm hq hbq hN (hwl 2 (by decide)) rW_2 (hno 2 (by omega))), b2_0 (M_w0 hm hq hbq hN (hwl 3 (by decide)) rW_3 (hno 3 (by omega))), b2_0 (M_w0 hm hq hbq hN (hwl 4 (by decide)) rW_4 (hno 4 (by omega))), b2_0 (M_w0 hm hq hbq hN (hwl 5 (by decide)) rW_5 (hno 5 (by omega))), b2_0 (M_w0 hm hq hbq hN (hwl 6 (by decide)) rW_6 (hno 6 (by omega))), b2_0 (M_w0 hm hq hbq hN (hwl 7 (by decide)) rW_7 (hno 7 (by omega))), b2_0 (M_w0 hm hq hbq hN (hwl 8 (by decide)) rW_8 (hno 8 (by omega))), b2_0 (M_w0 hm hq hbq hN (hwl 9 (by decide)) rW_9 (hno 9 (by omega))), b2_0 (M_w0 hm hq hbq hN (hwl 10 (by decide)) rW_10 (hno 10 (by omega))), b2_1 (M_w1 hm hq hbq hN (hwl 11 (by decide)) rW_11 hw)]
    try rfl
theorem M_wh0 (hm : mz tp T) (hq : q ≤ T.length) (hbq : blk T q = q) (hN : 500 < N) (hno : ∀ k', k' < 12 → ¬ wis T q (rW_l.getD k' [])) : mm_M_wordHere N (some 118) (pm_M n f (mL (nI T.length) m1 (nI q) m3 m4 m5 m6 m7 m8 m9 m10 m11 m12 m13 m14 m15) dx tp sg lg cl cs rd op sk wd sd th fa ws kp li pr hb fi st im jf jx mk) = some (-nI 1, (pm_M n f (mL (nI T.length) m1 (nI q) m3 m4 m5 m6 m7 m8 m9 m10 m11 m12 m13 m14 m15) dx tp sg lg cl cs rd op sk wd sd th fa ws kp li pr hb fi st im jf jx mk)) := by
  have hwl := rW_ok.2.2.2.2.2.2
  unfold mm_M_wordHere mm_M_wordHere_j155
  rw [if_pos pn_is]
  simp only [pb_ll]
  rw [b2_0 (M_w0 hm hq hbq hN (hwl 0 (by decide)) rW_0 (hno 0 (by omega))), b2_0 (M_w0 hm hq hbq hN (hwl 1 (by decide)) rW_1 (hno 1 (by omega))), b2_0 (M_w0 hm hq hbq hN (hwl 2 (by decide)) rW_2 (hno 2 (by omega))), b2_0 (M_w0 hm hq hbq hN (hwl 3 (by decide)) rW_3 (hno 3 (by omega))), b2_0 (M_w0 hm hq hbq hN (hwl 4 (by decide)) rW_4 (hno 4 (by omega))), b2_0 (M_w0 hm hq hbq hN (hwl 5 (by decide)) rW_5 (hno 5 (by omega))), b2_0 (M_w0 hm hq hbq hN (hwl 6 (by decide)) rW_6 (hno 6 (by omega))), b2_0 (M_w0 hm hq hbq hN (hwl 7 (by decide)) rW_7 (hno 7 (by omega))), b2_0 (M_w0 hm hq hbq hN (hwl 8 (by decide)) rW_8 (hno 8 (by omega))), b2_0 (M_w0 hm hq hbq hN (hwl 9 (by decide)) rW_9 (hno 9 (by omega))), b2_0 (M_w0 hm hq hbq hN (hwl 10 (by decide)) rW_10 (hno 10 (by omega))), b2_0 (M_w0 hm hq hbq hN (hwl 11 (by decide)) rW_11 (hno 11 (by omega)))]
  rfl
theorem M_val (hm : mz tp T) (hN : 500 < N) (hr : r < 6) (hlg : lg.length = 7) (hp : p ≤ T.length) (h0 : p0 ≤ T.length) (hb0 : blk T p0 = blk T p) (hsg : sg.length = 2400) (hk : k ≤ 60) (hl0 : p < T.length → l < 400) : match rV T p k with
    | .inl F => ∃ z2 z4 z6, mm_M_value N (some 118) (pm_M n f (mL (nI T.length) m1 (nI p0) (nI 0) m4 (nI r) (nI k) m7 m8 m9 m10 m11 m12 m13 m14 m15) dx tp sg (lg.set r (nI l)) cl cs rd op sk wd sd th fa ws kp li pr hb fi st im jf jx mk) = some (nI 0, (pm_M n f (mL (nI T.length) m1 z2 (nI F) z4 (nI r) z6 m7 m8 m9 m10 m11 m12 m13 m14 m15) dx tp sg (lg.set r (nI l)) cl cs rd op sk wd sd th fa ws kp li pr hb fi st im jf jx mk))
    | .inr (p', E, k') => E.length = 1 ∧ ∃ z4, mm_M_value N (some 118) (pm_M n f (mL (nI T.length) m1 (nI p0) (nI 0) m4 (nI r) (nI k) m7 m8 m9 m10 m11 m12 m13 m14 m15) dx tp sg (lg.set r (nI l)) cl cs rd op sk wd sd th fa ws kp li pr hb fi st im jf jx mk) = some (nI 1, (pm_M n f (mL (nI T.length) m1 (nI p') (nI 0) z4 (nI r) (nI k') m7 m8 m9 m10 m11 m12 m13 m14 m15) dx tp (eW tk_M sg (400 * r + l) E) (lg.set r (nI (l + 1))) cl cs rd op sk wd sd th fa ws kp li pr hb fi st im jf jx mk)) := by
  have hT := hm.1
  have hq := blk_ub hp
  have hbl := blk_le (T := T) (p := p)
  have hpd : blk T p < 2147483648 := by omega
  by_cases h1 : vn_dg T p
  · have hl : l < 400 := hl0 (by have := h1.1; omega)
    by_cases h2 : eD T (blk T p) - blk T p ≤ 5
    · have hv : vn_v T p < 100000 := nv_lt h2
      have hg : vn_gd T p (nI 0) (nI 99999) := ⟨h1, h2, nI_nlt (by omega) (by omega), nI_nlt (by omega) (by omega)⟩
      by_cases h3 : k < 60
      · rw [rV_A h1 h2 h3]
        refine ⟨rfl, nI (vn_v T p), ?_⟩
        unfold mm_M_value
        simp only [pb_l2, pb_ll, nI_add, pb_mul, if_true, if_false, pb_bs, pb_b2n, pb_bz0, pb_bz1, pb_10, pb_01, pn_is, pn_g0, pn_g1, pn_g2, pn_g3, pn_g4, pn_g5, pn_g6, pn_g9, mL_g0, mL_p0, mL_g1, mL_p1, mL_g2, mL_p2, mL_g3, mL_p3, mL_g4, mL_p4, mL_g5, mL_p5, mL_g6, mL_p6, mL_g7, mL_p7, mL_g8, mL_p8, mL_g9, mL_p9, mL_g10, mL_p10, mL_g11, mL_p11, mL_g12, mL_p12, mL_g13, mL_p13, mL_g14, mL_p14, mL_g15, mL_p15, M_see2 hm h0 hb0 hN, M_dig1 hm h1.1 h1.2, M_goodb hm hp hN hg, M_mk1 h3, M_puts hr hlg hsg hl]
        rfl
      · rw [rV_B h1 h2 h3]
        refine ⟨nI (vn_e T p), nI (vn_v T p), nI k, ?_⟩
        unfold mm_M_value mm_M_value_j39
        simp only [pb_l2, pb_ll, nI_add, pb_mul, if_true, if_false, pb_bs, pb_b2n, pb_bz0, pb_bz1, pb_10, pb_01, pn_is, pn_g0, pn_g1, pn_g2, pn_g3, pn_g4, pn_g5, pn_g6, pn_g9, mL_g0, mL_p0, mL_g1, mL_p1, mL_g2, mL_p2, mL_g3, mL_p3, mL_g4, mL_p4, mL_g5, mL_p5, mL_g6, mL_p6, mL_g7, mL_p7, mL_g8, mL_p8, mL_g9, mL_p9, mL_g10, mL_p10, mL_g11, mL_p11, mL_g12, mL_p12, mL_g13, mL_p13, mL_g14, mL_p14, mL_g15, mL_p15, M_see2 hm h0 hb0 hN, M_dig1 hm h1.1 h1.2, M_goodb hm hp hN hg, M_mk0 (show k = 60 by omega)]
        rfl
    · rw [rV_C h1 h2]
      have hg : ¬ vn_gd T p (nI 0) (nI 99999) := fun x => h2 x.2.1
      have ew : vn_w T p = 1 := if_pos h1
      refine ⟨nI (vn_z T p), vn_4 T p m4, nI k, ?_⟩
      unfold mm_M_value mm_M_value_j39
      simp only [pb_l2, pb_ll, nI_add, pb_mul, if_true, if_false, pb_bs, pb_b2n, pb_bz0, pb_bz1, pb_10, pb_01, pn_is, pn_g0, pn_g1, pn_g2, pn_g3, pn_g4, pn_g5, pn_g6, pn_g9, mL_g0, mL_p0, mL_g1, mL_p1, mL_g2, mL_p2, mL_g3, mL_p3, mL_g4, mL_p4, mL_g5, mL_p5, mL_g6, mL_p6, mL_g7, mL_p7, mL_g8, mL_p8, mL_g9, mL_p9, mL_g10, mL_p10, mL_g11, mL_p11, mL_g12, mL_p12, mL_g13, mL_p13, mL_g14, mL_p14, mL_g15, mL_p15, M_see2 hm h0 hb0 hN, M_dig1 hm h1.1 h1.2, M_badb hm hp hN hg, ew]
      rfl
  · have d0 : blk T p < T.length → isD T (blk T p) = false := fun x => by
      cases y : isD T (blk T p) with
      | false => rfl
      | true => exact absurd ⟨x, y⟩ h1
    rcases wix_cs (T := T) (q := blk T p) with ⟨w1, w2⟩ | ⟨kd, k1, w1, w2, w3⟩
    · rw [rV_F h1 w1]
      refine ⟨nI (blk T p), m4, nI k, ?_⟩
      have m0 : (nI 0 ≤ -nI 1) = False := by simp; decide
      unfold mm_M_value
      simp only [pb_l2, pb_ll, nI_add, pb_mul, if_true, if_false, pb_bs, pb_b2n, pb_bz0, pb_bz1, pb_10, pb_01, pn_is, pn_g0, pn_g1, pn_g2, pn_g3, pn_g4, pn_g5, pn_g6, pn_g9, mL_g0, mL_p0, mL_g1, mL_p1, mL_g2, mL_p2, mL_g3, mL_p3, mL_g4, mL_p4, mL_g5, mL_p5, mL_g6, mL_p6, mL_g7, mL_p7, mL_g8, mL_p8, mL_g9, mL_p9, mL_g10, mL_p10, mL_g11, mL_p11, mL_g12, mL_p12, mL_g13, mL_p13, mL_g14, mL_p14, mL_g15, mL_p15, M_see2 hm h0 hb0 hN, M_dig0 hm hpd d0, M_wh0 hm hq blk_id hN w2, m0, M_fail]
      rfl
    · have m0 : (nI 0 ≤ nI kd) = True := eq_true (nI_le (by omega) (by omega))
      have hen := en_w w2 (rW_ok.2.2.2.2.2.2 kd k1) hq
      have hl : l < 400 := hl0 (by omega)
      by_cases h3 : k < 60
      · rw [rV_D h1 w1 h3]
        refine ⟨rfl, m4, ?_⟩
        unfold mm_M_value
        simp only [pb_l2, pb_ll, nI_add, pb_mul, if_true, if_false, pb_bs, pb_b2n, pb_bz0, pb_bz1, pb_10, pb_01, pn_is, pn_g0, pn_g1, pn_g2, pn_g3, pn_g4, pn_g5, pn_g6, pn_g9, mL_g0, mL_p0, mL_g1, mL_p1, mL_g2, mL_p2, mL_g3, mL_p3, mL_g4, mL_p4, mL_g5, mL_p5, mL_g6, mL_p6, mL_g7, mL_p7, mL_g8, mL_p8, mL_g9, mL_p9, mL_g10, mL_p10, mL_g11, mL_p11, mL_g12, mL_p12, mL_g13, mL_p13, mL_g14, mL_p14, mL_g15, mL_p15, M_see2 hm h0 hb0 hN, M_dig0 hm hpd d0, M_wh1 hm hq blk_id hN k1 w2 w3, m0, M_mk1 h3, M_pass hm hq hN, M_puts hr hlg hsg hl]
        rfl
      · rw [rV_E h1 w1 h3]
        refine ⟨nI (blk T p), m4, nI k, ?_⟩
        unfold mm_M_value
        simp only [pb_l2, pb_ll, nI_add, pb_mul, if_true, if_false, pb_bs, pb_b2n, pb_bz0, pb_bz1, pb_10, pb_01, pn_is, pn_g0, pn_g1, pn_g2, pn_g3, pn_g4, pn_g5, pn_g6, pn_g9, mL_g0, mL_p0, mL_g1, mL_p1, mL_g2, mL_p2, mL_g3, mL_p3, mL_g4, mL_p4, mL_g5, mL_p5, mL_g6, mL_p6, mL_g7, mL_p7, mL_g8, mL_p8, mL_g9, mL_p9, mL_g10, mL_p10, mL_g11, mL_p11, mL_g12, mL_p12, mL_g13, mL_p13, mL_g14, mL_p14, mL_g15, mL_p15, M_see2 hm h0 hb0 hN, M_dig0 hm hpd d0, M_wh1 hm hq blk_id hN k1 w2 w3, m0, M_mk0 (show k = 60 by omega)]
        rfl
theorem se_ne {x : Nat} (hm : mz tp T) (hp : p ≤ T.length) (hx : x < 128) (h : ¬ (blk T p < T.length ∧ T.getD (blk T p) 0 = x)) : (se T (blk T p) = nI x) = False := by
  by_cases hb : blk T p < T.length
  · rw [se_0 hb]
    have := hm.2.1 _ hb
    exact pb_nn (fun e => h ⟨hb, e⟩) (by omega) (by omega)
  · rw [se_1 hb]
    refine eq_false (fun e => ?_)
    have e2 : (-nI 1).toInt = -1 := by decide
    have e := congrArg Int32.toInt e
    rw [e2, nI_toInt (by omega)] at e
    omega
theorem M_tb (hm : mz tp T) (hp : p ≤ T.length) (h0 : p0 ≤ T.length) (hb0 : blk T p0 = blk T p) (hN : 500 < N) (ho : opT T (blk T p) ≠ 0) : mm_M_term_b9 N (some 118) (pm_M n f (mL (nI T.length) m1 (nI p0) m3 m4 m5 m6 m7 m8 m9 m10 m11 m12 m13 m14 m15) dx tp sg lg cl cs rd op sk wd sd th fa ws kp li pr hb fi st im jf jx mk) = mm_M_term_j74 N (some 118) (nI (opT T (blk T p))) (pm_M n f (mL (nI T.length) m1 (nI (blk T p)) m3 m4 m5 m6 m7 m8 m9 m10 m11 m12 m13 m14 m15) dx tp sg lg cl cs rd op sk wd sd th fa ws kp li pr hb fi st im jf jx mk) := by
  obtain ⟨hb, h2⟩ := opT_b ho
  have hby := hm.2.1 _ hb
  unfold mm_M_term_b9 mm_M_term_j36
  rcases h2 with ⟨e, e2⟩ | ⟨e, e2⟩ | ⟨e, e2⟩
  · have s42 : se T (blk T p) = nI 42 := by rw [se_0 hb, e]
    rw [e2]
    simp only [pb_l2, pb_ll, nI_add, pb_mul, if_true, if_false, pb_bs, pb_b2n, pb_bz0, pb_bz1, pb_10, pb_01, pn_is, pn_g0, pn_g1, pn_g2, pn_g3, pn_g4, pn_g5, pn_g6, pn_g9, mL_g0, mL_p0, mL_g1, mL_p1, mL_g2, mL_p2, mL_g3, mL_p3, mL_g4, mL_p4, mL_g5, mL_p5, mL_g6, mL_p6, mL_g7, mL_p7, mL_g8, mL_p8, mL_g9, mL_p9, mL_g10, mL_p10, mL_g11, mL_p11, mL_g12, mL_p12, mL_g13, mL_p13, mL_g14, mL_p14, mL_g15, mL_p15, M_see2 hm h0 hb0 hN, s42, mz_ai hm hb, e, mb_nn (show 42 < 128 by omega)]
  · have s42 := se_ne (x := 42) hm hp (by omega) (fun q => by have := q.2; omega)
    have s47 : se T (blk T p) = nI 47 := by rw [se_0 hb, e]
    rw [s47] at s42
    rw [e2]
    simp only [pb_l2, pb_ll, nI_add, pb_mul, if_true, if_false, pb_bs, pb_b2n, pb_bz0, pb_bz1, pb_10, pb_01, pn_is, pn_g0, pn_g1, pn_g2, pn_g3, pn_g4, pn_g5, pn_g6, pn_g9, mL_g0, mL_p0, mL_g1, mL_p1, mL_g2, mL_p2, mL_g3, mL_p3, mL_g4, mL_p4, mL_g5, mL_p5, mL_g6, mL_p6, mL_g7, mL_p7, mL_g8, mL_p8, mL_g9, mL_p9, mL_g10, mL_p10, mL_g11, mL_p11, mL_g12, mL_p12, mL_g13, mL_p13, mL_g14, mL_p14, mL_g15, mL_p15, M_see2 hm h0 hb0 hN, M_seeb hm hp hN, s47, s42, mz_ai hm hb, e, mb_nn (show 47 < 128 by omega)]
  · have s42 := se_ne (x := 42) hm hp (by omega) (fun q => by have := q.2; omega)
    have s47 := se_ne (x := 47) hm hp (by omega) (fun q => by have := q.2; omega)
    have s37 : se T (blk T p) = nI 37 := by rw [se_0 hb, e]
    rw [s37] at s42 s47
    rw [e2]
    simp only [pb_l2, pb_ll, nI_add, pb_mul, if_true, if_false, pb_bs, pb_b2n, pb_bz0, pb_bz1, pb_10, pb_01, pn_is, pn_g0, pn_g1, pn_g2, pn_g3, pn_g4, pn_g5, pn_g6, pn_g9, mL_g0, mL_p0, mL_g1, mL_p1, mL_g2, mL_p2, mL_g3, mL_p3, mL_g4, mL_p4, mL_g5, mL_p5, mL_g6, mL_p6, mL_g7, mL_p7, mL_g8, mL_p8, mL_g9, mL_p9, mL_g10, mL_p10, mL_g11, mL_p11, mL_g12, mL_p12, mL_g13, mL_p13, mL_g14, mL_p14, mL_g15, mL_p15, M_see2 hm h0 hb0 hN, M_seeb hm hp hN, s37, s42, s47, mz_ai hm hb, e, mb_nn (show 37 < 128 by omega)]
theorem M_te (hm : mz tp T) (hp : p ≤ T.length) (h0 : p0 ≤ T.length) (hb0 : blk T p0 = blk T p) (hN : 500 < N) (ho : opT T (blk T p) = 0) : mm_M_term_b9 N (some 118) (pm_M n f (mL (nI T.length) m1 (nI p0) m3 m4 m5 m6 m7 m8 m9 m10 m11 m12 m13 m14 m15) dx tp sg lg cl cs rd op sk wd sd th fa ws kp li pr hb fi st im jf jx mk) = some (.inr (.inl (pm_M n f (mL (nI T.length) m1 (nI (blk T p)) m3 m4 m5 m6 m7 m8 m9 m10 m11 m12 m13 m14 m15) dx tp sg lg cl cs rd op sk wd sd th fa ws kp li pr hb fi st im jf jx mk))) := by
  have nn : ∀ x, (x = 42 ∨ x = 47 ∨ x = 37) → ¬ (blk T p < T.length ∧ T.getD (blk T p) 0 = x) := fun x hx q => by
    unfold opT at ho
    rw [if_pos q.1, q.2] at ho
    rcases hx with e | e | e <;> subst e <;> simp at ho
  have s42 := se_ne (x := 42) hm hp (by omega) (nn 42 (by omega))
  have s47 := se_ne (x := 47) hm hp (by omega) (nn 47 (by omega))
  have s37 := se_ne (x := 37) hm hp (by omega) (nn 37 (by omega))
  unfold mm_M_term_b9
  simp only [pb_l2, pb_ll, nI_add, pb_mul, if_true, if_false, pb_bs, pb_b2n, pb_bz0, pb_bz1, pb_10, pb_01, pn_is, pn_g0, pn_g1, pn_g2, pn_g3, pn_g4, pn_g5, pn_g6, pn_g9, mL_g0, mL_p0, mL_g1, mL_p1, mL_g2, mL_p2, mL_g3, mL_p3, mL_g4, mL_p4, mL_g5, mL_p5, mL_g6, mL_p6, mL_g7, mL_p7, mL_g8, mL_p8, mL_g9, mL_p9, mL_g10, mL_p10, mL_g11, mL_p11, mL_g12, mL_p12, mL_g13, mL_p13, mL_g14, mL_p14, mL_g15, mL_p15, M_see2 hm h0 hb0 hN, M_seeb hm hp hN, s42, s47, s37]
theorem M_sb (hm : mz tp T) (hp : p ≤ T.length) (h0 : p0 ≤ T.length) (hb0 : blk T p0 = blk T p) (hN : 500 < N) (ho : opS T (blk T p) ≠ 0) : mm_M_sum_b9 N (some 118) (pm_M n f (mL (nI T.length) m1 (nI p0) m3 m4 m5 m6 m7 m8 m9 m10 m11 m12 m13 m14 m15) dx tp sg lg cl cs rd op sk wd sd th fa ws kp li pr hb fi st im jf jx mk) = mm_M_sum_j46 N (some 118) (nI (opS T (blk T p))) (pm_M n f (mL (nI T.length) m1 (nI (blk T p)) m3 m4 m5 m6 m7 m8 m9 m10 m11 m12 m13 m14 m15) dx tp sg lg cl cs rd op sk wd sd th fa ws kp li pr hb fi st im jf jx mk) := by
  obtain ⟨hb, h2⟩ := opS_b ho
  have hby := hm.2.1 _ hb
  unfold mm_M_sum_b9 mm_M_sum_j27
  rcases h2 with ⟨e, e2⟩ | ⟨e, e2⟩
  · have s42 : se T (blk T p) = nI 43 := by rw [se_0 hb, e]
    rw [e2]
    simp only [pb_l2, pb_ll, nI_add, pb_mul, if_true, if_false, pb_bs, pb_b2n, pb_bz0, pb_bz1, pb_10, pb_01, pn_is, pn_g0, pn_g1, pn_g2, pn_g3, pn_g4, pn_g5, pn_g6, pn_g9, mL_g0, mL_p0, mL_g1, mL_p1, mL_g2, mL_p2, mL_g3, mL_p3, mL_g4, mL_p4, mL_g5, mL_p5, mL_g6, mL_p6, mL_g7, mL_p7, mL_g8, mL_p8, mL_g9, mL_p9, mL_g10, mL_p10, mL_g11, mL_p11, mL_g12, mL_p12, mL_g13, mL_p13, mL_g14, mL_p14, mL_g15, mL_p15, M_see2 hm h0 hb0 hN, s42, mz_ai hm hb, e, mb_nn (show 43 < 128 by omega)]
  · have s42 := se_ne (x := 43) hm hp (by omega) (fun q => by have := q.2; omega)
    have s47 : se T (blk T p) = nI 45 := by rw [se_0 hb, e]
    rw [s47] at s42
    rw [e2]
    simp only [pb_l2, pb_ll, nI_add, pb_mul, if_true, if_false, pb_bs, pb_b2n, pb_bz0, pb_bz1, pb_10, pb_01, pn_is, pn_g0, pn_g1, pn_g2, pn_g3, pn_g4, pn_g5, pn_g6, pn_g9, mL_g0, mL_p0, mL_g1, mL_p1, mL_g2, mL_p2, mL_g3, mL_p3, mL_g4, mL_p4, mL_g5, mL_p5, mL_g6, mL_p6, mL_g7, mL_p7, mL_g8, mL_p8, mL_g9, mL_p9, mL_g10, mL_p10, mL_g11, mL_p11, mL_g12, mL_p12, mL_g13, mL_p13, mL_g14, mL_p14, mL_g15, mL_p15, M_see2 hm h0 hb0 hN, M_seeb hm hp hN, s47, s42, mz_ai hm hb, e, mb_nn (show 45 < 128 by omega)]
theorem M_se (hm : mz tp T) (hp : p ≤ T.length) (h0 : p0 ≤ T.length) (hb0 : blk T p0 = blk T p) (hN : 500 < N) (ho : opS T (blk T p) = 0) : mm_M_sum_b9 N (some 118) (pm_M n f (mL (nI T.length) m1 (nI p0) m3 m4 m5 m6 m7 m8 m9 m10 m11 m12 m13 m14 m15) dx tp sg lg cl cs rd op sk wd sd th fa ws kp li pr hb fi st im jf jx mk) = some (.inr (.inl (pm_M n f (mL (nI T.length) m1 (nI (blk T p)) m3 m4 m5 m6 m7 m8 m9 m10 m11 m12 m13 m14 m15) dx tp sg lg cl cs rd op sk wd sd th fa ws kp li pr hb fi st im jf jx mk))) := by
  have nn : ∀ x, (x = 43 ∨ x = 45) → ¬ (blk T p < T.length ∧ T.getD (blk T p) 0 = x) := fun x hx q => by
    unfold opS at ho
    rw [if_pos q.1, q.2] at ho
    rcases hx with e | e <;> subst e <;> simp at ho
  have s42 := se_ne (x := 43) hm hp (by omega) (nn 43 (by omega))
  have s47 := se_ne (x := 45) hm hp (by omega) (nn 45 (by omega))
  unfold mm_M_sum_b9
  simp only [pb_l2, pb_ll, nI_add, pb_mul, if_true, if_false, pb_bs, pb_b2n, pb_bz0, pb_bz1, pb_10, pb_01, pn_is, pn_g0, pn_g1, pn_g2, pn_g3, pn_g4, pn_g5, pn_g6, pn_g9, mL_g0, mL_p0, mL_g1, mL_p1, mL_g2, mL_p2, mL_g3, mL_p3, mL_g4, mL_p4, mL_g5, mL_p5, mL_g6, mL_p6, mL_g7, mL_p7, mL_g8, mL_p8, mL_g9, mL_p9, mL_g10, mL_p10, mL_g11, mL_p11, mL_g12, mL_p12, mL_g13, mL_p13, mL_g14, mL_p14, mL_g15, mL_p15, M_see2 hm h0 hb0 hN, M_seeb hm hp hN, s42, s47]
theorem M_termL (hm : mz tp T) (hN : 500 < N) (hr : r < 6) (hlg : lg.length = 7) : ∀ g9 p p0 k l sg m4 Q, T.length - p < g9 → g9 < Q → p ≤ T.length → p0 ≤ T.length → blk T p0 = blk T p → sg.length = 2400 → k ≤ 60 → l ≤ p → mOuL T r l sg (fun z2 z3 z4 z6 zl sg => (pm_M n f (mL (nI T.length) m1 z2 z3 z4 (nI r) z6 m7 m8 m9 m10 m11 m12 m13 m14 m15) dx tp sg (lg.set r zl) cl cs rd op sk wd sd th fa ws kp li pr hb fi st im jf jx mk)) (ss_lp (mm_M_term_b9 N (some 118)) Q (pm_M n f (mL (nI T.length) m1 (nI p0) (nI 0) m4 (nI r) (nI k) m7 m8 m9 m10 m11 m12 m13 m14 m15) dx tp sg (lg.set r (nI l)) cl cs rd op sk wd sd th fa ws kp li pr hb fi st im jf jx mk)) (mTf T g9 p k) := by
  have hT := hm.1
  intro g9
  induction g9 with
  | zero => intro p p0 k l sg m4 Q h1; omega
  | succ g9 ih =>
    intro p p0 k l sg m4 Q h1 hQ hp h0 hb0 hsg hk hl
    obtain ⟨Q, rfl⟩ : ∃ Q', Q = Q' + 1 := ⟨Q - 1, by omega⟩
    have hq := blk_ub hp
    have hbl := blk_le (T := T) (p := p)
    show mOuL T r l sg (fun z2 z3 z4 z6 zl sg => (pm_M n f (mL (nI T.length) m1 z2 z3 z4 (nI r) z6 m7 m8 m9 m10 m11 m12 m13 m14 m15) dx tp sg (lg.set r zl) cl cs rd op sk wd sd th fa ws kp li pr hb fi st im jf jx mk)) _ (if opT T (blk T p) = 0 then .inr (p, [], k) else rr_bnd _ _)
    by_cases ho : opT T (blk T p) = 0
    · rw [if_pos ho]
      refine ⟨blk T p, m4, hq, blk_id, ?_⟩
      rw [ss_lp, M_te hm hp h0 hb0 hN ho]
      rfl
    · rw [if_neg ho]
      have hbt := (opT_cs (T := T) (q := blk T p)).resolve_left ho
      have V := M_val (p := blk T p + 1) (p0 := blk T p + 1) (l := l) (m4 := m4) (n := n) (f := f) (m1 := m1) (m7 := m7) (m8 := m8) (m9 := m9) (m10 := m10) (m11 := m11) (m12 := m12) (m13 := m13) (m14 := m14) (m15 := m15) (dx := dx) (cl := cl) (cs := cs) (rd := rd) (op := op) (sk := sk) (wd := wd) (sd := sd) (th := th) (fa := fa) (ws := ws) (kp := kp) (li := li) (pr := pr) (hb := hb) (fi := fi) (st := st) (im := im) (jf := jf) (jx := jx) (mk := mk) hm hN hr hlg hbt.1 hbt.1 rfl hsg hk (fun _ => by omega)
      have gV := gR_V (c := k) hT (p := blk T p + 1) hbt.1
      have kV := kR_V (T := T) (p := blk T p + 1) (c := k)
      rw [ss_lp, M_tb hm hp h0 hb0 hN ho]
      generalize rV T (blk T p + 1) k = q at V gV kV ⊢
      rcases q with F | ⟨p1, E1, k1⟩
      · obtain ⟨z2, z4, z6, V⟩ := V
        refine ⟨z2, z4, z6, nI l, sg, ⟨hsg, fun _ _ => rfl⟩, ?_⟩
        unfold mm_M_term_j74
        simp only [pb_l2, pb_ll, nI_add, pb_mul, if_true, if_false, pb_bs, pb_b2n, pb_bz0, pb_bz1, pb_10, pb_01, pn_is, pn_g0, pn_g1, pn_g2, pn_g3, pn_g4, pn_g5, pn_g6, pn_g9, mL_g0, mL_p0, mL_g1, mL_p1, mL_g2, mL_p2, mL_g3, mL_p3, mL_g4, mL_p4, mL_g5, mL_p5, mL_g6, mL_p6, mL_g7, mL_p7, mL_g8, mL_p8, mL_g9, mL_p9, mL_g10, mL_p10, mL_g11, mL_p11, mL_g12, mL_p12, mL_g13, mL_p13, mL_g14, mL_p14, mL_g15, mL_p15, V]
      · obtain ⟨e1, z4, V⟩ := V
        rw [show l + 1 = l + E1.length by omega] at V
        obtain ⟨g1, g2, g3, -⟩ := gV
        have hk1 := kV p1 E1 k1 rfl
        refine mOuL_pre ?_
        refine mOuL_pre ?_
        have hs1 : (eW tk_M sg (400 * r + l) E1).length = 2400 := by rw [eW_len]; exact hsg
        have b1 : mm_M_term_j74 N (some 118) (nI (opT T (blk T p))) (pm_M n f (mL (nI T.length) m1 (nI (blk T p)) (nI 0) m4 (nI r) (nI k) m7 m8 m9 m10 m11 m12 m13 m14 m15) dx tp sg (lg.set r (nI l)) cl cs rd op sk wd sd th fa ws kp li pr hb fi st im jf jx mk) = some (.inl (pm_M n f (mL (nI T.length) m1 (nI p1) (nI 0) z4 (nI r) (nI k1) m7 m8 m9 m10 m11 m12 m13 m14 m15) dx tp (eW tk_M (eW tk_M sg (400 * r + l) E1) (400 * r + (l + E1.length)) [(opT T (blk T p), 0)]) (lg.set r (nI (l + E1.length + 1))) cl cs rd op sk wd sd th fa ws kp li pr hb fi st im jf jx mk)) := by
          unfold mm_M_term_j74
          simp only [pb_l2, pb_ll, nI_add, pb_mul, if_true, if_false, pb_bs, pb_b2n, pb_bz0, pb_bz1, pb_10, pb_01, pn_is, pn_g0, pn_g1, pn_g2, pn_g3, pn_g4, pn_g5, pn_g6, pn_g9, mL_g0, mL_p0, mL_g1, mL_p1, mL_g2, mL_p2, mL_g3, mL_p3, mL_g4, mL_p4, mL_g5, mL_p5, mL_g6, mL_p6, mL_g7, mL_p7, mL_g8, mL_p8, mL_g9, mL_p9, mL_g10, mL_p10, mL_g11, mL_p11, mL_g12, mL_p12, mL_g13, mL_p13, mL_g14, mL_p14, mL_g15, mL_p15, V, M_puts hr hlg hs1 (show l + E1.length < 400 by omega)]
          rfl
        rw [b1]
        exact ih p1 p1 k1 (l + E1.length + 1) _ z4 Q (by omega) (by omega) g2 g2 rfl (by rw [eW_len]; exact hs1) hk1 (by omega)
theorem M_term (hm : mz tp T) (hN : 500 < N) (hr : r < 6) (hlg : lg.length = 7) (hp : p ≤ T.length) (h0 : p0 ≤ T.length) (hb0 : blk T p0 = blk T p) (hsg : sg.length = 2400) (hk : k ≤ 60) (hl : l ≤ p) : mOut T r l sg (fun z2 z3 z4 z6 zl sg => (pm_M n f (mL (nI T.length) m1 z2 z3 z4 (nI r) z6 m7 m8 m9 m10 m11 m12 m13 m14 m15) dx tp sg (lg.set r zl) cl cs rd op sk wd sd th fa ws kp li pr hb fi st im jf jx mk)) (mm_M_term N (some 118) (pm_M n f (mL (nI T.length) m1 (nI p0) (nI 0) m4 (nI r) (nI k) m7 m8 m9 m10 m11 m12 m13 m14 m15) dx tp sg (lg.set r (nI l)) cl cs rd op sk wd sd th fa ws kp li pr hb fi st im jf jx mk)) (mTm T p k) := by
  have hT := hm.1
  have V := M_val (m4 := m4) (l := l) (n := n) (f := f) (m1 := m1) (m7 := m7) (m8 := m8) (m9 := m9) (m10 := m10) (m11 := m11) (m12 := m12) (m13 := m13) (m14 := m14) (m15 := m15) (dx := dx) (cl := cl) (cs := cs) (rd := rd) (op := op) (sk := sk) (wd := wd) (sd := sd) (th := th) (fa := fa) (ws := ws) (kp := kp) (li := li) (pr := pr) (hb := hb) (fi := fi) (st := st) (im := im) (jf := jf) (jx := jx) (mk := mk) hm hN hr hlg hp h0 hb0 hsg hk (fun _ => by omega)
  have gV := gR_V (c := k) hT hp
  have kV := kR_V (T := T) (p := p) (c := k)
  unfold mTm
  generalize rV T p k = q at V gV kV ⊢
  rcases q with F | ⟨p1, E1, k1⟩
  · obtain ⟨z2, z4, z6, V⟩ := V
    refine ⟨z2, z4, z6, nI l, sg, ⟨hsg, fun _ _ => rfl⟩, ?_⟩
    unfold mm_M_term
    simp only [pb_l2, pb_ll, nI_add, pb_mul, if_true, if_false, pb_bs, pb_b2n, pb_bz0, pb_bz1, pb_10, pb_01, pn_is, pn_g0, pn_g1, pn_g2, pn_g3, pn_g4, pn_g5, pn_g6, pn_g9, mL_g0, mL_p0, mL_g1, mL_p1, mL_g2, mL_p2, mL_g3, mL_p3, mL_g4, mL_p4, mL_g5, mL_p5, mL_g6, mL_p6, mL_g7, mL_p7, mL_g8, mL_p8, mL_g9, mL_p9, mL_g10, mL_p10, mL_g11, mL_p11, mL_g12, mL_p12, mL_g13, mL_p13, mL_g14, mL_p14, mL_g15, mL_p15, V]
  · obtain ⟨e1, z4, V⟩ := V
    obtain ⟨g1, g2, g3, -⟩ := gV
    have hk1 := kV p1 E1 k1 rfl
    have hs1 : (eW tk_M sg (400 * r + l) E1).length = 2400 := by rw [eW_len]; exact hsg
    have L := M_termL (n := n) (f := f) (m1 := m1) (m7 := m7) (m8 := m8) (m9 := m9) (m10 := m10) (m11 := m11) (m12 := m12) (m13 := m13) (m14 := m14) (m15 := m15) (dx := dx) (cl := cl) (cs := cs) (rd := rd) (op := op) (sk := sk) (wd := wd) (sd := sd) (th := th) (fa := fa) (ws := ws) (kp := kp) (li := li) (pr := pr) (hb := hb) (fi := fi) (st := st) (im := im) (jf := jf) (jx := jx) (mk := mk) hm hN hr hlg 401 p1 p1 k1 (l + E1.length) (eW tk_M sg (400 * r + l) E1) z4 N (by omega) (by omega) g2 g2 rfl hs1 hk1 (by omega)
    rw [e1] at L
    show mOut T r l sg (fun z2 z3 z4 z6 zl sg => (pm_M n f (mL (nI T.length) m1 z2 z3 z4 (nI r) z6 m7 m8 m9 m10 m11 m12 m13 m14 m15) dx tp sg (lg.set r zl) cl cs rd op sk wd sd th fa ws kp li pr hb fi st im jf jx mk)) _ (rr_pre E1 (mTf T 401 p1 k1))
    have L2 := mOuL_pre (l := l) (E := E1) (by rw [e1]; exact L)
    have hz : ∀ o, ss_lp (mm_M_term_b9 N (some 118)) N (pm_M n f (mL (nI T.length) m1 (nI p1) (nI 0) z4 (nI r) (nI k1) m7 m8 m9 m10 m11 m12 m13 m14 m15) dx tp (eW tk_M sg (400 * r + l) E1) (lg.set r (nI (l + 1))) cl cs rd op sk wd sd th fa ws kp li pr hb fi st im jf jx mk) = some o → mm_M_term N (some 118) (pm_M n f (mL (nI T.length) m1 (nI p0) (nI 0) m4 (nI r) (nI k) m7 m8 m9 m10 m11 m12 m13 m14 m15) dx tp sg (lg.set r (nI l)) cl cs rd op sk wd sd th fa ws kp li pr hb fi st im jf jx mk) = (match o with
      | .inl h => some (nI 1, h)
      | .inr h => some (nI 0, h)) := fun o ho => by
      unfold mm_M_term
      simp only [pb_l2, pb_ll, nI_add, pb_mul, if_true, if_false, pb_bs, pb_b2n, pb_bz0, pb_bz1, pb_10, pb_01, pn_is, pn_g0, pn_g1, pn_g2, pn_g3, pn_g4, pn_g5, pn_g6, pn_g9, mL_g0, mL_p0, mL_g1, mL_p1, mL_g2, mL_p2, mL_g3, mL_p3, mL_g4, mL_p4, mL_g5, mL_p5, mL_g6, mL_p6, mL_g7, mL_p7, mL_g8, mL_p8, mL_g9, mL_p9, mL_g10, mL_p10, mL_g11, mL_p11, mL_g12, mL_p12, mL_g13, mL_p13, mL_g14, mL_p14, mL_g15, mL_p15, V, ho]
      rfl
    generalize rr_pre E1 (mTf T 401 p1 k1) = q at L2 ⊢
    rcases q with F | ⟨p2, E2, k2⟩
    · obtain ⟨z2, z4', z6, zl, sg', s1, s2⟩ := L2
      exact ⟨z2, z4', z6, zl, sg', s1, hz _ s2⟩
    · obtain ⟨p3, z4', a1, a2, a3⟩ := L2
      exact ⟨p3, z4', a1, a2, hz _ a3⟩
theorem M_sumL (hm : mz tp T) (hN : 500 < N) (hr : r < 6) (hlg : lg.length = 7) : ∀ g9 p p0 k l sg m4 Q, T.length - p < g9 → g9 < Q → p ≤ T.length → p0 ≤ T.length → blk T p0 = blk T p → sg.length = 2400 → k ≤ 60 → l ≤ p → mOuL T r l sg (fun z2 z3 z4 z6 zl sg => (pm_M n f (mL (nI T.length) m1 z2 z3 z4 (nI r) z6 m7 m8 m9 m10 m11 m12 m13 m14 m15) dx tp sg (lg.set r zl) cl cs rd op sk wd sd th fa ws kp li pr hb fi st im jf jx mk)) (ss_lp (mm_M_sum_b9 N (some 118)) Q (pm_M n f (mL (nI T.length) m1 (nI p0) (nI 0) m4 (nI r) (nI k) m7 m8 m9 m10 m11 m12 m13 m14 m15) dx tp sg (lg.set r (nI l)) cl cs rd op sk wd sd th fa ws kp li pr hb fi st im jf jx mk)) (mSf T g9 p k) := by
  have hT := hm.1
  intro g9
  induction g9 with
  | zero => intro p p0 k l sg m4 Q h1; omega
  | succ g9 ih =>
    intro p p0 k l sg m4 Q h1 hQ hp h0 hb0 hsg hk hl
    obtain ⟨Q, rfl⟩ : ∃ Q', Q = Q' + 1 := ⟨Q - 1, by omega⟩
    have hq := blk_ub hp
    have hbl := blk_le (T := T) (p := p)
    show mOuL T r l sg (fun z2 z3 z4 z6 zl sg => (pm_M n f (mL (nI T.length) m1 z2 z3 z4 (nI r) z6 m7 m8 m9 m10 m11 m12 m13 m14 m15) dx tp sg (lg.set r zl) cl cs rd op sk wd sd th fa ws kp li pr hb fi st im jf jx mk)) _ (if opS T (blk T p) = 0 then .inr (p, [], k) else rr_bnd _ _)
    by_cases ho : opS T (blk T p) = 0
    · rw [if_pos ho]
      refine ⟨blk T p, m4, hq, blk_id, ?_⟩
      rw [ss_lp, M_se hm hp h0 hb0 hN ho]
      rfl
    · rw [if_neg ho]
      have hbt := (opS_cs (T := T) (q := blk T p)).resolve_left ho
      have V := M_term (p := blk T p + 1) (p0 := blk T p + 1) (l := l) (m4 := m4) (n := n) (f := f) (m1 := m1) (m7 := m7) (m8 := m8) (m9 := m9) (m10 := m10) (m11 := m11) (m12 := m12) (m13 := m13) (m14 := m14) (m15 := m15) (dx := dx) (cl := cl) (cs := cs) (rd := rd) (op := op) (sk := sk) (wd := wd) (sd := sd) (th := th) (fa := fa) (ws := ws) (kp := kp) (li := li) (pr := pr) (hb := hb) (fi := fi) (st := st) (im := im) (jf := jf) (jx := jx) (mk := mk) hm hN hr hlg hbt.1 hbt.1 rfl hsg hk (by omega)
      have gV := gR_T (c := k) hT (p := blk T p + 1) hbt.1
      have kV := kR_Tm (T := T) (p := blk T p + 1) (c := k)
      rw [ss_lp, M_sb hm hp h0 hb0 hN ho]
      generalize mTm T (blk T p + 1) k = q at V gV kV ⊢
      rcases q with F | ⟨p1, E1, k1⟩
      · obtain ⟨z2, z4, z6, zl, sg2, s1, V⟩ := V
        refine ⟨z2, z4, z6, zl, sg2, s1, ?_⟩
        unfold mm_M_sum_j46
        simp only [pb_l2, pb_ll, nI_add, pb_mul, if_true, if_false, pb_bs, pb_b2n, pb_bz0, pb_bz1, pb_10, pb_01, pn_is, pn_g0, pn_g1, pn_g2, pn_g3, pn_g4, pn_g5, pn_g6, pn_g9, mL_g0, mL_p0, mL_g1, mL_p1, mL_g2, mL_p2, mL_g3, mL_p3, mL_g4, mL_p4, mL_g5, mL_p5, mL_g6, mL_p6, mL_g7, mL_p7, mL_g8, mL_p8, mL_g9, mL_p9, mL_g10, mL_p10, mL_g11, mL_p11, mL_g12, mL_p12, mL_g13, mL_p13, mL_g14, mL_p14, mL_g15, mL_p15, V]
      · obtain ⟨p2, z4, q1, q2, V⟩ := V
        obtain ⟨g1, g2, g3, -⟩ := gV
        have hk1 := kV p1 E1 k1 rfl
        refine mOuL_pre ?_
        refine mOuL_pre ?_
        have hs1 : (eW tk_M sg (400 * r + l) E1).length = 2400 := by rw [eW_len]; exact hsg
        have b1 : mm_M_sum_j46 N (some 118) (nI (opS T (blk T p))) (pm_M n f (mL (nI T.length) m1 (nI (blk T p)) (nI 0) m4 (nI r) (nI k) m7 m8 m9 m10 m11 m12 m13 m14 m15) dx tp sg (lg.set r (nI l)) cl cs rd op sk wd sd th fa ws kp li pr hb fi st im jf jx mk) = some (.inl (pm_M n f (mL (nI T.length) m1 (nI p2) (nI 0) z4 (nI r) (nI k1) m7 m8 m9 m10 m11 m12 m13 m14 m15) dx tp (eW tk_M (eW tk_M sg (400 * r + l) E1) (400 * r + (l + E1.length)) [(opS T (blk T p), 0)]) (lg.set r (nI (l + E1.length + 1))) cl cs rd op sk wd sd th fa ws kp li pr hb fi st im jf jx mk)) := by
          unfold mm_M_sum_j46
          simp only [pb_l2, pb_ll, nI_add, pb_mul, if_true, if_false, pb_bs, pb_b2n, pb_bz0, pb_bz1, pb_10, pb_01, pn_is, pn_g0, pn_g1, pn_g2, pn_g3, pn_g4, pn_g5, pn_g6, pn_g9, mL_g0, mL_p0, mL_g1, mL_p1, mL_g2, mL_p2, mL_g3, mL_p3, mL_g4, mL_p4, mL_g5, mL_p5, mL_g6, mL_p6, mL_g7, mL_p7, mL_g8, mL_p8, mL_g9, mL_p9, mL_g10, mL_p10, mL_g11, mL_p11, mL_g12, mL_p12, mL_g13, mL_p13, mL_g14, mL_p14, mL_g15, mL_p15, V, M_puts hr hlg hs1 (show l + E1.length < 400 by omega)]
          rfl
        rw [b1]
        exact ih p1 p2 k1 (l + E1.length + 1) _ z4 Q (by omega) (by omega) g2 q1 q2 (by rw [eW_len]; exact hs1) hk1 (by omega)
theorem M_sum (hm : mz tp T) (hN : 500 < N) (hr : r < 6) (hlg : lg.length = 7) (hp : p ≤ T.length) (h0 : p0 ≤ T.length) (hb0 : blk T p0 = blk T p) (hsg : sg.length = 2400) (hk : k ≤ 60) (hl : l ≤ p) : mOut T r l sg (fun z2 z3 z4 z6 zl sg => (pm_M n f (mL (nI T.length) m1 z2 z3 z4 (nI r) z6 m7 m8 m9 m10 m11 m12 m13 m14 m15) dx tp sg (lg.set r zl) cl cs rd op sk wd sd th fa ws kp li pr hb fi st im jf jx mk)) (mm_M_sum N (some 118) (pm_M n f (mL (nI T.length) m1 (nI p0) (nI 0) m4 (nI r) (nI k) m7 m8 m9 m10 m11 m12 m13 m14 m15) dx tp sg (lg.set r (nI l)) cl cs rd op sk wd sd th fa ws kp li pr hb fi st im jf jx mk)) (mSm T p k) := by
  have hT := hm.1
  have V := M_term (m4 := m4) (l := l) (n := n) (f := f) (m1 := m1) (m7 := m7) (m8 := m8) (m9 := m9) (m10 := m10) (m11 := m11) (m12 := m12) (m13 := m13) (m14 := m14) (m15 := m15) (dx := dx) (cl := cl) (cs := cs) (rd := rd) (op := op) (sk := sk) (wd := wd) (sd := sd) (th := th) (fa := fa) (ws := ws) (kp := kp) (li := li) (pr := pr) (hb := hb) (fi := fi) (st := st) (im := im) (jf := jf) (jx := jx) (mk := mk) hm hN hr hlg hp h0 hb0 hsg hk hl
  have gV := gR_T (c := k) hT hp
  have kV := kR_Tm (T := T) (p := p) (c := k)
  unfold mSm
  generalize mTm T p k = q at V gV kV ⊢
  rcases q with F | ⟨p1, E1, k1⟩
  · obtain ⟨z2, z4, z6, zl, sg2, s1, V⟩ := V
    refine ⟨z2, z4, z6, zl, sg2, s1, ?_⟩
    unfold mm_M_sum
    simp only [pb_l2, pb_ll, nI_add, pb_mul, if_true, if_false, pb_bs, pb_b2n, pb_bz0, pb_bz1, pb_10, pb_01, pn_is, pn_g0, pn_g1, pn_g2, pn_g3, pn_g4, pn_g5, pn_g6, pn_g9, mL_g0, mL_p0, mL_g1, mL_p1, mL_g2, mL_p2, mL_g3, mL_p3, mL_g4, mL_p4, mL_g5, mL_p5, mL_g6, mL_p6, mL_g7, mL_p7, mL_g8, mL_p8, mL_g9, mL_p9, mL_g10, mL_p10, mL_g11, mL_p11, mL_g12, mL_p12, mL_g13, mL_p13, mL_g14, mL_p14, mL_g15, mL_p15, V]
  · obtain ⟨p2, z4, q1, q2, V⟩ := V
    obtain ⟨g1, g2, g3, -⟩ := gV
    have hk1 := kV p1 E1 k1 rfl
    have hs1 : (eW tk_M sg (400 * r + l) E1).length = 2400 := by rw [eW_len]; exact hsg
    have L := M_sumL (n := n) (f := f) (m1 := m1) (m7 := m7) (m8 := m8) (m9 := m9) (m10 := m10) (m11 := m11) (m12 := m12) (m13 := m13) (m14 := m14) (m15 := m15) (dx := dx) (cl := cl) (cs := cs) (rd := rd) (op := op) (sk := sk) (wd := wd) (sd := sd) (th := th) (fa := fa) (ws := ws) (kp := kp) (li := li) (pr := pr) (hb := hb) (fi := fi) (st := st) (im := im) (jf := jf) (jx := jx) (mk := mk) hm hN hr hlg 401 p1 p2 k1 (l + E1.length) (eW tk_M sg (400 * r + l) E1) z4 N (by omega) (by omega) g2 q1 q2 hs1 hk1 (by omega)
    show mOut T r l sg (fun z2 z3 z4 z6 zl sg => (pm_M n f (mL (nI T.length) m1 z2 z3 z4 (nI r) z6 m7 m8 m9 m10 m11 m12 m13 m14 m15) dx tp sg (lg.set r zl) cl cs rd op sk wd sd th fa ws kp li pr hb fi st im jf jx mk)) _ (rr_pre E1 (mSf T 401 p1 k1))
    have L2 := mOuL_pre (l := l) (E := E1) L
    have hz : ∀ o, ss_lp (mm_M_sum_b9 N (some 118)) N (pm_M n f (mL (nI T.length) m1 (nI p2) (nI 0) z4 (nI r) (nI k1) m7 m8 m9 m10 m11 m12 m13 m14 m15) dx tp (eW tk_M sg (400 * r + l) E1) (lg.set r (nI (l + E1.length))) cl cs rd op sk wd sd th fa ws kp li pr hb fi st im jf jx mk) = some o → mm_M_sum N (some 118) (pm_M n f (mL (nI T.length) m1 (nI p0) (nI 0) m4 (nI r) (nI k) m7 m8 m9 m10 m11 m12 m13 m14 m15) dx tp sg (lg.set r (nI l)) cl cs rd op sk wd sd th fa ws kp li pr hb fi st im jf jx mk) = (match o with
      | .inl h => some (nI 1, h)
      | .inr h => some (nI 0, h)) := fun o ho => by
      unfold mm_M_sum
      simp only [pb_l2, pb_ll, nI_add, pb_mul, if_true, if_false, pb_bs, pb_b2n, pb_bz0, pb_bz1, pb_10, pb_01, pn_is, pn_g0, pn_g1, pn_g2, pn_g3, pn_g4, pn_g5, pn_g6, pn_g9, mL_g0, mL_p0, mL_g1, mL_p1, mL_g2, mL_p2, mL_g3, mL_p3, mL_g4, mL_p4, mL_g5, mL_p5, mL_g6, mL_p6, mL_g7, mL_p7, mL_g8, mL_p8, mL_g9, mL_p9, mL_g10, mL_p10, mL_g11, mL_p11, mL_g12, mL_p12, mL_g13, mL_p13, mL_g14, mL_p14, mL_g15, mL_p15, V, ho]
      rfl
    generalize rr_pre E1 (mSf T 401 p1 k1) = q at L2 ⊢
    rcases q with F | ⟨p2, E2, k2⟩
    · obtain ⟨z2, z4', z6, zl, sg', s1, s2⟩ := L2
      exact ⟨z2, z4', z6, zl, sg', s1, hz _ s2⟩
    · obtain ⟨p3, z4', a1, a2, a3⟩ := L2
      exact ⟨p3, z4', a1, a2, hz _ a3⟩
end MR
