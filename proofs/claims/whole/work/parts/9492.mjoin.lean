/-! ===== rule: settling, joining, what stands before a fact ===== -/
section MU
variable {n : Nat} {f : Nat → ss_Cl} {m0 m1 m2 m3 m4 m5 m6 m7 m8 m9 m10 m11 m12 m13 m14 m15 : Int32} {dx : Int64} {tp : List Int32} {sg : List Int32} {lg : List Int32} {cl : List Int32} {cs : List Int32} {rd : List Int32} {op : List Int32} {sk : List Int64} {wd : List Int64} {sd : List Int32} {th : List Int32} {fa : List Int32} {ws : List Int32} {kp : List Int32} {li : List Int32} {pr : List Int32} {hb : List Int32} {fi : List Int32} {st : List Int32} {im : List Int32} {jf : List Int32} {jx : List Int32} {mk : List Int32} {N : Nat}
variable {T : List Nat} {r p p0 q k l d x a Q Q1 : Nat} {S B : List Nat} {o b : Bool}
theorem st_st (hs : stk op S) (ht : top3 S a) (ha : a < 5) : mm_M_settles_b0 N (some 118) (nI a) (pm_M n f (mL m0 m1 m2 m3 m4 m5 m6 m7 m8 (nI S.length) m10 m11 m12 m13 m14 m15) dx tp sg lg cl cs rd op sk wd sd th fa ws kp li pr hb fi st im jf jx mk) = some (.inr (pm_M n f (mL m0 m1 m2 m3 m4 m5 m6 m7 m8 (nI S.length) m10 m11 m12 m13 m14 m15) dx tp sg lg cl cs rd op sk wd sd th fa ws kp li pr hb fi st im jf jx mk)) := by
  rcases ht with e | ⟨L, c, e, h1, h2⟩
  · rw [e]
    exact st_stop0
  · subst e
    have hL : (L ++ [c]).length = L.length + 1 := by simp
    rw [hL]
    exact st_stop hs h1 h2 ha
theorem st_one (hN : 500 < N) (hs : stk op (B ++ [x])) (ht : top3 B a) (hx : x < 1000) (hx11 : x ≠ 11) (ha : a ≤ sth x) (ha5 : a < 5) (hr : r < 6) (hlg : lg.length = 7) (hsg : sg.length = 2400) (hl : l < 400) : mm_M_settles N (some 118) (nI a) (pm_M n f (mL m0 m1 m2 m3 m4 (nI r) m6 m7 m8 (nI (B.length + 1)) m10 m11 m12 m13 m14 m15) dx tp sg (lg.set r (nI l)) cl cs rd op sk wd sd th fa ws kp li pr hb fi st im jf jx mk) = some (pm_M n f (mL m0 m1 m2 m3 m4 (nI r) m6 m7 m8 (nI B.length) m10 m11 m12 m13 m14 m15) dx tp (sg.set (400 * r + l) (tk_M (x, 0))) (lg.set r (nI (l + 1))) cl cs rd op sk wd sd th fa ws kp li pr hb fi st im jf jx mk) := by
  rw [M_set _ pn_is]
  obtain ⟨Q, hQ⟩ : ∃ Q, N = Q + 1 + 1 := ⟨N - 2, by omega⟩
  have h := pb_step (L := Q + 1) (st_pop (N := N) (n := n) (f := f) (m0 := m0) (m1 := m1) (m2 := m2) (m3 := m3) (m4 := m4) (m6 := m6) (m7 := m7) (m8 := m8) (m10 := m10) (m11 := m11) (m12 := m12) (m13 := m13) (m14 := m14) (m15 := m15) (dx := dx) (tp := tp) (cl := cl) (cs := cs) (rd := rd) (sk := sk) (wd := wd) (sd := sd) (th := th) (fa := fa) (ws := ws) (kp := kp) (li := li) (pr := pr) (hb := hb) (fi := fi) (st := st) (im := im) (jf := jf) (jx := jx) (mk := mk) hs hx hx11 ha hr hlg hsg hl) (pb_stop (L := Q) (st_st (N := N) (stk_pop hs).1 ht ha5))
  rw [← hQ] at h
  exact h
theorem st_two (hN : 500 < N) (hs : stk op ((B ++ [13]) ++ [12])) (ht : top3 B 1) (hr : r < 6) (hlg : lg.length = 7) (hsg : sg.length = 2400) (hl : l + 1 < 400) : mm_M_settles N (some 118) (nI 1) (pm_M n f (mL m0 m1 m2 m3 m4 (nI r) m6 m7 m8 (nI (B.length + 1 + 1)) m10 m11 m12 m13 m14 m15) dx tp sg (lg.set r (nI l)) cl cs rd op sk wd sd th fa ws kp li pr hb fi st im jf jx mk) = some (pm_M n f (mL m0 m1 m2 m3 m4 (nI r) m6 m7 m8 (nI B.length) m10 m11 m12 m13 m14 m15) dx tp ((sg.set (400 * r + l) (tk_M (12, 0))).set (400 * r + (l + 1)) (tk_M (13, 0))) (lg.set r (nI (l + 1 + 1))) cl cs rd op sk wd sd th fa ws kp li pr hb fi st im jf jx mk) := by
  rw [M_set _ pn_is]
  have hL : (B ++ [13]).length = B.length + 1 := by simp
  obtain ⟨Q, hQ⟩ : ∃ Q, N = Q + 1 + 1 + 1 := ⟨N - 3, by omega⟩
  have p1 := st_pop (N := N) (a := 1) (n := n) (f := f) (m0 := m0) (m1 := m1) (m2 := m2) (m3 := m3) (m4 := m4) (m6 := m6) (m7 := m7) (m8 := m8) (m10 := m10) (m11 := m11) (m12 := m12) (m13 := m13) (m14 := m14) (m15 := m15) (dx := dx) (tp := tp) (cl := cl) (cs := cs) (rd := rd) (sk := sk) (wd := wd) (sd := sd) (th := th) (fa := fa) (ws := ws) (kp := kp) (li := li) (pr := pr) (hb := hb) (fi := fi) (st := st) (im := im) (jf := jf) (jx := jx) (mk := mk) hs (by omega) (by omega) (by decide) hr hlg hsg (show l < 400 by omega)
  rw [hL] at p1
  have p2 := st_pop (N := N) (a := 1) (sg := sg.set (400 * r + l) (tk_M (12, 0))) (n := n) (f := f) (m0 := m0) (m1 := m1) (m2 := m2) (m3 := m3) (m4 := m4) (m6 := m6) (m7 := m7) (m8 := m8) (m10 := m10) (m11 := m11) (m12 := m12) (m13 := m13) (m14 := m14) (m15 := m15) (dx := dx) (tp := tp) (cl := cl) (cs := cs) (rd := rd) (sk := sk) (wd := wd) (sd := sd) (th := th) (fa := fa) (ws := ws) (kp := kp) (li := li) (pr := pr) (hb := hb) (fi := fi) (st := st) (im := im) (jf := jf) (jx := jx) (mk := mk) (stk_pop hs).1 (by omega) (by omega) (by decide) hr hlg (by rw [List.length_set]; exact hsg) hl
  have h := pb_step (L := Q + 1 + 1) p1 (pb_step (L := Q + 1) p2 (pb_stop (L := Q) (st_st (N := N) (a := 1) (stk_pop (stk_pop hs).1).1 ht (by omega))))
  rw [← hQ] at h
  exact h
/-- settled down to AND -/
theorem M_s2 (hN : 500 < N) (hs : stk op (B ++ sb b 12)) (ht : top3 B 2) (hr : r < 6) (hlg : lg.length = 7) (hsg : sg.length = 2400) (hl : l + nb b ≤ 400) : mm_M_settles N (some 118) (nI 2) (pm_M n f (mL m0 m1 m2 m3 m4 (nI r) m6 m7 m8 (nI (B.length + nb b)) m10 m11 m12 m13 m14 m15) dx tp sg (lg.set r (nI l)) cl cs rd op sk wd sd th fa ws kp li pr hb fi st im jf jx mk) = some (pm_M n f (mL m0 m1 m2 m3 m4 (nI r) m6 m7 m8 (nI B.length) m10 m11 m12 m13 m14 m15) dx tp (eW tk_M sg (400 * r + l) (ob b 12)) (lg.set r (nI (l + nb b))) cl cs rd op sk wd sd th fa ws kp li pr hb fi st im jf jx mk) := by
  cases b with
  | false =>
    have hs : stk op (B ++ []) := hs
    rw [List.append_nil] at hs
    exact st_no hN hs ht (by omega)
  | true => exact st_one hN hs ht (by omega) (by omega) (by decide) (by omega) hr hlg hsg hl
/-- settled down to OR -/
theorem M_s1 (hN : 500 < N) (hs : stk op (B ++ (sb o 13 ++ sb b 12))) (ht : top3 B 1) (hr : r < 6) (hlg : lg.length = 7) (hsg : sg.length = 2400) (hl : l + nb b + nb o ≤ 400) : mm_M_settles N (some 118) (nI 1) (pm_M n f (mL m0 m1 m2 m3 m4 (nI r) m6 m7 m8 (nI (B.length + nb o + nb b)) m10 m11 m12 m13 m14 m15) dx tp sg (lg.set r (nI l)) cl cs rd op sk wd sd th fa ws kp li pr hb fi st im jf jx mk) = some (pm_M n f (mL m0 m1 m2 m3 m4 (nI r) m6 m7 m8 (nI B.length) m10 m11 m12 m13 m14 m15) dx tp (eW tk_M sg (400 * r + l) (ob b 12 ++ ob o 13)) (lg.set r (nI (l + nb b + nb o))) cl cs rd op sk wd sd th fa ws kp li pr hb fi st im jf jx mk) := by
  cases o with
  | false =>
    cases b with
    | false =>
      have hs : stk op (B ++ []) := hs
      rw [List.append_nil] at hs
      exact st_no hN hs ht (by omega)
    | true => exact st_one hN hs ht (by omega) (by omega) (by decide) (by omega) hr hlg hsg hl
  | true =>
    cases b with
    | false => exact st_one hN hs ht (by omega) (by omega) (by decide) (by omega) hr hlg hsg hl
    | true =>
      have hs : stk op (B ++ ([13] ++ [12])) := hs
      rw [← List.append_assoc] at hs
      exact st_two hN hs ht hr hlg hsg hl
theorem tC_and (hm : mz tp T) (hq : q ≤ T.length) (hbq : blk T q = q) (hN : 500 < N) (hA : wis T q rw_and) (hs : stk op (B ++ sb b 12)) (ht : top3 B 2) (hr : r < 6) (hlg : lg.length = 7) (hsg : sg.length = 2400) (hl : l + nb b ≤ 400) (hB : B.length < 400) : tC N (pm_M n f (mL (nI T.length) m1 (nI q) m3 m4 (nI r) m6 m7 m8 (nI (B.length + nb b)) m10 m11 m12 m13 m14 m15) dx tp sg (lg.set r (nI l)) cl cs rd op sk wd sd th fa ws kp li pr hb fi st im jf jx mk) = some (.inl (nI 1, (pm_M n f (mL (nI T.length) m1 (nI (eL T q)) m3 m4 (nI r) m6 m7 m8 (nI (B.length + 1)) m10 m11 m12 m13 m14 m15) dx tp (eW tk_M sg (400 * r + l) (ob b 12)) (lg.set r (nI (l + nb b))) cl cs rd (op.set B.length (nI 12)) sk wd sd th fa ws kp li pr hb fi st im jf jx mk))) := by
  have hop := hs.1
  have s12 : mm_M_strength N (nI 12) = some (nI 2) := M_sth (x := 12) (by omega)
  unfold tC mm_M_tested_j49 mm_M_tested_j54 mm_M_tested_j76
  simp (disch := ((try simp only [List.length_set, sl_len]); omega)) only [pb_l2, pb_ll, nI_add, pb_mul, if_true, if_false, pb_bs, pb_b2n, pb_bz0, pb_bz1, pb_10, pb_01, pn_is, pn_g0, pn_g1, pn_g2, pn_g3, pn_g4, pn_g5, pn_g6, pn_g9, mL_g0, mL_p0, mL_g1, mL_p1, mL_g2, mL_p2, mL_g3, mL_p3, mL_g4, mL_p4, mL_g5, mL_p5, mL_g6, mL_p6, mL_g7, mL_p7, mL_g8, mL_p8, mL_g9, mL_p9, mL_g10, mL_p10, mL_g11, mL_p11, mL_g12, mL_p12, mL_g13, mL_p13, mL_g14, mL_p14, mL_g15, mL_p15, M_w1 hm hq hbq hN rw_and_wl rw_and_pk hA, M_pass hm hq hN, s12, M_s2 hN hs ht hr hlg hsg hl, pn_u6]
theorem tC_or (hm : mz tp T) (hq : q ≤ T.length) (hbq : blk T q = q) (hN : 500 < N) (hA : ¬ wis T q rw_and) (hO : wis T q rw_or) (hs : stk op (B ++ (sb o 13 ++ sb b 12))) (ht : top3 B 1) (hr : r < 6) (hlg : lg.length = 7) (hsg : sg.length = 2400) (hl : l + nb b + nb o ≤ 400) (hB : B.length < 400) : tC N (pm_M n f (mL (nI T.length) m1 (nI q) m3 m4 (nI r) m6 m7 m8 (nI (B.length + nb o + nb b)) m10 m11 m12 m13 m14 m15) dx tp sg (lg.set r (nI l)) cl cs rd op sk wd sd th fa ws kp li pr hb fi st im jf jx mk) = some (.inl (nI 1, (pm_M n f (mL (nI T.length) m1 (nI (eL T q)) m3 m4 (nI r) m6 m7 m8 (nI (B.length + 1)) m10 m11 m12 m13 m14 m15) dx tp (eW tk_M sg (400 * r + l) (ob b 12 ++ ob o 13)) (lg.set r (nI (l + nb b + nb o))) cl cs rd (op.set B.length (nI 13)) sk wd sd th fa ws kp li pr hb fi st im jf jx mk))) := by
  have hop := hs.1
  have s13 : mm_M_strength N (nI 13) = some (nI 1) := M_sth (x := 13) (by omega)
  unfold tC mm_M_tested_j49 mm_M_tested_j54 mm_M_tested_j76
  simp (disch := ((try simp only [List.length_set, sl_len]); omega)) only [pb_l2, pb_ll, nI_add, pb_mul, if_true, if_false, pb_bs, pb_b2n, pb_bz0, pb_bz1, pb_10, pb_01, pn_is, pn_g0, pn_g1, pn_g2, pn_g3, pn_g4, pn_g5, pn_g6, pn_g9, mL_g0, mL_p0, mL_g1, mL_p1, mL_g2, mL_p2, mL_g3, mL_p3, mL_g4, mL_p4, mL_g5, mL_p5, mL_g6, mL_p6, mL_g7, mL_p7, mL_g8, mL_p8, mL_g9, mL_p9, mL_g10, mL_p10, mL_g11, mL_p11, mL_g12, mL_p12, mL_g13, mL_p13, mL_g14, mL_p14, mL_g15, mL_p15, M_w0 hm hq hbq hN rw_and_wl rw_and_pk hA, M_w1 hm hq hbq hN rw_or_wl rw_or_pk hO, M_pass hm hq hN, s13, M_s1 hN hs ht hr hlg hsg hl, pn_u6]
theorem tC_no (hm : mz tp T) (hq : q ≤ T.length) (hbq : blk T q = q) (hN : 500 < N) (hA : ¬ wis T q rw_and) (hO : ¬ wis T q rw_or) : tC N (pm_M n f (mL (nI T.length) m1 (nI q) m3 m4 m5 m6 m7 m8 m9 m10 m11 m12 m13 m14 m15) dx tp sg lg cl cs rd op sk wd sd th fa ws kp li pr hb fi st im jf jx mk) = some (.inl (nI 0, (pm_M n f (mL (nI T.length) m1 (nI q) m3 m4 m5 m6 m7 m8 m9 m10 m11 m12 m13 m14 m15) dx tp sg lg cl cs rd op sk wd sd th fa ws kp li pr hb fi st im jf jx mk))) := by
  unfold tC mm_M_tested_j54
  simp only [pb_l2, pb_ll, nI_add, pb_mul, if_true, if_false, pb_bs, pb_b2n, pb_bz0, pb_bz1, pb_10, pb_01, pn_is, pn_g0, pn_g1, pn_g2, pn_g3, pn_g4, pn_g5, pn_g6, pn_g9, mL_g0, mL_p0, mL_g1, mL_p1, mL_g2, mL_p2, mL_g3, mL_p3, mL_g4, mL_p4, mL_g5, mL_p5, mL_g6, mL_p6, mL_g7, mL_p7, mL_g8, mL_p8, mL_g9, mL_p9, mL_g10, mL_p10, mL_g11, mL_p11, mL_g12, mL_p12, mL_g13, mL_p13, mL_g14, mL_p14, mL_g15, mL_p15, M_w0 hm hq hbq hN rw_and_wl rw_and_pk hA, M_w0 hm hq hbq hN rw_or_wl rw_or_pk hO]
theorem tE_0 (hQ : 0 < Q) : tE N Q (some (.inl (nI 0, (pm_M n f (mL m0 m1 m2 m3 m4 m5 m6 m7 m8 m9 m10 m11 m12 m13 m14 m15) dx tp sg lg cl cs rd op sk wd sd th fa ws kp li pr hb fi st im jf jx mk)))) = tT N (.inl (pm_M n f (mL m0 m1 m2 m3 m4 m5 m6 m7 m8 m9 m10 m11 m12 m13 m14 m15) dx tp sg lg cl cs rd op sk wd sd th fa ws kp li pr hb fi st im jf jx mk)) := by
  unfold tE
  rw [pb_bs]
  have b : mm_M_tested_b12 N (some 118) (nI 0, (pm_M n f (mL m0 m1 m2 m3 m4 m5 m6 m7 m8 m9 m10 m11 m12 m13 m14 m15) dx tp sg lg cl cs rd op sk wd sd th fa ws kp li pr hb fi st im jf jx mk)) = some (.inr (.inl (pm_M n f (mL m0 m1 m2 m3 m4 m5 m6 m7 m8 m9 m10 m11 m12 m13 m14 m15) dx tp sg lg cl cs rd op sk wd sd th fa ws kp li pr hb fi st im jf jx mk))) := rfl
  show (ss_lp _ Q _).bind _ = _
  rw [lp_out b hQ]
  rfl
theorem tE_1 (hQ : 0 < Q) : ∃ Q', Q = Q' + 1 ∧ tE N Q (some (.inl (nI 1, (pm_M n f (mL m0 m1 m2 m3 m4 m5 m6 m7 m8 m9 m10 m11 m12 m13 m14 m15) dx tp sg lg cl cs rd op sk wd sd th fa ws kp li pr hb fi st im jf jx mk)))) = FA N N Q' (pm_M n f (mL m0 m1 m2 m3 m4 m5 m6 m7 m8 m9 m10 m11 m12 m13 m14 m15) dx tp sg lg cl cs rd op sk wd sd th fa ws kp li pr hb fi st im jf jx mk) := by
  obtain ⟨Q', e⟩ : ∃ Q', Q = Q' + 1 := ⟨Q - 1, by omega⟩
  refine ⟨Q', e, ?_⟩
  rw [e]
  exact FA_lp
theorem fb_not (hm : mz tp T) (h0 : p0 ≤ T.length) (hp : p ≤ T.length) (hb0 : blk T p0 = blk T p) (hN : 500 < N) (hn : wis T (blk T p) rw_not) (hs : stk op S) (hS : S.length < 400) (hd : d < 10) : mm_M_fact_b2 N (some 118) (nI 1, (pm_M n f (mL (nI T.length) m1 (nI p0) m3 m4 m5 m6 (nI d) m8 (nI S.length) m10 m11 m12 m13 m14 m15) dx tp sg lg cl cs rd op sk wd sd th fa ws kp li pr hb fi st im jf jx mk)) = some (.inl (nI 1, (pm_M n f (mL (nI T.length) m1 (nI (eL T (blk T p))) m3 m4 m5 m6 (nI (d + 1)) m8 (nI (S.length + 1)) m10 m11 m12 m13 m14 m15) dx tp sg lg cl cs rd (op.set S.length (nI 11)) sk wd sd th fa ws kp li pr hb fi st im jf jx mk))) := by
  have hop := hs.1
  have c0 : (nI d = nI 10) = False := pb_nn (by omega) (by omega) (by omega)
  unfold mm_M_fact_b2 mm_M_fact_j72 mm_M_opens
  simp (disch := ((try simp only [List.length_set, sl_len]); omega)) only [pb_l2, pb_ll, nI_add, pb_mul, if_true, if_false, pb_bs, pb_b2n, pb_bz0, pb_bz1, pb_10, pb_01, pn_is, pn_g0, pn_g1, pn_g2, pn_g3, pn_g4, pn_g5, pn_g6, pn_g9, mL_g0, mL_p0, mL_g1, mL_p1, mL_g2, mL_p2, mL_g3, mL_p3, mL_g4, mL_p4, mL_g5, mL_p5, mL_g6, mL_p6, mL_g7, mL_p7, mL_g8, mL_p8, mL_g9, mL_p9, mL_g10, mL_p10, mL_g11, mL_p11, mL_g12, mL_p12, mL_g13, mL_p13, mL_g14, mL_p14, mL_g15, mL_p15, M_see2 hm h0 hb0 hN, M_w1 hm (blk_ub hp) blk_id hN rw_not_wl rw_not_pk hn, c0, pn_u6, M_pass hm (blk_ub hp) hN]
theorem fb_nof (hm : mz tp T) (h0 : p0 ≤ T.length) (hp : p ≤ T.length) (hb0 : blk T p0 = blk T p) (hN : 500 < N) (hn : wis T (blk T p) rw_not) : mm_M_fact_b2 N (some 118) (nI 1, (pm_M n f (mL (nI T.length) m1 (nI p0) (nI 0) m4 m5 m6 (nI 10) m8 m9 m10 m11 m12 m13 m14 m15) dx tp sg lg cl cs rd op sk wd sd th fa ws kp li pr hb fi st im jf jx mk)) = some (.inr (.inr (.inl (pm_M n f (mL (nI T.length) m1 (nI (blk T p)) (nI (rr_f T p 2)) m4 m5 m6 (nI 10) m8 m9 m10 m11 m12 m13 m14 m15) dx tp sg lg cl cs rd op sk wd sd th fa ws kp li pr hb fi st im jf jx mk)))) := by
  unfold mm_M_fact_b2 mm_M_opens
  simp only [pb_l2, pb_ll, nI_add, pb_mul, if_true, if_false, pb_bs, pb_b2n, pb_bz0, pb_bz1, pb_10, pb_01, pn_is, pn_g0, pn_g1, pn_g2, pn_g3, pn_g4, pn_g5, pn_g6, pn_g9, mL_g0, mL_p0, mL_g1, mL_p1, mL_g2, mL_p2, mL_g3, mL_p3, mL_g4, mL_p4, mL_g5, mL_p5, mL_g6, mL_p6, mL_g7, mL_p7, mL_g8, mL_p8, mL_g9, mL_p9, mL_g10, mL_p10, mL_g11, mL_p11, mL_g12, mL_p12, mL_g13, mL_p13, mL_g14, mL_p14, mL_g15, mL_p15, M_see2 hm h0 hb0 hN, M_w1 hm (blk_ub hp) blk_id hN rw_not_wl rw_not_pk hn, M_fail]
  rfl
theorem fb_br (hm : mz tp T) (h0 : p0 ≤ T.length) (hp : p ≤ T.length) (hb0 : blk T p0 = blk T p) (hN : 500 < N) (hn : ¬ wis T (blk T p) rw_not) (hx : isX T (blk T p) 91) (hs : stk op S) (hS : S.length < 400) (hd : d < 10) : mm_M_fact_b2 N (some 118) (nI 1, (pm_M n f (mL (nI T.length) m1 (nI p0) m3 m4 m5 m6 (nI d) m8 (nI S.length) m10 m11 m12 m13 m14 m15) dx tp sg lg cl cs rd op sk wd sd th fa ws kp li pr hb fi st im jf jx mk)) = some (.inl (nI 1, (pm_M n f (mL (nI T.length) m1 (nI (blk T p + 1)) m3 m4 m5 m6 (nI (d + 1)) m8 (nI (S.length + 1)) m10 m11 m12 m13 m14 m15) dx tp sg lg cl cs rd (op.set S.length (nI 91)) sk wd sd th fa ws kp li pr hb fi st im jf jx mk))) := by
  have hop := hs.1
  have s91 : se T (blk T p) = nI 91 := by rw [se_0 hx.1, hx.2]
  have c0 : (nI d = nI 10) = False := pb_nn (by omega) (by omega) (by omega)
  unfold mm_M_fact_b2 mm_M_fact_j72 mm_M_opens
  simp (disch := ((try simp only [List.length_set, sl_len]); omega)) only [pb_l2, pb_ll, nI_add, pb_mul, if_true, if_false, pb_bs, pb_b2n, pb_bz0, pb_bz1, pb_10, pb_01, pn_is, pn_g0, pn_g1, pn_g2, pn_g3, pn_g4, pn_g5, pn_g6, pn_g9, mL_g0, mL_p0, mL_g1, mL_p1, mL_g2, mL_p2, mL_g3, mL_p3, mL_g4, mL_p4, mL_g5, mL_p5, mL_g6, mL_p6, mL_g7, mL_p7, mL_g8, mL_p8, mL_g9, mL_p9, mL_g10, mL_p10, mL_g11, mL_p11, mL_g12, mL_p12, mL_g13, mL_p13, mL_g14, mL_p14, mL_g15, mL_p15, M_see2 hm h0 hb0 hN, M_w0 hm (blk_ub hp) blk_id hN rw_not_wl rw_not_pk hn, s91, c0, pn_u6]
theorem fb_brf (hm : mz tp T) (h0 : p0 ≤ T.length) (hp : p ≤ T.length) (hb0 : blk T p0 = blk T p) (hN : 500 < N) (hn : ¬ wis T (blk T p) rw_not) (hx : isX T (blk T p) 91) : mm_M_fact_b2 N (some 118) (nI 1, (pm_M n f (mL (nI T.length) m1 (nI p0) (nI 0) m4 m5 m6 (nI 10) m8 m9 m10 m11 m12 m13 m14 m15) dx tp sg lg cl cs rd op sk wd sd th fa ws kp li pr hb fi st im jf jx mk)) = some (.inr (.inr (.inr (pm_M n f (mL (nI T.length) m1 (nI (blk T p)) (nI (rr_f T p 2)) m4 m5 m6 (nI 10) m8 m9 m10 m11 m12 m13 m14 m15) dx tp sg lg cl cs rd op sk wd sd th fa ws kp li pr hb fi st im jf jx mk)))) := by
  have s91 : se T (blk T p) = nI 91 := by rw [se_0 hx.1, hx.2]
  unfold mm_M_fact_b2 mm_M_opens
  simp only [pb_l2, pb_ll, nI_add, pb_mul, if_true, if_false, pb_bs, pb_b2n, pb_bz0, pb_bz1, pb_10, pb_01, pn_is, pn_g0, pn_g1, pn_g2, pn_g3, pn_g4, pn_g5, pn_g6, pn_g9, mL_g0, mL_p0, mL_g1, mL_p1, mL_g2, mL_p2, mL_g3, mL_p3, mL_g4, mL_p4, mL_g5, mL_p5, mL_g6, mL_p6, mL_g7, mL_p7, mL_g8, mL_p8, mL_g9, mL_p9, mL_g10, mL_p10, mL_g11, mL_p11, mL_g12, mL_p12, mL_g13, mL_p13, mL_g14, mL_p14, mL_g15, mL_p15, M_see2 hm h0 hb0 hN, M_w0 hm (blk_ub hp) blk_id hN rw_not_wl rw_not_pk hn, s91, M_fail]
  rfl
theorem fb_el (hm : mz tp T) (h0 : p0 ≤ T.length) (hp : p ≤ T.length) (hb0 : blk T p0 = blk T p) (hN : 500 < N) (hn : ¬ wis T (blk T p) rw_not) (hx : ¬ isX T (blk T p) 91) : mm_M_fact_b2 N (some 118) (nI 1, (pm_M n f (mL (nI T.length) m1 (nI p0) m3 m4 m5 m6 m7 m8 m9 m10 m11 m12 m13 m14 m15) dx tp sg lg cl cs rd op sk wd sd th fa ws kp li pr hb fi st im jf jx mk)) = some (.inl (nI 0, (pm_M n f (mL (nI T.length) m1 (nI (blk T p)) m3 m4 m5 m6 m7 m8 m9 m10 m11 m12 m13 m14 m15) dx tp sg lg cl cs rd op sk wd sd th fa ws kp li pr hb fi st im jf jx mk))) := by
  have s91 := se_ne (x := 91) hm hp (by omega) hx
  unfold mm_M_fact_b2 mm_M_fact_j72
  simp only [pb_l2, pb_ll, nI_add, pb_mul, if_true, if_false, pb_bs, pb_b2n, pb_bz0, pb_bz1, pb_10, pb_01, pn_is, pn_g0, pn_g1, pn_g2, pn_g3, pn_g4, pn_g5, pn_g6, pn_g9, mL_g0, mL_p0, mL_g1, mL_p1, mL_g2, mL_p2, mL_g3, mL_p3, mL_g4, mL_p4, mL_g5, mL_p5, mL_g6, mL_p6, mL_g7, mL_p7, mL_g8, mL_p8, mL_g9, mL_p9, mL_g10, mL_p10, mL_g11, mL_p11, mL_g12, mL_p12, mL_g13, mL_p13, mL_g14, mL_p14, mL_g15, mL_p15, M_see2 hm h0 hb0 hN, M_w0 hm (blk_ub hp) blk_id hN rw_not_wl rw_not_pk hn, s91]
theorem fb_0 : mm_M_fact_b2 N (some 118) (nI 0, (pm_M n f (mL m0 m1 m2 m3 m4 m5 m6 m7 m8 m9 m10 m11 m12 m13 m14 m15) dx tp sg lg cl cs rd op sk wd sd th fa ws kp li pr hb fi st im jf jx mk)) = some (.inr (.inl (pm_M n f (mL m0 m1 m2 m3 m4 m5 m6 m7 m8 m9 m10 m11 m12 m13 m14 m15) dx tp sg lg cl cs rd op sk wd sd th fa ws kp li pr hb fi st im jf jx mk))) := rfl
end MU
