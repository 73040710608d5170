/-! ===== rule: all clauses ===== -/
def cAt (cd sx : List Int32) (l j : Nat) (x : ru_C) : Prop := ∃ b, pv sx (2 * j) = nI b ∧ pv sx (2 * j + 1) = nI (b + x.1.length) ∧ pv sx (2 * j + 2) = nI (b + x.1.length + (x2 x).length) ∧ tc_at cd b x.1 ∧ tc_at cd (b + x.1.length) (x2 x) ∧ b + x.1.length + (x2 x).length ≤ l
def mAt (cl sg : List Int32) (r l j : Nat) (x : ru_C) : Prop := ∃ b, pv cl (48 * r + 4 * j) = nI b ∧ pv cl (48 * r + 4 * j + 1) = nI (b + x.1.length) ∧ tk_at sg (400 * r + b) x.1 ∧ b + x.1.length + (x2 x).length ≤ l ∧ (x.2 = none ∧ pv cl (48 * r + 4 * j + 2) < nI 0 ∨ ∃ t, x.2 = some t ∧ pv cl (48 * r + 4 * j + 2) = nI (b + x.1.length) ∧ pv cl (48 * r + 4 * j + 3) = nI (b + x.1.length + t.length) ∧ tk_at sg (400 * r + (b + x.1.length)) t)
def RI (cd sx cl sg : List Int32) (r l : Nat) (R : List ru_C) : Prop := (cd.length = 400 ∧ sx.length = 25 ∧ cl.length = 288 ∧ sg.length = 2400) ∧ (pv sx 0 = nI 0 ∧ pv sx (2 * R.length) = nI l) ∧ ∀ j, j < R.length → ru_okc (R.getD j ([], none)) ∧ cAt cd sx l j (R.getD j ([], none)) ∧ mAt cl sg r l j (R.getD j ([], none))
theorem gd_l {E E' : List (Nat × Nat)} {j : Nat} (h : j < E.length) : (E ++ E').getD j (0, 0) = E.getD j (0, 0) := by
  rw [List.getD_eq_getElem?_getD, List.getElem?_append_left h, List.getD_eq_getElem?_getD]
theorem gd_r {E E' : List (Nat × Nat)} {j : Nat} : (E ++ E').getD (E.length + j) (0, 0) = E'.getD j (0, 0) := by
  rw [List.getD_eq_getElem?_getD, List.getElem?_append_right (by omega), List.getD_eq_getElem?_getD]
  congr 2
  omega
theorem gd_m {E : List (Nat × Nat)} {j : Nat} (h : j < E.length) : E.getD j (0, 0) ∈ E := by
  rw [List.getD_eq_getElem?_getD, List.getElem?_eq_getElem h]
  exact List.getElem_mem h
theorem tc_new {cd : List Int32} {l : Nat} {E E' : List (Nat × Nat)} (hl : l + E.length + E'.length ≤ cd.length) (h1 : ∀ t, t ∈ E → tc_ok t) (h2 : ∀ t, t ∈ E' → tc_ok t) : tc_at (eW tk_C cd l (E ++ E')) l E ∧ tc_at (eW tk_C cd l (E ++ E')) (l + E.length) E' := by
  have hlen : (E ++ E').length = E.length + E'.length := List.length_append
  refine ⟨fun j hj => ⟨?_, h1 _ (gd_m hj)⟩, fun j hj => ⟨?_, h2 _ (gd_m hj)⟩⟩
  · rw [eW_at _ _ _ _ (by rw [hlen]; omega) (by rw [hlen]; omega), gd_l hj]
  · rw [Nat.add_assoc, eW_at _ _ _ _ (by rw [hlen]; omega) (by rw [hlen]; omega), gd_r]
theorem tk_new {sg : List Int32} {l : Nat} {E E' : List (Nat × Nat)} (hl : l + E.length + E'.length ≤ sg.length) (h1 : ∀ t, t ∈ E → tc_ok t) (h2 : ∀ t, t ∈ E' → tc_ok t) : tk_at (eW tk_M sg l (E ++ E')) l E ∧ tk_at (eW tk_M sg l (E ++ E')) (l + E.length) E' := by
  have hlen : (E ++ E').length = E.length + E'.length := List.length_append
  refine ⟨fun j hj => ⟨?_, (h1 _ (gd_m hj)).1, (h1 _ (gd_m hj)).2.1⟩, fun j hj => ⟨?_, (h2 _ (gd_m hj)).1, (h2 _ (gd_m hj)).2.1⟩⟩
  · rw [eW_at _ _ _ _ (by rw [hlen]; omega) (by rw [hlen]; omega), gd_l hj]
  · rw [Nat.add_assoc, eW_at _ _ _ _ (by rw [hlen]; omega) (by rw [hlen]; omega), gd_r]
theorem tc_keep {cd : List Int32} {l b : Nat} {E X : List (Nat × Nat)} (h : tc_at cd b X) (hl : b + X.length ≤ l) : tc_at (eW tk_C cd l E) b X := fun j hj => ⟨by rw [eW_lo _ _ _ _ (by omega)]; exact (h j hj).1, (h j hj).2⟩
theorem tk_keep {sg : List Int32} {l b : Nat} {E X : List (Nat × Nat)} (h : tk_at sg b X) (hl : b + X.length ≤ l) : tk_at (eW tk_M sg l E) b X := fun j hj => ⟨by rw [eW_lo _ _ _ _ (by omega)]; exact (h j hj).1, (h j hj).2⟩
theorem sxN_o {sx : List Int32} {ci l i : Nat} {x : ru_C} (h1 : i ≠ 2 * ci + 1) (h2 : i ≠ 2 * (ci + 1)) : pv (sxN sx ci l x) i = pv sx i := by
  unfold sxN
  rw [pv_ne h2, pv_ne h1]
theorem clN_o {cl : List Int32} {b ci l i : Nat} {x : ru_C} (h : i < b + 4 * ci) : pv (clN cl b ci l x) i = pv cl i := by
  unfold clN
  split
  · rw [pv_ne (by omega), pv_ne (by omega), pv_ne (by omega), pv_ne (by omega)]
  · rw [pv_ne (by omega), pv_ne (by omega), pv_ne (by omega), pv_ne (by omega), pv_ne (by omega)]
theorem clN_len {cl : List Int32} {b ci l : Nat} {x : ru_C} : (clN cl b ci l x).length = cl.length := by
  unfold clN
  split
  · rw [List.length_set, List.length_set, List.length_set, List.length_set]
  · rw [List.length_set, List.length_set, List.length_set, List.length_set, List.length_set]
theorem gdR_l {R : List ru_C} {x : ru_C} {j : Nat} (h : j < R.length) : (R ++ [x]).getD j ([], none) = R.getD j ([], none) := by
  rw [List.getD_eq_getElem?_getD, List.getElem?_append_left h, List.getD_eq_getElem?_getD]
theorem gdR_e {R : List ru_C} {x : ru_C} : (R ++ [x]).getD R.length ([], none) = x := by
  rw [List.getD_eq_getElem?_getD]
  simp
theorem RI_ext {cd sx cl sg : List Int32} {r l : Nat} {R : List ru_C} {x : ru_C} (h : RI cd sx cl sg r l R) (hr : r < 6) (hR : R.length < 12) (hl : l + x.1.length + (x2 x).length ≤ 400) (h1 : ∀ t, t ∈ x.1 → tc_ok t) (h2 : ∀ t, t ∈ x2 x → tc_ok t) (hx : ru_okc x) : RI (eW tk_C cd l (x.1 ++ x2 x)) (sxN sx R.length l x) (clN cl (48 * r) R.length l x) (eW tk_M sg (400 * r + l) (x.1 ++ x2 x)) r (l + x.1.length + (x2 x).length) (R ++ [x]) := by
  obtain ⟨⟨a1, a2, a3, a4⟩, ⟨a5, a6⟩, a7⟩ := h
  have lsx : (sxN sx R.length l x).length = 25 := by unfold sxN; rw [List.length_set, List.length_set]; exact a2
  have hlen : (R ++ [x]).length = R.length + 1 := by simp
  have p1 : pv (sxN sx R.length l x) (2 * R.length + 1) = nI (l + x.1.length) := by
    unfold sxN
    rw [pv_ne (by omega), pv_eq (by omega)]
  have p2 : pv (sxN sx R.length l x) (2 * (R.length + 1)) = nI (l + x.1.length + (x2 x).length) := by
    unfold sxN
    rw [pv_eq (by rw [List.length_set]; omega)]
  refine ⟨⟨by rw [eW_len]; exact a1, lsx, by rw [clN_len]; exact a3, by rw [eW_len]; exact a4⟩, ⟨by rw [sxN_o (by omega) (by omega)]; exact a5, by rw [hlen]; exact p2⟩, fun j hj => ?_⟩
  rw [hlen] at hj
  by_cases hjR : j < R.length
  · rw [gdR_l hjR]
    obtain ⟨o1, ⟨b, c1, c2, c3, c4, c5, c6⟩, d, d1, d2, d3, d4, d5⟩ := a7 j hjR
    refine ⟨o1, ⟨b, by rw [sxN_o (by omega) (by omega)]; exact c1, by rw [sxN_o (by omega) (by omega)]; exact c2, by rw [sxN_o (by omega) (by omega)]; exact c3, tc_keep c4 (by omega), tc_keep c5 (by omega), by omega⟩, d, by rw [clN_o (by omega)]; exact d1, by rw [clN_o (by omega)]; exact d2, tk_keep d3 (by omega), by omega, ?_⟩
    rcases d5 with ⟨e1, e2⟩ | ⟨t, e1, e2, e3, e4⟩
    · exact Or.inl ⟨e1, by rw [clN_o (by omega)]; exact e2⟩
    · have et : x2 (R.getD j ([], none)) = t := by unfold x2; rw [e1]; rfl
      rw [et] at d4
      exact Or.inr ⟨t, e1, by rw [clN_o (by omega)]; exact e2, by rw [clN_o (by omega)]; exact e3, tk_keep e4 (by omega)⟩
  · have ej : j = R.length := by omega
    subst ej
    rw [gdR_e]
    have N1 := tc_new (cd := cd) (l := l) (E := x.1) (E' := x2 x) (by omega) h1 h2
    have N2 := tk_new (sg := sg) (l := 400 * r + l) (E := x.1) (E' := x2 x) (by omega) h1 h2
    refine ⟨hx, ⟨l, by rw [sxN_o (by omega) (by omega)]; exact a6, p1, p2, N1.1, N1.2, Nat.le_refl _⟩, l, ?_, ?_, N2.1, Nat.le_refl _, ?_⟩
    · unfold clN
      split
      · rw [pv_ne (by omega), pv_ne (by omega), pv_ne (by omega), pv_eq (by omega)]
      · rw [pv_ne (by omega), pv_ne (by omega), pv_ne (by omega), pv_ne (by omega), pv_eq (by omega)]
    · unfold clN
      split
      · rw [pv_ne (by omega), pv_ne (by omega), pv_eq (by rw [List.length_set]; omega)]
      · rw [pv_ne (by omega), pv_ne (by omega), pv_ne (by omega), pv_eq (by rw [List.length_set]; omega)]
    · obtain ⟨E1, oE⟩ := x
      cases oE with
      | none =>
        refine Or.inl ⟨rfl, ?_⟩
        show pv (((_ : List Int32).set _ _).set _ _) _ < nI 0
        rw [pv_ne (by omega), pv_eq (by rw [List.length_set, List.length_set]; omega)]
        exact pb_m1
      | some t =>
        refine Or.inr ⟨t, rfl, ?_, ?_, ?_⟩
        · show pv (((_ : List Int32).set _ _).set _ _) _ = _
          rw [pv_ne (by omega), pv_eq (by rw [List.length_set, List.length_set, List.length_set]; omega)]
        · show pv ((_ : List Int32).set _ _) _ = _
          rw [pv_eq (by rw [List.length_set, List.length_set, List.length_set, List.length_set]; omega)]
        · have := N2.2
          rw [Nat.add_assoc] at this
          exact this
def rEnd (h : ss_Hp) (T : List Nat) (r : Nat) (cl0 sg0 : List Int32) (oc : Option ss_Hp) (om : Option (Int32 × ss_Hp)) (MK : Int32 → Int32 → Int32 → Int32 → Int32 → Int32 → Int32 → Int32 → Int32 → List Int32 → List Int32 → List Int32 → ss_Hp) : Prop := (∃ p R l k cd sx cl sg op z2 z4 z6 z7 z8 z9, RI cd sx cl sg r l R ∧ R.length ≤ 12 ∧ l ≤ 400 ∧ p ≤ T.length ∧ clK r cl0 cl ∧ sgK r sg0 sg ∧ op.length = 400 ∧ oc = some (lx (rH h l R.length k cd sx) T (nI 0) p) ∧ om = some (nI 1, MK z2 (nI 0) z4 z6 z7 z8 z9 (nI l) (nI R.length) cl op sg)) ∨ ∃ F H z2 z4 z6 z7 z8 z9 zl zc cl op sg, cFs h T F H ∧ (0 < F ∧ F < 100000) ∧ clK r cl0 cl ∧ sgK r sg0 sg ∧ op.length = 400 ∧ oc = some H ∧ om = some (nI 0, MK z2 (nI F) z4 z6 z7 z8 z9 zl zc cl op sg)
theorem C_j130F {h : ss_Hp} {T : List Nat} {F ci N : Nat} {H : ss_Hp} (hH : cFs h T F H) (hF : 0 < F ∧ F < 100000) : mm_RR_readRule_j130 N (some 20) (nI ci) H = some (.inl (nI 0, nI (ci + 1), H)) := by
  obtain ⟨l, c, k, cd, sx, p, -, -, -, -, rfl⟩ := hH
  have hn : (nI F = nI 0) = False := pb_nn (by omega) (by omega) (by omega)
  unfold mm_RR_readRule_j130
  simp only [pb_l2, pb_ll, nI_add, pb_mul, if_true, if_false, pb_bs, pb_b2n, pb_bz0, pb_bz1, pb_10, pb_01, rl_is, rl_r0, rl_r1, rl_r2, rl_j0, rl_j1, rl_j2, rl_p0, rl_p1, rl_p2, T_gon hn]
theorem C_x0 {N Q : Nat} {y : Int32} {H : ss_Hp} (hQ : 0 < Q) : ss_lp (mm_RR_readRule_b26 N (some 20)) Q (nI 0, y, H) = some H := lp_out rfl hQ
theorem clK_t {r : Nat} {a b c : List Int32} (h1 : clK r a b) (h2 : clK r b c) : clK r a c := ⟨h2.1, fun i hi => by rw [h2.2 i hi, h1.2 i hi]⟩
theorem sgK_t {r : Nat} {a b c : List Int32} (h1 : sgK r a b) (h2 : sgK r b c) : sgK r a c := ⟨h2.1, fun i hi => by rw [h2.2 i hi, h1.2 i hi]⟩
section MY9
variable {n : Nat} {f : Nat → ss_Cl} {m0 m1 m2 m3 m4 m5 m6 m7 m8 m9 m10 m11 m12 m13 m14 m15 : Int32} {dx : Int64} {tp : List Int32} {sg : List Int32} {lg : List Int32} {cl : List Int32} {cs : List Int32} {rd : List Int32} {op : List Int32} {sk : List Int64} {wd : List Int64} {sd : List Int32} {th : List Int32} {fa : List Int32} {ws : List Int32} {kp : List Int32} {li : List Int32} {pr : List Int32} {hb : List Int32} {fi : List Int32} {st : List Int32} {im : List Int32} {jf : List Int32} {jx : List Int32} {mk : List Int32} {N : Nat}
variable {h : ss_Hp} {T : List Nat} {r p p0 q k l ci Q : Nat} {cd sx cl0 sg0 : List Int32} {R : List ru_C}
theorem r_step (hm : mz tp T) (hN : 500 < N) (hr : r < 6) (hlg : lg.length = 7) (hp : p ≤ T.length) (h0 : p0 ≤ T.length) (hb0 : blk T p0 = blk T p) (hsg : sg.length = 2400) (hk : k ≤ 60) (ht : tz h T) (hcs : cs.length = 6) (hop : op.length = 400) (hRI : RI cd sx cl sg r l R) (hci : R.length = ci) (h12 : ci ≤ 12) (hl : l ≤ p) (hk0 : clK r cl0 cl) (hg0 : sgK r sg0 sg) (IH : ci < 12 → ∀ p p0 k l cd sx cl sg op (R : List ru_C) m4 m7 m9, p ≤ T.length → p0 ≤ T.length → blk T p0 = blk T p → k ≤ 60 → RI cd sx cl sg r l R → R.length = ci + 1 → l ≤ p → op.length = 400 → clK r cl0 cl → sgK r sg0 sg → rEnd h T r cl0 sg0 (ss_lp (mm_RR_readRule_b26 N (some 20)) (Q + 1) (nI 1, nI (ci + 1), lx (rH h l (ci + 1) k cd sx) T (nI 0) p)) (rL N (Q + 1) (mm_M_clauseHere N (some 118) (pm_M n f (mL (nI T.length) m1 (nI p0) (nI 0) m4 (nI r) (nI k) m7 (nI (ci + 1)) m9 m10 m11 m12 m13 m14 m15) dx tp sg (lg.set r (nI l)) cl (cs.set r (nI (ci + 1))) rd op sk wd sd th fa ws kp li pr hb fi st im jf jx mk))) (fun z2 z3 z4 z6 z7 z8 z9 zl zc cl op sg => (pm_M n f (mL (nI 0) m1 z2 z3 z4 (nI r) z6 z7 z8 z9 m10 m11 m12 m13 m14 m15) dx tp sg (lg.set r zl) cl (cs.set r zc) rd op sk wd sd th fa ws kp li pr hb fi st im jf jx mk))) : rEnd h T r cl0 sg0 (ss_lp (mm_RR_readRule_b26 N (some 20)) (Q + 1 + 1) (nI 1, nI ci, lx (rH h l ci k cd sx) T (nI 0) p)) (rL N (Q + 1 + 1) (mm_M_clauseHere N (some 118) (pm_M n f (mL (nI T.length) m1 (nI p0) (nI 0) m4 (nI r) (nI k) m7 (nI ci) m9 m10 m11 m12 m13 m14 m15) dx tp sg (lg.set r (nI l)) cl (cs.set r (nI ci)) rd op sk wd sd th fa ws kp li pr hb fi st im jf jx mk))) (fun z2 z3 z4 z6 z7 z8 z9 zl zc cl op sg => (pm_M n f (mL (nI 0) m1 z2 z3 z4 (nI r) z6 z7 z8 z9 m10 m11 m12 m13 m14 m15) dx tp sg (lg.set r zl) cl (cs.set r zc) rd op sk wd sd th fa ws kp li pr hb fi st im jf jx mk)) := by
  have hT := hm.1
  obtain ⟨⟨i1, i2, i3, i4⟩, ⟨i5, i6⟩, -⟩ := id hRI
  have hq := blk_ub hp
  have flt : ∀ (F : Nat) (H : ss_Hp) z2 z4 z6 z7 z8 z9 zl cl' op' sg', cFs h T F H → (0 < F ∧ F < 100000) → clK r cl0 cl' → sgK r sg0 sg' → op'.length = 400 → mm_RR_readRule_b26 N (some 20) (nI 1, nI ci, lx (rH h l ci k cd sx) T (nI 0) p) = mm_RR_readRule_j130 N (some 20) (nI ci) H → mm_M_clauseHere N (some 118) (pm_M n f (mL (nI T.length) m1 (nI p0) (nI 0) m4 (nI r) (nI k) m7 (nI ci) m9 m10 m11 m12 m13 m14 m15) dx tp sg (lg.set r (nI l)) cl (cs.set r (nI ci)) rd op sk wd sd th fa ws kp li pr hb fi st im jf jx mk) = some (nI 0, (pm_M n f (mL (nI T.length) m1 z2 (nI F) z4 (nI r) z6 z7 z8 z9 m10 m11 m12 m13 m14 m15) dx tp sg' (lg.set r (zl)) cl' (cs.set r (nI ci)) rd op' sk wd sd th fa ws kp li pr hb fi st im jf jx mk)) → rEnd h T r cl0 sg0 (ss_lp (mm_RR_readRule_b26 N (some 20)) (Q + 1 + 1) (nI 1, nI ci, lx (rH h l ci k cd sx) T (nI 0) p)) (rL N (Q + 1 + 1) (mm_M_clauseHere N (some 118) (pm_M n f (mL (nI T.length) m1 (nI p0) (nI 0) m4 (nI r) (nI k) m7 (nI ci) m9 m10 m11 m12 m13 m14 m15) dx tp sg (lg.set r (nI l)) cl (cs.set r (nI ci)) rd op sk wd sd th fa ws kp li pr hb fi st im jf jx mk))) (fun z2 z3 z4 z6 z7 z8 z9 zl zc cl op sg => (pm_M n f (mL (nI 0) m1 z2 z3 z4 (nI r) z6 z7 z8 z9 m10 m11 m12 m13 m14 m15) dx tp sg (lg.set r zl) cl (cs.set r zc) rd op sk wd sd th fa ws kp li pr hb fi st im jf jx mk)) := by
    intro F H z2 z4 z6 z7 z8 z9 zl cl' op' sg' f1 f2 f3 f4 f5 f6 f7
    refine Or.inr ⟨F, H, z2, z4, z6, z7, z8, z9, zl, nI ci, cl', op', sg', f1, f2, f3, f4, f5, ?_, ?_⟩
    · rw [ss_lp, f6, C_j130F f1 f2]
      exact C_x0 (by omega)
    · have hn : (nI F = nI 0) = False := pb_nn (by omega) (by omega) (by omega)
      rw [f7]
      unfold rL
      rw [pb_b2n, ss_lp, b35_0]
      exact rT_0 hn
  by_cases hs : wis T (blk T p) rw_sweep
  · rcases Nat.lt_or_ge ci 12 with c12 | c12
    · have C := C_clause (l := l) (ci := ci) (k := k) (cd := cd) (sx := sx) (N := N) ht hN hp c12 hs hl hk i1 i2 i5
      have M := M_clause (l := l) (ci := ci) (k := k) (p := p) (p0 := p0) (m4 := m4) (sg := sg) (n := n) (f := f) (m1 := m1) (m7 := m7) (m9 := m9) (m10 := m10) (m11 := m11) (m12 := m12) (m13 := m13) (m14 := m14) (m15 := m15) (dx := dx) (lg := lg) (cl := cl) (cs := cs) (rd := rd) (op := op) (sk := sk) (wd := wd) (sd := sd) (th := th) (fa := fa) (ws := ws) (kp := kp) (li := li) (pr := pr) (hb := hb) (fi := fi) (st := st) (im := im) (jf := jf) (jx := jx) (mk := mk) hm hN hr hlg hp h0 hb0 hsg hk hs c12 hl hcs i3 hop
      have G := rK_good (k := k) hT hp hs hk
      generalize rK T p k = rr at C M G ⊢
      rcases rr with F | ⟨p', x, k'⟩
      · obtain ⟨H, C1, C2⟩ := C
        obtain ⟨z2, z4, z6, z7, z8, z9, zl, cl', op', sg', s1, s2, s3, M⟩ := M
        exact flt F H z2 z4 z6 z7 z8 z9 zl cl' op' sg' C1 G (clK_t hk0 s1) (sgK_t hg0 s2) s3 C2 M
      · obtain ⟨p1, z4, z7, z9, op', b1, b2, b3, M⟩ := M
        obtain ⟨g1, g2, g3, g4, g5, g6, g7⟩ := G
        have hbl := blk_le (T := T) (p := p)
        have hq' := blk_ub g2
        have hbl' := blk_le (T := T) (p := p')
        have C : mm_RR_readRule_b26 N (some 20) (nI 1, nI ci, lx (rH h l ci k cd sx) T (nI 0) p) = mm_RR_readRule_j130 N (some 20) (nI ci) (lx (rH h (l + x.1.length + (x2 x).length) (ci + 1) k' (eW tk_C cd l (x.1 ++ x2 x)) (sxN sx ci l x)) T (nI 0) p') := C
        have hE := RI_ext (x := x) hRI hr (by omega) (by omega) g4 g5 g6
        rw [hci] at hE
        have hR1 : (R ++ [x]).length = ci + 1 := by simp; exact hci
        have hl1 : l + x.1.length + (x2 x).length ≤ p' := by omega
        have kC : clK r cl0 (clN cl (48 * r) ci l x) := clK_t hk0 ⟨hE.1.2.2.1, fun i hi => clN_o (by omega)⟩
        have kS : sgK r sg0 (eW tk_M sg (400 * r + l) (x.1 ++ x2 x)) := sgK_t hg0 ⟨hE.1.2.2.2, fun i hi => eW_lo _ _ _ _ (by omega)⟩
        rw [M]
        generalize eW tk_C cd l (x.1 ++ x2 x) = cd1 at hE C
        generalize sxN sx ci l x = sx1 at hE C
        generalize clN cl (48 * r) ci l x = cl1 at hE kC ⊢
        generalize eW tk_M sg (400 * r + l) (x.1 ++ x2 x) = sg1 at hE kS ⊢
        generalize l + x.1.length + (x2 x).length = l1 at hE C hl1 ⊢
        by_cases he : blk T p' < T.length
        · have hse := se_0 he
          by_cases h59 : T.getD (blk T p') 0 = 59
          · have hsg9 : sgn T (blk T p') 59 := sgn_of he h59 (by omega) (by omega)
            have hse2 : se T (blk T p1) = nI 59 := by rw [b2, hse, h59]
            have IHx := IH c12 (blk T p' + 1) (blk T p' + 1) k' l1 cd1 sx1 cl1 sg1 op' (R ++ [x]) z4 z7 z9 he he rfl g7 hE hR1 (by omega) b3 kC kS
            have e1 : ss_lp (mm_RR_readRule_b26 N (some 20)) (Q + 1 + 1) (nI 1, nI ci, lx (rH h l ci k cd sx) T (nI 0) p) = ss_lp (mm_RR_readRule_b26 N (some 20)) (Q + 1) (nI 1, nI (ci + 1), lx (rH h l1 (ci + 1) k' cd1 sx1) T (nI 0) (blk T p' + 1)) := by
              have b : mm_RR_readRule_j130 N (some 20) (nI ci) (lx (rH h l1 (ci + 1) k' cd1 sx1) T (nI 0) p') = some (.inl (nI 1, nI (ci + 1), lx (rH h l1 (ci + 1) k' cd1 sx1) T (nI 0) (blk T p' + 1))) := by
                unfold mm_RR_readRule_j130
                simp only [pb_l2, pb_ll, nI_add, pb_mul, if_true, if_false, pb_bs, pb_b2n, pb_bz0, pb_bz1, pb_10, pb_01, rl_is, rl_r0, rl_r1, rl_r2, rl_j0, rl_j1, rl_j2, rl_p0, rl_p1, rl_p2, T_go1 (rH_tz ht) g2 hN hsg9]
              rw [ss_lp, C, b]
            rw [e1]
            have e2 : rL N (Q + 1 + 1) (some (nI 1, (pm_M n f (mL (nI T.length) m1 (nI p1) (nI 0) z4 (nI r) (nI k') z7 (nI (ci + 1)) z9 m10 m11 m12 m13 m14 m15) dx tp sg1 (lg.set r (nI l1)) cl1 (cs.set r (nI (ci + 1))) rd op' sk wd sd th fa ws kp li pr hb fi st im jf jx mk))) = rL N (Q + 1) (mm_M_clauseHere N (some 118) (pm_M n f (mL (nI T.length) m1 (nI (blk T p' + 1)) (nI 0) z4 (nI r) (nI k') z7 (nI (ci + 1)) z9 m10 m11 m12 m13 m14 m15) dx tp sg1 (lg.set r (nI l1)) cl1 (cs.set r (nI (ci + 1))) rd op' sk wd sd th fa ws kp li pr hb fi st im jf jx mk)) := by
              unfold rL
              rw [pb_b2n]
              cases hcl : mm_M_clauseHere N (some 118) (pm_M n f (mL (nI T.length) m1 (nI (blk T p' + 1)) (nI 0) z4 (nI r) (nI k') z7 (nI (ci + 1)) z9 m10 m11 m12 m13 m14 m15) dx tp sg1 (lg.set r (nI l1)) cl1 (cs.set r (nI (ci + 1))) rd op' sk wd sd th fa ws kp li pr hb fi st im jf jx mk) with
              | none =>
                rw [hcl] at IHx
                rcases IHx with ⟨p3, R3, l3, k3, cd3, sx3, cl3, sg3, op3, u2, u4, u6, u7, u8, u9, s1, s2, s3, s4, s5, s6, s7, s8, s9⟩ | ⟨F3, H3, u2, u4, u6, u7, u8, u9, ul, uc, cl3, op3, sg3, s1, s2, s3, s4, s5, s6, s7⟩
                · cases s9
                · cases s7
              | some z =>
                obtain ⟨w, h9⟩ := z
                rw [ss_lp, b35_2 hm b1 hN hse2 (by rw [b2]; exact hcl)]
                rfl
            refine Eq.mpr ?_ IHx
            rw [← e2]
          · have hns : ¬ sgn T (blk T p') 59 := fun y => h59 y.2.2.2
            have hb2 := hm.2.1 _ he
            have hse2 : se T (blk T p1) ≠ nI 59 := by rw [b2, hse]; exact of_eq_false (pb_nn h59 (by omega) (by omega))
            refine Or.inr ⟨rr_f T p' 0, lx (rH h l1 (ci + 1) k' cd1 sx1) T (nI (rr_f T p' 0)) p', nI (blk T p'), z4, nI k', z7, nI (ci + 1), z9, nI l1, nI (ci + 1), cl1, op', sg1, ⟨l1, ci + 1, k', cd1, sx1, p', hE.1.1, hE.1.2.1, hE.2.1.1, g2, rfl⟩, rr_fb hT g2 (by omega), kC, kS, b3, ?_, ?_⟩
            · have b : mm_RR_readRule_j130 N (some 20) (nI ci) (lx (rH h l1 (ci + 1) k' cd1 sx1) T (nI 0) p') = some (.inl (nI 0, nI (ci + 1), lx (rH h l1 (ci + 1) k' cd1 sx1) T (nI (rr_f T p' 0)) p')) := by
                have g := T_go2 (h := rH h l1 (ci + 1) k' cd1 sx1) (N := N) (rH_tz ht) g2 he hns
                unfold mm_RR_readRule_j130
                simp only [pb_l2, pb_ll, nI_add, pb_mul, if_true, if_false, pb_bs, pb_b2n, pb_bz0, pb_bz1, pb_10, pb_01, rl_is, rl_r0, rl_r1, rl_r2, rl_j0, rl_j1, rl_j2, rl_p0, rl_p1, rl_p2, g]
                rfl
              rw [ss_lp, C, b]
              exact C_x0 (by omega)
            · unfold rL
              rw [pb_b2n, ss_lp, b35_1 hm b1 hN hse2]
              show rT N _ = _
              rw [rT_2 hm (blk_ub b1) hN (by rw [blk_id, b2]; exact he), blk_id, b2]
              rfl
        · have hse2 : se T (blk T p1) ≠ nI 59 := by rw [b2, se_1 he]; exact of_eq_false m1_59
          refine Or.inl ⟨p', R ++ [x], l1, k', cd1, sx1, cl1, sg1, op', nI (blk T p1), z4, nI k', z7, nI (ci + 1), z9, hE, by omega, by omega, g2, kC, kS, b3, ?_, ?_⟩
          · have b : mm_RR_readRule_j130 N (some 20) (nI ci) (lx (rH h l1 (ci + 1) k' cd1 sx1) T (nI 0) p') = some (.inl (nI 0, nI (ci + 1), lx (rH h l1 (ci + 1) k' cd1 sx1) T (nI 0) p')) := by
              unfold mm_RR_readRule_j130
              simp only [pb_l2, pb_ll, nI_add, pb_mul, if_true, if_false, pb_bs, pb_b2n, pb_bz0, pb_bz1, pb_10, pb_01, rl_is, rl_r0, rl_r1, rl_r2, rl_j0, rl_j1, rl_j2, rl_p0, rl_p1, rl_p2, T_go0 he]
            rw [ss_lp, C, b, hR1]
            exact C_x0 (by omega)
          · unfold rL
            rw [pb_b2n, ss_lp, b35_1 hm b1 hN hse2, hR1]
            show rT N _ = _
            rw [rT_1 hm (blk_ub b1) hN (by rw [blk_id, b2]; exact he), blk_id]
    · have e12 : ci = 12 := by omega
      subst e12
      exact flt (rr_f T p 4) _ (nI (blk T p)) m4 (nI k) m7 (nI 12) m9 (nI l) cl op sg ⟨l, 12, k, cd, sx, p, i1, i2, i5, hp, rfl⟩ (rr_fb hT hp (by omega)) hk0 hg0 hop (C_begin4 ht hN hp rfl hs) (M_cl4 hm hp h0 hb0 hN hr hs)
  · exact flt (rr_f T p 0) _ (nI (blk T p)) m4 (nI k) m7 (nI ci) m9 (nI l) cl op sg ⟨l, ci, k, cd, sx, p, i1, i2, i5, hp, rfl⟩ (rr_fb hT hp (by omega)) hk0 hg0 hop (C_begin0 ht hN hp h12 hs) (M_cl0 hm hp h0 hb0 hN hr hs)
theorem r_all (hm : mz tp T) (hN : 500 < N) (hr : r < 6) (hlg : lg.length = 7) (ht : tz h T) (hcs : cs.length = 6) : ∀ d ci, ci + d = 12 → ∀ Q, d < Q → ∀ p p0 k l cd sx cl sg op (R : List ru_C) m4 m7 m9, p ≤ T.length → p0 ≤ T.length → blk T p0 = blk T p → k ≤ 60 → RI cd sx cl sg r l R → R.length = ci → l ≤ p → op.length = 400 → clK r cl0 cl → sgK r sg0 sg → rEnd h T r cl0 sg0 (ss_lp (mm_RR_readRule_b26 N (some 20)) (Q + 1) (nI 1, nI ci, lx (rH h l ci k cd sx) T (nI 0) p)) (rL N (Q + 1) (mm_M_clauseHere N (some 118) (pm_M n f (mL (nI T.length) m1 (nI p0) (nI 0) m4 (nI r) (nI k) m7 (nI ci) m9 m10 m11 m12 m13 m14 m15) dx tp sg (lg.set r (nI l)) cl (cs.set r (nI ci)) rd op sk wd sd th fa ws kp li pr hb fi st im jf jx mk))) (fun z2 z3 z4 z6 z7 z8 z9 zl zc cl op sg => (pm_M n f (mL (nI 0) m1 z2 z3 z4 (nI r) z6 z7 z8 z9 m10 m11 m12 m13 m14 m15) dx tp sg (lg.set r zl) cl (cs.set r zc) rd op sk wd sd th fa ws kp li pr hb fi st im jf jx mk)) := by
  intro d
  induction d with
  | zero =>
    intro ci hd Q hQ p p0 k l cd sx cl sg op R m4 m7 m9 hp h0 hb0 hk hRI hR hl hop hk0 hg0
    obtain ⟨Q, rfl⟩ : ∃ Q', Q = Q' + 1 := ⟨Q - 1, by omega⟩
    exact r_step hm hN hr hlg hp h0 hb0 hRI.1.2.2.2 hk ht hcs hop hRI hR (by omega) hl hk0 hg0 (fun y => by omega)
  | succ d ih =>
    intro ci hd Q hQ p p0 k l cd sx cl sg op R m4 m7 m9 hp h0 hb0 hk hRI hR hl hop hk0 hg0
    obtain ⟨Q, rfl⟩ : ∃ Q', Q = Q' + 1 := ⟨Q - 1, by omega⟩
    exact r_step hm hN hr hlg hp h0 hb0 hRI.1.2.2.2 hk ht hcs hop hRI hR (by omega) hl hk0 hg0 (fun _ => ih (ci + 1) (by omega) Q (by omega))
end MY9
