/-! ===== rule: the model reads tests ===== -/
def tOut (T : List Nat) (r l : Nat) (sg : List Int32) (MF : Int32 → Int32 → Int32 → Int32 → Int32 → Int32 → Int32 → List Int32 → List Int32 → ss_Hp) (o : Option (Int32 × ss_Hp)) : rR → Prop
  | .inl F => ∃ z2 z4 z6 z7 z9 zl op sg', sgK r sg sg' ∧ op.length = 400 ∧ o = some (nI 0, MF z2 (nI F) z4 z6 z7 z9 zl op sg')
  | .inr (p', E, k') => ∃ p1 z4 z7 z9 op, p1 ≤ T.length ∧ blk T p1 = blk T p' ∧ op.length = 400 ∧ o = some (nI 1, MF (nI p1) (nI 0) z4 (nI k') z7 z9 (nI (l + E.length)) op (eW tk_M sg (400 * r + l) E))
theorem stk_sb {op : List Int32} {B : List Nat} {b : Bool} {x : Nat} (h : stk op (B ++ sb b x)) : stk op B := by
  cases b with
  | false =>
    have h : stk op (B ++ []) := h
    rw [List.append_nil] at h
    exact h
  | true => exact (stk_pop h).1
section MV9
variable {n : Nat} {f : Nat → ss_Cl} {m0 m1 m2 m3 m4 m5 m6 m7 m8 m9 m10 m11 m12 m13 m14 m15 : Int32} {dx : Int64} {tp : List Int32} {sg : List Int32} {lg : List Int32} {cl : List Int32} {cs : List Int32} {rd : List Int32} {op : List Int32} {sk : List Int64} {wd : List Int64} {sd : List Int32} {th : List Int32} {fa : List Int32} {ws : List Int32} {kp : List Int32} {li : List Int32} {pr : List Int32} {hb : List Int32} {fi : List Int32} {st : List Int32} {im : List Int32} {jf : List Int32} {jx : List Int32} {mk : List Int32} {N : Nat}
variable {T : List Nat} {r p p0 q k l d x a Q Q1 : Nat} {S B : List Nat} {u b : Bool}
theorem M_testL (hm : mz tp T) (hN : 500 < N) (hr : r < 6) (hlg : lg.length = 7) {b9 : Nat} {ff : Nat → Nat → rR} (hR : fRel N T r d (fun z2 z3 z4 z6 z7 z9 zl op sg => (pm_M n f (mL (nI T.length) m1 z2 z3 z4 (nI r) z6 z7 m8 z9 m10 m11 m12 m13 m14 m15) dx tp sg (lg.set r zl) cl cs rd op sk wd sd th fa ws kp li pr hb fi st im jf jx mk)) ff) (gf : ∀ p c, p ≤ T.length → gR T p b9 b01 (ff p c)) (kf : ∀ p c, c ≤ 60 → kR (ff p c)) : ∀ g9 p p0 k l sg z4 op S Q1 Q u b, T.length - p < g9 → p ≤ T.length → p0 ≤ T.length → blk T p0 = blk T p → sg.length = 2400 → k ≤ 60 → l + S.length + nb u + nb b ≤ p → stk op (S ++ (sb u 13 ++ sb b 12)) → (∀ y, y ∈ S → y < 1000) → (S = [] ∨ ∃ L, S = L ++ [91]) → T.length - p + 2 ≤ Q1 → T.length - p < Q → xOut N T r l d sg S (fun z2 z3 z4 z6 z7 z9 zl op sg => (pm_M n f (mL (nI T.length) m1 z2 z3 z4 (nI r) z6 z7 m8 z9 m10 m11 m12 m13 m14 m15) dx tp sg (lg.set r zl) cl cs rd op sk wd sd th fa ws kp li pr hb fi st im jf jx mk)) (FA N Q1 Q (pm_M n f (mL (nI T.length) m1 (nI p0) (nI 0) z4 (nI r) (nI k) (nI d) m8 (nI (S.length + nb u + nb b)) m10 m11 m12 m13 m14 m15) dx tp sg (lg.set r (nI l)) cl cs rd op sk wd sd th fa ws kp li pr hb fi st im jf jx mk)) (rL9 T ff g9 u b p k) := by
  have hT := hm.1
  intro g9
  induction g9 with
  | zero => intro p p0 k l sg z4 op S Q1 Q u b h1; omega
  | succ g9 ih =>
    intro p p0 k l sg z4 op S Q1 Q u b h1 hp h0 hb0 hsg hk hl hs hS hB hQ1 hQ
    have hLS : (S ++ (sb u 13 ++ sb b 12)).length = S.length + nb u + nb b := by rw [List.length_append, List.length_append, sb_len, sb_len]; omega
    have nu := nb_le (b := u)
    have nbb := nb_le (b := b)
    have R : fOut N T r l d sg (S ++ (sb u 13 ++ sb b 12)) (fun z2 z3 z4 z6 z7 z9 zl op sg => (pm_M n f (mL (nI T.length) m1 z2 z3 z4 (nI r) z6 z7 m8 z9 m10 m11 m12 m13 m14 m15) dx tp sg (lg.set r zl) cl cs rd op sk wd sd th fa ws kp li pr hb fi st im jf jx mk)) (FA N Q1 Q (pm_M n f (mL (nI T.length) m1 (nI p0) (nI 0) z4 (nI r) (nI k) (nI d) m8 (nI (S ++ (sb u 13 ++ sb b 12)).length) m10 m11 m12 m13 m14 m15) dx tp sg (lg.set r (nI l)) cl cs rd op sk wd sd th fa ws kp li pr hb fi st im jf jx mk)) (ff p k) := hR p p0 k l sg z4 op (S ++ (sb u 13 ++ sb b 12)) Q1 Q hp h0 hb0 hsg hk (by rw [hLS]; omega) hs (mem_sb hS) hQ1 hQ
    rw [hLS] at R
    have G := gf p k hp
    have K := kf p k hk
    show xOut N T r l d sg S (fun z2 z3 z4 z6 z7 z9 zl op sg => (pm_M n f (mL (nI T.length) m1 z2 z3 z4 (nI r) z6 z7 m8 z9 m10 m11 m12 m13 m14 m15) dx tp sg (lg.set r zl) cl cs rd op sk wd sd th fa ws kp li pr hb fi st im jf jx mk)) _ (rr_bnd (ff p k) _)
    generalize ff p k = rr at R G K ⊢
    rcases rr with F | ⟨p1, E1, k1⟩
    · exact R
    · obtain ⟨p2, z4', op', Q1', Q', a1, a2, a3, a4, a5, a6⟩ := R
      rw [hLS] at a6
      obtain ⟨g1, g2, g3, -⟩ := G
      have hk1 := K p1 E1 k1 rfl
      have hq1 := blk_ub g2
      have hbl := blk_le (T := T) (p := p1)
      have hs1 : (eW tk_M sg (400 * r + l) E1).length = 2400 := by rw [eW_len]; exact hsg
      show xOut N T r l d sg S (fun z2 z3 z4 z6 z7 z9 zl op sg => (pm_M n f (mL (nI T.length) m1 z2 z3 z4 (nI r) z6 z7 m8 z9 m10 m11 m12 m13 m14 m15) dx tp sg (lg.set r zl) cl cs rd op sk wd sd th fa ws kp li pr hb fi st im jf jx mk)) _ (rr_pre E1 (rr_pre (ob b 12) (@ite _ (wis T (blk T p1) rw_and) (Classical.propDecidable _) _ _)))
      by_cases hA : wis T (blk T p1) rw_and
      · rw [if_pos hA]
        have hen := en_w hA rw_and_wl hq1
        have hub := eL_ub hq1
        have cx := cQ_exit (N := N) (Q1 := Q1') (p := p1) (p0 := p2) (n := n) (f := f) (m1 := m1) (m3 := nI 0) (m4 := z4') (m5 := nI r) (m6 := nI k1) (m7 := nI d) (m8 := m8) (m10 := m10) (m11 := m11) (m12 := m12) (m13 := m13) (m14 := m14) (m15 := m15) (dx := dx) (sg := eW tk_M sg (400 * r + l) E1) (lg := lg.set r (nI (l + E1.length))) (cl := cl) (cs := cs) (rd := rd) (op := op') (sk := sk) (wd := wd) (sd := sd) (th := th) (fa := fa) (ws := ws) (kp := kp) (li := li) (pr := pr) (hb := hb) (fi := fi) (st := st) (im := im) (jf := jf) (jx := jx) (mk := mk) hm g2 a1 a2 hN a3 (mem_sb hS) (t3_all hB) (by omega) (Or.inl (nx_93 (x := 97) hA (by decide) rfl (by omega)))
        rw [hLS] at cx
        have hs2 : stk op' ((S ++ sb u 13) ++ sb b 12) := by rw [List.append_assoc]; exact a3
        have hL2 : (S ++ sb u 13).length = S.length + nb u := by rw [List.length_append, sb_len]
        have tc := tC_and (N := N) (q := blk T p1) (l := l + E1.length) (B := S ++ sb u 13) (b := b) (n := n) (f := f) (m1 := m1) (m3 := nI 0) (m4 := z4') (m6 := nI k1) (m7 := nI d) (m8 := m8) (m10 := m10) (m11 := m11) (m12 := m12) (m13 := m13) (m14 := m14) (m15 := m15) (dx := dx) (cl := cl) (cs := cs) (rd := rd) (op := op') (sk := sk) (wd := wd) (sd := sd) (th := th) (fa := fa) (ws := ws) (kp := kp) (li := li) (pr := pr) (hb := hb) (fi := fi) (st := st) (im := im) (jf := jf) (jx := jx) (mk := mk) hm hq1 blk_id hN hA hs2 (t3_two hB) hr hlg hs1 (by omega) (by rw [hL2]; omega)
        rw [hL2] at tc
        obtain ⟨Q'', rfl⟩ : ∃ Q'', Q' = Q'' + 1 := ⟨Q' - 1, by omega⟩
        have e : FA N Q1 Q (pm_M n f (mL (nI T.length) m1 (nI p0) (nI 0) z4 (nI r) (nI k) (nI d) m8 (nI (S.length + nb u + nb b)) m10 m11 m12 m13 m14 m15) dx tp sg (lg.set r (nI l)) cl cs rd op sk wd sd th fa ws kp li pr hb fi st im jf jx mk) = FA N N Q'' (pm_M n f (mL (nI T.length) m1 (nI (eL T (blk T p1))) (nI 0) z4' (nI r) (nI k1) (nI d) m8 (nI (S.length + nb u + 1)) m10 m11 m12 m13 m14 m15) dx tp (eW tk_M (eW tk_M sg (400 * r + l) E1) (400 * r + (l + E1.length)) (ob b 12)) (lg.set r (nI (l + E1.length + nb b))) cl cs rd (op'.set (S.length + nb u) (nI 12)) sk wd sd th fa ws kp li pr hb fi st im jf jx mk) := by
          refine a6.trans ?_
          unfold AF
          rw [cx, pb_bs, tc]
          exact FA_lp
        rw [e]
        refine xOut_pre ?_
        refine xOut_pre ?_
        rw [ob_len]
        have sS := stk_sb hs2
        have sp := stk_push (x := 12) sS (by rw [hL2]; omega)
        rw [hL2, List.append_assoc] at sp
        exact ih (eL T (blk T p1)) (eL T (blk T p1)) k1 (l + E1.length + nb b) _ z4' _ S N Q'' u true (by omega) hub hub rfl (by rw [eW_len]; exact hs1) hk1 (by have e9 : nb true = 1 := rfl; rw [e9]; omega) sp hS hB (by omega) (by omega)
      · rw [if_neg hA]
        show xOut N T r l d sg S (fun z2 z3 z4 z6 z7 z9 zl op sg => (pm_M n f (mL (nI T.length) m1 z2 z3 z4 (nI r) z6 z7 m8 z9 m10 m11 m12 m13 m14 m15) dx tp sg (lg.set r zl) cl cs rd op sk wd sd th fa ws kp li pr hb fi st im jf jx mk)) _ (rr_pre E1 (rr_pre (ob b 12) (rr_pre (ob u 13) (@ite _ (wis T (blk T p1) rw_or) (Classical.propDecidable _) _ _))))
        by_cases hO : wis T (blk T p1) rw_or
        · rw [if_pos hO]
          have hen := en_w hO rw_or_wl hq1
          have hub := eL_ub hq1
          have cx := cQ_exit (N := N) (Q1 := Q1') (p := p1) (p0 := p2) (n := n) (f := f) (m1 := m1) (m3 := nI 0) (m4 := z4') (m5 := nI r) (m6 := nI k1) (m7 := nI d) (m8 := m8) (m10 := m10) (m11 := m11) (m12 := m12) (m13 := m13) (m14 := m14) (m15 := m15) (dx := dx) (sg := eW tk_M sg (400 * r + l) E1) (lg := lg.set r (nI (l + E1.length))) (cl := cl) (cs := cs) (rd := rd) (op := op') (sk := sk) (wd := wd) (sd := sd) (th := th) (fa := fa) (ws := ws) (kp := kp) (li := li) (pr := pr) (hb := hb) (fi := fi) (st := st) (im := im) (jf := jf) (jx := jx) (mk := mk) hm g2 a1 a2 hN a3 (mem_sb hS) (t3_all hB) (by omega) (Or.inl (nx_93 (x := 111) hO (by decide) rfl (by omega)))
          rw [hLS] at cx
          have tc := tC_or (N := N) (q := blk T p1) (l := l + E1.length) (B := S) (o := u) (b := b) (n := n) (f := f) (m1 := m1) (m3 := nI 0) (m4 := z4') (m6 := nI k1) (m7 := nI d) (m8 := m8) (m10 := m10) (m11 := m11) (m12 := m12) (m13 := m13) (m14 := m14) (m15 := m15) (dx := dx) (cl := cl) (cs := cs) (rd := rd) (op := op') (sk := sk) (wd := wd) (sd := sd) (th := th) (fa := fa) (ws := ws) (kp := kp) (li := li) (pr := pr) (hb := hb) (fi := fi) (st := st) (im := im) (jf := jf) (jx := jx) (mk := mk) hm hq1 blk_id hN hA hO a3 (t3_one hB) hr hlg hs1 (by omega) (by omega)
          obtain ⟨Q'', rfl⟩ : ∃ Q'', Q' = Q'' + 1 := ⟨Q' - 1, by omega⟩
          have e : FA N Q1 Q (pm_M n f (mL (nI T.length) m1 (nI p0) (nI 0) z4 (nI r) (nI k) (nI d) m8 (nI (S.length + nb u + nb b)) m10 m11 m12 m13 m14 m15) dx tp sg (lg.set r (nI l)) cl cs rd op sk wd sd th fa ws kp li pr hb fi st im jf jx mk) = FA N N Q'' (pm_M n f (mL (nI T.length) m1 (nI (eL T (blk T p1))) (nI 0) z4' (nI r) (nI k1) (nI d) m8 (nI (S.length + 1)) m10 m11 m12 m13 m14 m15) dx tp (eW tk_M (eW tk_M sg (400 * r + l) E1) (400 * r + (l + E1.length)) (ob b 12 ++ ob u 13)) (lg.set r (nI (l + E1.length + nb b + nb u))) cl cs rd (op'.set S.length (nI 13)) sk wd sd th fa ws kp li pr hb fi st im jf jx mk) := by
            refine a6.trans ?_
            unfold AF
            rw [cx, pb_bs, tc]
            exact FA_lp
          rw [e, rr_pp (E := ob b 12)]
          refine xOut_pre ?_
          refine xOut_pre ?_
          rw [List.length_append, ob_len, ob_len, ← Nat.add_assoc]
          have sS : stk op' S := stk_sb (b := u) (x := 13) (stk_sb (b := b) (x := 12) (by rw [List.append_assoc]; exact a3))
          have sp := stk_push (x := 13) sS (by omega)
          exact ih (eL T (blk T p1)) (eL T (blk T p1)) k1 (l + E1.length + nb b + nb u) _ z4' _ S N Q'' true false (by omega) hub hub rfl (by rw [eW_len]; exact hs1) hk1 (by have e9 : nb true = 1 := rfl; have e8 : nb false = 0 := rfl; rw [e9, e8]; omega) sp hS hB (by omega) (by omega)
        · rw [if_neg hO]
          refine ⟨p2, z4', op', Q1', Q', E1, u, b, a1, a2, a3, by rw [List.append_nil], hA, hO, a4, a5, by omega, a6⟩
theorem M_rec (hm : mz tp T) (hN : 500 < N) (hr : r < 6) (hlg : lg.length = 7) : ∀ k, 1 ≤ k → k ≤ 11 → fRel N T r (11 - k) (fun z2 z3 z4 z6 z7 z9 zl op sg => (pm_M n f (mL (nI T.length) m1 z2 z3 z4 (nI r) z6 z7 m8 z9 m10 m11 m12 m13 m14 m15) dx tp sg (lg.set r zl) cl cs rd op sk wd sd th fa ws kp li pr hb fi st im jf jx mk)) (rX T (k + 1)).1 ∧ xRel N T r (11 - k) (fun z2 z3 z4 z6 z7 z9 zl op sg => (pm_M n f (mL (nI T.length) m1 z2 z3 z4 (nI r) z6 z7 m8 z9 m10 m11 m12 m13 m14 m15) dx tp sg (lg.set r zl) cl cs rd op sk wd sd th fa ws kp li pr hb fi st im jf jx mk)) (rX T (k + 1)).2 := by
  have hT := hm.1
  have step : ∀ k, 1 ≤ k → k ≤ 11 → (k ≤ 1 ∨ (fRel N T r (12 - k) (fun z2 z3 z4 z6 z7 z9 zl op sg => (pm_M n f (mL (nI T.length) m1 z2 z3 z4 (nI r) z6 z7 m8 z9 m10 m11 m12 m13 m14 m15) dx tp sg (lg.set r zl) cl cs rd op sk wd sd th fa ws kp li pr hb fi st im jf jx mk)) (rX T k).1 ∧ xRel N T r (12 - k) (fun z2 z3 z4 z6 z7 z9 zl op sg => (pm_M n f (mL (nI T.length) m1 z2 z3 z4 (nI r) z6 z7 m8 z9 m10 m11 m12 m13 m14 m15) dx tp sg (lg.set r zl) cl cs rd op sk wd sd th fa ws kp li pr hb fi st im jf jx mk)) (rX T k).2)) → fRel N T r (11 - k) (fun z2 z3 z4 z6 z7 z9 zl op sg => (pm_M n f (mL (nI T.length) m1 z2 z3 z4 (nI r) z6 z7 m8 z9 m10 m11 m12 m13 m14 m15) dx tp sg (lg.set r zl) cl cs rd op sk wd sd th fa ws kp li pr hb fi st im jf jx mk)) (rX T (k + 1)).1 ∧ xRel N T r (11 - k) (fun z2 z3 z4 z6 z7 z9 zl op sg => (pm_M n f (mL (nI T.length) m1 z2 z3 z4 (nI r) z6 z7 m8 z9 m10 m11 m12 m13 m14 m15) dx tp sg (lg.set r zl) cl cs rd op sk wd sd th fa ws kp li pr hb fi st im jf jx mk)) (rX T (k + 1)).2 := by
    intro k hk1 hk2 hh
    have gd : ¬ k ≤ 1 → (∀ p c, p ≤ T.length → gR T p (2 * k + 2) b01 ((rX T k).1 p c)) ∧ ∀ p c, p ≤ T.length → gR T p (2 * k + 2) b01 ((rX T k).2 p c) := fun q => by
      obtain ⟨k', rfl⟩ : ∃ k', k = k' + 1 := ⟨k - 1, by omega⟩
      have g := rX_good hT k' (by omega)
      exact ⟨fun p c hp => gR_up (Nat.le_refl p) (by omega) (g.1 p c hp), g.2⟩
    have F1 : fRel N T r (11 - k) (fun z2 z3 z4 z6 z7 z9 zl op sg => (pm_M n f (mL (nI T.length) m1 z2 z3 z4 (nI r) z6 z7 m8 z9 m10 m11 m12 m13 m14 m15) dx tp sg (lg.set r zl) cl cs rd op sk wd sd th fa ws kp li pr hb fi st im jf jx mk)) (rX T (k + 1)).1 := by
      refine M_fact (b9 := 2 * k + 2) hm hN hr hlg (by omega) (decide_eq_decide.mpr (by omega)) (fun q => ?_) (fun q => ?_) (fun q => (gd (of_decide_eq_false q)).1) (fun q => (gd (of_decide_eq_false q)).2)
      · rw [show 11 - k + 1 = 12 - k by omega]
        exact (hh.resolve_left (of_decide_eq_false q)).1
      · rw [show 11 - k + 1 = 12 - k by omega]
        exact (hh.resolve_left (of_decide_eq_false q)).2
    refine ⟨F1, fun p p0 kk l sg z4 op S Q1 Q hp h0 hb0 hsg hk hl hs hS hB hQ1 hQ => ?_⟩
    have hs' : stk op (S ++ (sb false 13 ++ sb false 12)) := by
      show stk op (S ++ [])
      rw [List.append_nil]
      exact hs
    exact M_testL hm hN hr hlg F1 (rX_good hT k hk1).1 (kR_X (k + 1)).1 401 p p0 kk l sg z4 op S Q1 Q false false (by omega) hp h0 hb0 hsg hk hl hs' hS hB hQ1 hQ
  intro k
  induction k with
  | zero => intro h1; omega
  | succ k ih =>
    intro _ h2
    refine step (k + 1) (by omega) h2 ?_
    rcases Nat.lt_or_ge k 1 with q | q
    · exact Or.inl (by omega)
    · refine Or.inr ?_
      have := ih q (by omega)
      rw [show 12 - (k + 1) = 11 - k by omega]
      exact this
theorem M_tested (hm : mz tp T) (hN : 500 < N) (hr : r < 6) (hlg : lg.length = 7) (hp : p ≤ T.length) (h0 : p0 ≤ T.length) (hb0 : blk T p0 = blk T p) (hsg : sg.length = 2400) (hk : k ≤ 60) (hop : op.length = 400) (hl : l ≤ p) : tOut T r l sg (fun z2 z3 z4 z6 z7 z9 zl op sg => (pm_M n f (mL (nI T.length) m1 z2 z3 z4 (nI r) z6 z7 m8 z9 m10 m11 m12 m13 m14 m15) dx tp sg (lg.set r zl) cl cs rd op sk wd sd th fa ws kp li pr hb fi st im jf jx mk)) (mm_M_tested N (some 118) (pm_M n f (mL (nI T.length) m1 (nI p0) (nI 0) m4 (nI r) (nI k) m7 m8 m9 m10 m11 m12 m13 m14 m15) dx tp sg (lg.set r (nI l)) cl cs rd op sk wd sd th fa ws kp li pr hb fi st im jf jx mk)) ((rX T 12).2 p k) := by
  have hT := hm.1
  have R := (M_rec (n := n) (f := f) (m1 := m1) (m8 := m8) (m10 := m10) (m11 := m11) (m12 := m12) (m13 := m13) (m14 := m14) (m15 := m15) (dx := dx) (cl := cl) (cs := cs) (rd := rd) (sk := sk) (wd := wd) (sd := sd) (th := th) (fa := fa) (ws := ws) (kp := kp) (li := li) (pr := pr) (hb := hb) (fi := fi) (st := st) (im := im) (jf := jf) (jx := jx) (mk := mk) hm hN hr hlg 11 (by omega) (by omega)).2 p p0 k l sg m4 op [] N (N - 1) hp h0 hb0 hsg hk hl ⟨hop, by simp, (fun i hi => absurd hi (Nat.not_lt_zero i))⟩ (fun y hy => by cases hy) (Or.inl rfl) (by omega) (by omega)
  have e : mm_M_tested N (some 118) (pm_M n f (mL (nI T.length) m1 (nI p0) (nI 0) m4 (nI r) (nI k) m7 m8 m9 m10 m11 m12 m13 m14 m15) dx tp sg (lg.set r (nI l)) cl cs rd op sk wd sd th fa ws kp li pr hb fi st im jf jx mk) = FA N N (N - 1) (pm_M n f (mL (nI T.length) m1 (nI p0) (nI 0) m4 (nI r) (nI k) (nI 0) m8 (nI 0) m10 m11 m12 m13 m14 m15) dx tp sg (lg.set r (nI l)) cl cs rd op sk wd sd th fa ws kp li pr hb fi st im jf jx mk) := by
    obtain ⟨Q', hQ'⟩ : ∃ Q', N = Q' + 1 := ⟨N - 1, by omega⟩
    have F := FA_lp (N := N) (Q := Q') (n := n) (f := f) (m0 := nI T.length) (m1 := m1) (m2 := nI p0) (m3 := nI 0) (m4 := m4) (m5 := nI r) (m6 := nI k) (m7 := nI 0) (m8 := m8) (m9 := nI 0) (m10 := m10) (m11 := m11) (m12 := m12) (m13 := m13) (m14 := m14) (m15 := m15) (dx := dx) (tp := tp) (sg := sg) (lg := lg.set r (nI l)) (cl := cl) (cs := cs) (rd := rd) (op := op) (sk := sk) (wd := wd) (sd := sd) (th := th) (fa := fa) (ws := ws) (kp := kp) (li := li) (pr := pr) (hb := hb) (fi := fi) (st := st) (im := im) (jf := jf) (jx := jx) (mk := mk)
    rw [← hQ'] at F
    rw [show N - 1 = Q' by omega, ← F]
    unfold mm_M_tested
    simp only [pb_l2, pb_ll, nI_add, pb_mul, if_true, if_false, pb_bs, pb_b2n, pb_bz0, pb_bz1, pb_10, pb_01, pn_is, pn_g0, pn_g1, pn_g2, pn_g3, pn_g4, pn_g5, pn_g6, pn_g9, mL_g0, mL_p0, mL_g1, mL_p1, mL_g2, mL_p2, mL_g3, mL_p3, mL_g4, mL_p4, mL_g5, mL_p5, mL_g6, mL_p6, mL_g7, mL_p7, mL_g8, mL_p8, mL_g9, mL_p9, mL_g10, mL_p10, mL_g11, mL_p11, mL_g12, mL_p12, mL_g13, mL_p13, mL_g14, mL_p14, mL_g15, mL_p15]
    refine congrArg (Option.bind _) (funext fun e => ?_)
    rcases e with h | h <;> rfl
  rw [e]
  have G := (rX_good hT 11 (by omega)).2 p k hp
  have R : xOut N T r l 0 sg [] (fun z2 z3 z4 z6 z7 z9 zl op sg => (pm_M n f (mL (nI T.length) m1 z2 z3 z4 (nI r) z6 z7 m8 z9 m10 m11 m12 m13 m14 m15) dx tp sg (lg.set r zl) cl cs rd op sk wd sd th fa ws kp li pr hb fi st im jf jx mk)) (FA N N (N - 1) (pm_M n f (mL (nI T.length) m1 (nI p0) (nI 0) m4 (nI r) (nI k) (nI 0) m8 (nI 0) m10 m11 m12 m13 m14 m15) dx tp sg (lg.set r (nI l)) cl cs rd op sk wd sd th fa ws kp li pr hb fi st im jf jx mk)) ((rX T 12).2 p k) := R
  have G : gR T p 26 b01 ((rX T 12).2 p k) := G
  generalize (rX T 12).2 p k = rr at R G ⊢
  rcases rr with F | ⟨p1, E1, k1⟩
  · exact R
  · obtain ⟨p2, z4', op', Q1', Q', E0, u, b, a1, a2, a3, a4, a5, a6, a7, a8, a9, a10⟩ := R
    obtain ⟨g1, g2, g3, -⟩ := G
    have hq1 := blk_ub g2
    have nu := nb_le (b := u)
    have nbb := nb_le (b := b)
    have hs1 : (eW tk_M sg (400 * r + l) E0).length = 2400 := by rw [eW_len]; exact hsg
    have hmem : ∀ y, y ∈ [] ++ (sb u 13 ++ sb b 12) → y < 1000 := mem_sb (fun y hy => by cases hy)
    have hLS : ([] ++ (sb u 13 ++ sb b 12)).length = 0 + nb u + nb b := by rw [List.nil_append, List.length_append, sb_len, sb_len]; omega
    have n91 : ¬ 91 ∈ [] ++ (sb u 13 ++ sb b 12) := by
      cases u <;> cases b <;> decide
    have cx := cQ_exit (N := N) (Q1 := Q1') (p := p1) (p0 := p2) (S := [] ++ (sb u 13 ++ sb b 12)) (n := n) (f := f) (m1 := m1) (m3 := nI 0) (m4 := z4') (m5 := nI r) (m6 := nI k1) (m7 := nI 0) (m8 := m8) (m10 := m10) (m11 := m11) (m12 := m12) (m13 := m13) (m14 := m14) (m15 := m15) (dx := dx) (sg := eW tk_M sg (400 * r + l) E0) (lg := lg.set r (nI (l + E0.length))) (cl := cl) (cs := cs) (rd := rd) (op := op') (sk := sk) (wd := wd) (sd := sd) (th := th) (fa := fa) (ws := ws) (kp := kp) (li := li) (pr := pr) (hb := hb) (fi := fi) (st := st) (im := im) (jf := jf) (jx := jx) (mk := mk) hm g2 a1 a2 hN a3 hmem (t3_all (Or.inl rfl)) (by omega) (Or.inr n91)
    rw [hLS] at cx
    have hSd : ∀ i, i < ([] ++ (sb u 13 ++ sb b 12)).length → ([] ++ (sb u 13 ++ sb b 12)).getD i 0 < 1000 := fun i hi => hmem _ (by rw [List.getD_eq_getElem?_getD, List.getElem?_eq_getElem hi]; exact List.getElem_mem hi)
    have ins := M_ins (N := N) (S := [] ++ (sb u 13 ++ sb b 12)) (n := n) (f := f) (m0 := nI T.length) (m1 := m1) (m2 := nI (blk T p1)) (m3 := nI 0) (m4 := z4') (m5 := nI r) (m6 := nI k1) (m7 := nI 0) (m8 := m8) (m10 := m10) (m11 := m11) (m12 := m12) (m13 := m13) (m14 := m14) (m15 := m15) (dx := dx) (tp := tp) (sg := eW tk_M sg (400 * r + l) E0) (lg := lg.set r (nI (l + E0.length))) (cl := cl) (cs := cs) (rd := rd) (op := op') (sk := sk) (wd := wd) (sd := sd) (th := th) (fa := fa) (ws := ws) (kp := kp) (li := li) (pr := pr) (hb := hb) (fi := fi) (st := st) (im := im) (jf := jf) (jx := jx) (mk := mk) a3 hSd hN
    rw [if_neg n91, hLS] at ins
    have s1 := M_s1 (N := N) (l := l + E0.length) (B := []) (o := u) (b := b) (n := n) (f := f) (m0 := nI T.length) (m1 := m1) (m2 := nI (blk T p1)) (m3 := nI 0) (m4 := z4') (m6 := nI k1) (m7 := nI 0) (m8 := m8) (m10 := m10) (m11 := m11) (m12 := m12) (m13 := m13) (m14 := m14) (m15 := m15) (dx := dx) (tp := tp) (cl := cl) (cs := cs) (rd := rd) (op := op') (sk := sk) (wd := wd) (sd := sd) (th := th) (fa := fa) (ws := ws) (kp := kp) (li := li) (pr := pr) (hb := hb) (fi := fi) (st := st) (im := im) (jf := jf) (jx := jx) (mk := mk) hN a3 (Or.inl rfl) hr hlg hs1 (by have : ([] : List Nat).length = 0 := rfl; omega)
    have s1 : mm_M_settles N (some 118) (nI 1) (pm_M n f (mL (nI T.length) m1 (nI (blk T p1)) (nI 0) z4' (nI r) (nI k1) (nI 0) m8 (nI (0 + nb u + nb b)) m10 m11 m12 m13 m14 m15) dx tp (eW tk_M sg (400 * r + l) E0) (lg.set r (nI (l + E0.length))) cl cs rd op' sk wd sd th fa ws kp li pr hb fi st im jf jx mk) = some (pm_M n f (mL (nI T.length) m1 (nI (blk T p1)) (nI 0) z4' (nI r) (nI k1) (nI 0) m8 (nI 0) m10 m11 m12 m13 m14 m15) dx tp (eW tk_M (eW tk_M sg (400 * r + l) E0) (400 * r + (l + E0.length)) (ob b 12 ++ ob u 13)) (lg.set r (nI (l + E0.length + nb b + nb u))) cl cs rd op' sk wd sd th fa ws kp li pr hb fi st im jf jx mk) := s1
    refine ⟨blk T p1, z4', nI 0, nI 0, op', hq1, blk_id, a3.1, ?_⟩
    rw [a10]
    unfold AF
    have cx' : cQ N Q1' (pm_M n f (mL (nI T.length) m1 (nI p2) (nI 0) z4' (nI r) (nI k1) (nI 0) m8 (nI (([] : List Nat).length + nb u + nb b)) m10 m11 m12 m13 m14 m15) dx tp (eW tk_M sg (400 * r + l) E0) (lg.set r (nI (l + E0.length))) cl cs rd op' sk wd sd th fa ws kp li pr hb fi st im jf jx mk) = _ := cx
    rw [cx', pb_bs, tC_no hm hq1 blk_id hN a5 a6, tE_0 (by omega)]
    unfold tT
    simp only [pb_l2, pb_ll, nI_add, pb_mul, if_true, if_false, pb_bs, pb_b2n, pb_bz0, pb_bz1, pb_10, pb_01, pn_is, pn_g0, pn_g1, pn_g2, pn_g3, pn_g4, pn_g5, pn_g6, pn_g9, mL_g0, mL_p0, mL_g1, mL_p1, mL_g2, mL_p2, mL_g3, mL_p3, mL_g4, mL_p4, mL_g5, mL_p5, mL_g6, mL_p6, mL_g7, mL_p7, mL_g8, mL_p8, mL_g9, mL_p9, mL_g10, mL_p10, mL_g11, mL_p11, mL_g12, mL_p12, mL_g13, mL_p13, mL_g14, mL_p14, mL_g15, mL_p15, ins, s1]
    rw [a4, eW_app E0 (ob b 12 ++ ob u 13) sg (400 * r + l), show (E0 ++ (ob b 12 ++ ob u 13)).length = E0.length + (nb b + nb u) from by rw [List.length_append, List.length_append, ob_len, ob_len], show 400 * r + l + E0.length = 400 * r + (l + E0.length) by omega, show l + (E0.length + (nb b + nb u)) = l + E0.length + nb b + nb u by omega]
end MV9
