/-! ===== rule: the model reads tests as the class does ===== -/
def fOut (N : Nat) (T : List Nat) (r l d : Nat) (sg : List Int32) (S : List Nat) (MF : Int32 → Int32 → Int32 → Int32 → Int32 → Int32 → Int32 → List Int32 → List Int32 → ss_Hp) (o : Option (Int32 × ss_Hp)) : rR → Prop
  | .inl F => ∃ z2 z4 z6 z7 z9 zl op sg', sgK r sg sg' ∧ op.length = 400 ∧ o = some (nI 0, MF z2 (nI F) z4 z6 z7 z9 zl op sg')
  | .inr (p', E, k') => ∃ p1 z4 op Q1 Q, p1 ≤ T.length ∧ blk T p1 = blk T p' ∧ stk op S ∧ T.length - p' < Q1 ∧ T.length - p' < Q ∧ o = AF N Q1 Q (MF (nI p1) (nI 0) z4 (nI k') (nI d) (nI S.length) (nI (l + E.length)) op (eW tk_M sg (400 * r + l) E))
def xOut (N : Nat) (T : List Nat) (r l d : Nat) (sg : List Int32) (S : List Nat) (MF : Int32 → Int32 → Int32 → Int32 → Int32 → Int32 → Int32 → List Int32 → List Int32 → ss_Hp) (o : Option (Int32 × ss_Hp)) : rR → Prop
  | .inl F => ∃ z2 z4 z6 z7 z9 zl op sg', sgK r sg sg' ∧ op.length = 400 ∧ o = some (nI 0, MF z2 (nI F) z4 z6 z7 z9 zl op sg')
  | .inr (p', E, k') => ∃ p1 z4 op Q1 Q E0 u b, p1 ≤ T.length ∧ blk T p1 = blk T p' ∧ stk op (S ++ (sb u 13 ++ sb b 12)) ∧ E = E0 ++ (ob b 12 ++ ob u 13) ∧ ¬ wis T (blk T p') rw_and ∧ ¬ wis T (blk T p') rw_or ∧ T.length - p' < Q1 ∧ T.length - p' < Q ∧ l + E0.length + nb u + nb b + S.length ≤ p' ∧ o = AF N Q1 Q (MF (nI p1) (nI 0) z4 (nI k') (nI d) (nI (S.length + nb u + nb b)) (nI (l + E0.length)) op (eW tk_M sg (400 * r + l) E0))
def fRel (N : Nat) (T : List Nat) (r d : Nat) (MF : Int32 → Int32 → Int32 → Int32 → Int32 → Int32 → Int32 → List Int32 → List Int32 → ss_Hp) (f : Nat → Nat → rR) : Prop := ∀ p p0 k l sg z4 op S Q1 Q, p ≤ T.length → p0 ≤ T.length → blk T p0 = blk T p → sg.length = 2400 → k ≤ 60 → l + S.length ≤ p → stk op S → (∀ y, y ∈ S → y < 1000) → T.length - p + 2 ≤ Q1 → T.length - p < Q → fOut N T r l d sg S MF (FA N Q1 Q (MF (nI p0) (nI 0) z4 (nI k) (nI d) (nI S.length) (nI l) op sg)) (f p k)
def xRel (N : Nat) (T : List Nat) (r d : Nat) (MF : Int32 → Int32 → Int32 → Int32 → Int32 → Int32 → Int32 → List Int32 → List Int32 → ss_Hp) (f : Nat → Nat → rR) : Prop := ∀ p p0 k l sg z4 op S Q1 Q, p ≤ T.length → p0 ≤ T.length → blk T p0 = blk T p → sg.length = 2400 → k ≤ 60 → l + S.length ≤ p → stk op S → (∀ y, y ∈ S → y < 1000) → (S = [] ∨ ∃ L, S = L ++ [91]) → T.length - p + 2 ≤ Q1 → T.length - p < Q → xOut N T r l d sg S MF (FA N Q1 Q (MF (nI p0) (nI 0) z4 (nI k) (nI d) (nI S.length) (nI l) op sg)) (f p k)
theorem xOut_pre {N : Nat} {T : List Nat} {r l d : Nat} {sg : List Int32} {S : List Nat} {MF : Int32 → Int32 → Int32 → Int32 → Int32 → Int32 → Int32 → List Int32 → List Int32 → ss_Hp} {o : Option (Int32 × ss_Hp)} {E : List (Nat × Nat)} {q : rR} (hh : xOut N T r (l + E.length) d (eW tk_M sg (400 * r + l) E) S MF o q) : xOut N T r l d sg S MF o (rr_pre E q) := by
  rcases q with F | ⟨p', E', k'⟩
  · obtain ⟨z2, z4, z6, z7, z9, zl, op, sg', s1, s2⟩ := hh
    exact ⟨z2, z4, z6, z7, z9, zl, op, sg', sgK_e s1, s2⟩
  · obtain ⟨p1, z4, op, Q1, Q, E0, u, b, a1, a2, a3, a4, a5, a6, a7, a8, a9, a10⟩ := hh
    refine ⟨p1, z4, op, Q1, Q, E ++ E0, u, b, a1, a2, a3, by rw [a4, List.append_assoc], a5, a6, a7, a8, by rw [List.length_append]; omega, ?_⟩
    rw [eW_app, List.length_append, ← Nat.add_assoc, Nat.add_assoc (400 * r)]
    exact a10
theorem sb_len {b : Bool} {x : Nat} : (sb b x).length = nb b := by cases b <;> rfl
theorem t3_all {S : List Nat} {u b : Bool} (h : S = [] ∨ ∃ L, S = L ++ [91]) : top3 (S ++ (sb u 13 ++ sb b 12)) 3 := by
  cases b with
  | true => exact Or.inr ⟨S ++ sb u 13, 12, by rw [List.append_assoc]; rfl, by omega, by decide⟩
  | false =>
    cases u with
    | true => exact Or.inr ⟨S, 13, rfl, by omega, by decide⟩
    | false =>
      show top3 (S ++ []) 3
      rw [List.append_nil]
      rcases h with e | ⟨L, e⟩
      · exact Or.inl e
      · exact Or.inr ⟨L, 91, e, by omega, by decide⟩
theorem t3_two {S : List Nat} {u : Bool} (h : S = [] ∨ ∃ L, S = L ++ [91]) : top3 (S ++ sb u 13) 2 := by
  cases u with
  | true => exact Or.inr ⟨S, 13, rfl, by omega, by decide⟩
  | false =>
    show top3 (S ++ []) 2
    rw [List.append_nil]
    rcases h with e | ⟨L, e⟩
    · exact Or.inl e
    · exact Or.inr ⟨L, 91, e, by omega, by decide⟩
theorem t3_one {S : List Nat} (h : S = [] ∨ ∃ L, S = L ++ [91]) : top3 S 1 := by
  rcases h with e | ⟨L, e⟩
  · exact Or.inl e
  · exact Or.inr ⟨L, 91, e, by omega, by decide⟩
theorem mem_sb {S : List Nat} {u b : Bool} (h : ∀ y, y ∈ S → y < 1000) : ∀ y, y ∈ S ++ (sb u 13 ++ sb b 12) → y < 1000 := fun y hy => by
  rcases List.mem_append.mp hy with q | q
  · exact h y q
  · rcases List.mem_append.mp q with q | q
    · cases u with
      | true => have e : y = 13 := by simpa [sb] using q
                omega
      | false => cases q
    · cases b with
      | true => have e : y = 12 := by simpa [sb] using q
                omega
      | false => cases q
theorem mem_1 {S : List Nat} {x : Nat} (hx : x < 1000) (h : ∀ y, y ∈ S → y < 1000) : ∀ y, y ∈ S ++ [x] → y < 1000 := fun y hy => by
  rcases List.mem_append.mp hy with q | q
  · exact h y q
  · have e : y = x := by simpa using q
    omega
theorem nx_93 {T W : List Nat} {q x : Nat} (hw : wis T q W) (hl : 0 < W.length) (hx : W.getD 0 0 = x) (hx93 : x ≠ 93) : ¬ isX T q 93 := fun y => by
  have h1 := hw.2 0 hl
  rw [Nat.add_zero, y.2, hx] at h1
  omega
section MX
variable {n : Nat} {f : Nat → ss_Cl} {m0 m1 m2 m3 m4 m5 m6 m7 m8 m9 m10 m11 m12 m13 m14 m15 : Int32} {dx : Int64} {tp : List Int32} {sg : List Int32} {lg : List Int32} {cl : List Int32} {cs : List Int32} {rd : List Int32} {op : List Int32} {sk : List Int64} {wd : List Int64} {sd : List Int32} {th : List Int32} {fa : List Int32} {ws : List Int32} {kp : List Int32} {li : List Int32} {pr : List Int32} {hb : List Int32} {fi : List Int32} {st : List Int32} {im : List Int32} {jf : List Int32} {jx : List Int32} {mk : List Int32} {N : Nat}
variable {T : List Nat} {r p p0 q k l d x a Q Q1 : Nat} {S B : List Nat} {u b : Bool}
theorem FA_st {X X' : ss_Hp} (h : mm_M_fact_b2 N (some 118) (nI 1, X) = some (.inl (nI 1, X'))) : FA N (Q1 + 1) Q X = FA N Q1 Q X' := by
  unfold FA
  rw [ss_lp, h]
theorem FA_fl {X H : ss_Hp} (hQ : 0 < Q1) (h : mm_M_fact_b2 N (some 118) (nI 1, X) = some (.inr (.inr (.inl H))) ∨ mm_M_fact_b2 N (some 118) (nI 1, X) = some (.inr (.inr (.inr H)))) : FA N Q1 Q X = some (nI 0, H) := by
  unfold FA
  rcases h with h | h
  · rw [lp_out h hQ]
    rfl
  · rw [lp_out h hQ]
    rfl
theorem FA_cm {X : ss_Hp} (h : mm_M_fact_b2 N (some 118) (nI 1, X) = some (.inl (nI 0, (pm_M n f (mL m0 m1 m2 m3 m4 m5 m6 m7 m8 m9 m10 m11 m12 m13 m14 m15) dx tp sg lg cl cs rd op sk wd sd th fa ws kp li pr hb fi st im jf jx mk)))) : FA N (Q1 + 1 + 1) Q X = ss_b2 (ss_b2 (mm_M_compare N (some 118) (pm_M n f (mL m0 m1 m2 m3 m4 m5 m6 m7 m8 m9 m10 m11 m12 m13 m14 m15) dx tp sg lg cl cs rd op sk wd sd th fa ws kp li pr hb fi st im jf jx mk)) fun v1 h2 => (ss_bz v1).bind fun v3 => some (v3, h2)) fun v25 h26 => if v25 = 0 then tT N (.inr h26) else AF N N Q h26 := by
  unfold FA
  rw [pb_step h (pb_stop fb_0)]
  rfl
/-- a bracket closes -/
theorem AF_cl (hm : mz tp T) (hp : p ≤ T.length) (h0 : p0 ≤ T.length) (hb0 : blk T p0 = blk T p) (hN : 500 < N) (hr : r < 6) (hlg : lg.length = 7) (hsg : sg.length = 2400) (h93 : isX T (blk T p) 93) (hs : stk op ((B ++ [91]) ++ (sb u 13 ++ sb b 12))) (hB : ∀ y, y ∈ B → y < 1000) (hl : l + nb b + nb u + B.length ≤ 400) : AF N (Q1 + 1) Q (pm_M n f (mL (nI T.length) m1 (nI p0) m3 m4 (nI r) m6 (nI (d + 1)) m8 (nI (B.length + 1 + nb u + nb b)) m10 m11 m12 m13 m14 m15) dx tp sg (lg.set r (nI l)) cl cs rd op sk wd sd th fa ws kp li pr hb fi st im jf jx mk) = AF N Q1 Q (pm_M n f (mL (nI T.length) m1 (nI (blk T p + 1)) m3 m4 (nI r) m6 (nI d) m8 (nI B.length) m10 m11 m12 m13 m14 m15) dx tp (eW tk_M sg (400 * r + l) (ob b 12 ++ ob u 13)) (lg.set r (nI (l + nb b + nb u))) cl cs rd op sk wd sd th fa ws kp li pr hb fi st im jf jx mk) := by
  have hB1 : (B ++ [91]).length = B.length + 1 := by simp
  have hLS : ((B ++ [91]) ++ (sb u 13 ++ sb b 12)).length = B.length + 1 + nb u + nb b := by rw [List.length_append, hB1, List.length_append, sb_len, sb_len]; omega
  have hmem := mem_sb (u := u) (b := b) (mem_1 (x := 91) (by omega) hB)
  have hSd : ∀ i, i < ((B ++ [91]) ++ (sb u 13 ++ sb b 12)).length → ((B ++ [91]) ++ (sb u 13 ++ sb b 12)).getD i 0 < 1000 := fun i hi => hmem _ (by rw [List.getD_eq_getElem?_getD, List.getElem?_eq_getElem hi]; exact List.getElem_mem hi)
  have sB : stk op B := by
    refine ⟨hs.1, by have := hs.2.1; rw [hLS] at this; omega, fun i hi => ?_⟩
    have h1 := hs.2.2 i (by rw [hLS]; omega)
    rw [h1, List.append_assoc, List.getD_eq_getElem?_getD, List.getElem?_append_left hi, List.getD_eq_getElem?_getD]
  have hB4 := sB.2.1
  obtain ⟨e, he⟩ := st_ex (N := N) (n := n) (f := f) (m0 := nI T.length) (m1 := m1) (m2 := nI (blk T p + 1)) (m3 := m3) (m4 := m4) (m6 := m6) (m8 := m8) (m10 := m10) (m11 := m11) (m12 := m12) (m13 := m13) (m14 := m14) (m15 := m15) (dx := dx) (tp := tp) (cl := cl) (cs := cs) (rd := rd) (sk := sk) (wd := wd) (sd := sd) (th := th) (fa := fa) (ws := ws) (kp := kp) (li := li) (pr := pr) (hb := hb) (fi := fi) (st := st) (im := im) (jf := jf) (jx := jx) (mk := mk) (op := op) (a := 3) hr hlg (by omega) B (l + nb b + nb u) (eW tk_M sg (400 * r + l) (ob b 12 ++ ob u 13)) (nI d) sB hB (by rw [eW_len]; exact hsg) hl
  have s93 : se T (blk T p) = nI 93 := by rw [se_0 h93.1, h93.2]
  have i91 : 91 ∈ (B ++ [91]) ++ (sb u 13 ++ sb b 12) := by simp
  have ins := M_ins (N := N) (n := n) (f := f) (m0 := nI T.length) (m1 := m1) (m2 := nI (blk T p)) (m3 := m3) (m4 := m4) (m5 := nI r) (m6 := m6) (m7 := nI (d + 1)) (m8 := m8) (m10 := m10) (m11 := m11) (m12 := m12) (m13 := m13) (m14 := m14) (m15 := m15) (dx := dx) (tp := tp) (sg := sg) (lg := lg.set r (nI l)) (cl := cl) (cs := cs) (rd := rd) (sk := sk) (wd := wd) (sd := sd) (th := th) (fa := fa) (ws := ws) (kp := kp) (li := li) (pr := pr) (hb := hb) (fi := fi) (st := st) (im := im) (jf := jf) (jx := jx) (mk := mk) hs hSd hN
  rw [if_pos i91, hLS] at ins
  have s3 : mm_M_settles N (some 118) (3 : Int32) (pm_M n f (mL (nI T.length) m1 (nI p0) m3 m4 (nI r) m6 (nI (d + 1)) m8 (nI (B.length + 1 + nb u + nb b)) m10 m11 m12 m13 m14 m15) dx tp sg (lg.set r (nI l)) cl cs rd op sk wd sd th fa ws kp li pr hb fi st im jf jx mk) = some (pm_M n f (mL (nI T.length) m1 (nI p0) m3 m4 (nI r) m6 (nI (d + 1)) m8 (nI (B.length + 1 + nb u + nb b)) m10 m11 m12 m13 m14 m15) dx tp sg (lg.set r (nI l)) cl cs rd op sk wd sd th fa ws kp li pr hb fi st im jf jx mk) := by
    rw [← hLS]
    exact st_no (a := 3) hN hs (t3_all (Or.inr ⟨B, rfl⟩)) (by omega)
  have s1 := M_s1 (N := N) (l := l) (n := n) (f := f) (m0 := nI T.length) (m1 := m1) (m2 := nI (blk T p)) (m3 := m3) (m4 := m4) (m6 := m6) (m7 := nI (d + 1)) (m8 := m8) (m10 := m10) (m11 := m11) (m12 := m12) (m13 := m13) (m14 := m14) (m15 := m15) (dx := dx) (tp := tp) (cl := cl) (cs := cs) (rd := rd) (sk := sk) (wd := wd) (sd := sd) (th := th) (fa := fa) (ws := ws) (kp := kp) (li := li) (pr := pr) (hb := hb) (fi := fi) (st := st) (im := im) (jf := jf) (jx := jx) (mk := mk) hN hs (t3_one (Or.inr ⟨B, rfl⟩)) hr hlg hsg (by omega)
  rw [hB1] at s1
  have e1 : nI (B.length + 1) - nI 1 = nI B.length := by rw [pb_subn (by omega)]; rfl
  have e2 : nI (d + 1) - nI 1 = nI d := by rw [pb_subn (by omega)]; rfl
  have s3' : mm_M_settles N (some 118) (nI 3) (pm_M n f (mL (nI T.length) m1 (nI (blk T p + 1)) m3 m4 (nI r) m6 (nI d) m8 (nI B.length) m10 m11 m12 m13 m14 m15) dx tp (eW tk_M sg (400 * r + l) (ob b 12 ++ ob u 13)) (lg.set r (nI (l + nb b + nb u))) cl cs rd op sk wd sd th fa ws kp li pr hb fi st im jf jx mk) = some e := (M_set _ pn_is).trans (he N (by omega))
  have b5 : mm_M_closes0_b5 N (some 118) (pm_M n f (mL (nI T.length) m1 (nI p0) m3 m4 (nI r) m6 (nI (d + 1)) m8 (nI (B.length + 1 + nb u + nb b)) m10 m11 m12 m13 m14 m15) dx tp sg (lg.set r (nI l)) cl cs rd op sk wd sd th fa ws kp li pr hb fi st im jf jx mk) = some (.inl e) := by
    unfold mm_M_closes0_b5
    simp only [pb_l2, pb_ll, nI_add, pb_mul, if_true, if_false, pb_bs, pb_b2n, pb_bz0, pb_bz1, pb_10, pb_01, pn_is, pn_g0, pn_g1, pn_g2, pn_g3, pn_g4, pn_g5, pn_g6, pn_g9, mL_g0, mL_p0, mL_g1, mL_p1, mL_g2, mL_p2, mL_g3, mL_p3, mL_g4, mL_p4, mL_g5, mL_p5, mL_g6, mL_p6, mL_g7, mL_p7, mL_g8, mL_p8, mL_g9, mL_p9, mL_g10, mL_p10, mL_g11, mL_p11, mL_g12, mL_p12, mL_g13, mL_p13, mL_g14, mL_p14, mL_g15, mL_p15, M_see2 hm h0 hb0 hN, s93, ins, s1, e1, e2, s3']
  have s3'' : mm_M_settles N (some 118) (3 : Int32) (pm_M n f (mL (nI T.length) m1 (nI (blk T p + 1)) m3 m4 (nI r) m6 (nI d) m8 (nI B.length) m10 m11 m12 m13 m14 m15) dx tp (eW tk_M sg (400 * r + l) (ob b 12 ++ ob u 13)) (lg.set r (nI (l + nb b + nb u))) cl cs rd op sk wd sd th fa ws kp li pr hb fi st im jf jx mk) = some e := s3'
  unfold AF cQ
  rw [if_pos pn_is, if_pos pn_is, s3, s3'', pb_bs, pb_bs, ss_lp, b5]
theorem M_fact (hm : mz tp T) (hN : 500 < N) (hr : r < 6) (hlg : lg.length = 7) {b9 : Nat} {full : Bool} {fK tK : Nat → Nat → rR} (hd : d ≤ 10) (hfd : full = decide (10 ≤ d)) (hf : full = false → fRel N T r (d + 1) (fun z2 z3 z4 z6 z7 z9 zl op sg => (pm_M n f (mL (nI T.length) m1 z2 z3 z4 (nI r) z6 z7 m8 z9 m10 m11 m12 m13 m14 m15) dx tp sg (lg.set r zl) cl cs rd op sk wd sd th fa ws kp li pr hb fi st im jf jx mk)) fK) (htt : full = false → xRel N T r (d + 1) (fun z2 z3 z4 z6 z7 z9 zl op sg => (pm_M n f (mL (nI T.length) m1 z2 z3 z4 (nI r) z6 z7 m8 z9 m10 m11 m12 m13 m14 m15) dx tp sg (lg.set r zl) cl cs rd op sk wd sd th fa ws kp li pr hb fi st im jf jx mk)) tK) (gf : full = false → ∀ p c, p ≤ T.length → gR T p b9 b01 (fK p c)) (gt : full = false → ∀ p c, p ≤ T.length → gR T p b9 b01 (tK p c)) : fRel N T r d (fun z2 z3 z4 z6 z7 z9 zl op sg => (pm_M n f (mL (nI T.length) m1 z2 z3 z4 (nI r) z6 z7 m8 z9 m10 m11 m12 m13 m14 m15) dx tp sg (lg.set r zl) cl cs rd op sk wd sd th fa ws kp li pr hb fi st im jf jx mk)) (rF T full fK tK) := by
  intro p p0 k l sg z4 op S Q1 Q hp h0 hb0 hsg hk hl hs hS hQ1 hQ
  have hT := hm.1
  have hq := blk_ub hp
  have hbl := blk_le (T := T) (p := p)
  show fOut N T r l d sg S (fun z2 z3 z4 z6 z7 z9 zl op sg => (pm_M n f (mL (nI T.length) m1 z2 z3 z4 (nI r) z6 z7 m8 z9 m10 m11 m12 m13 m14 m15) dx tp sg (lg.set r zl) cl cs rd op sk wd sd th fa ws kp li pr hb fi st im jf jx mk)) (FA N Q1 Q (pm_M n f (mL (nI T.length) m1 (nI p0) (nI 0) z4 (nI r) (nI k) (nI d) m8 (nI S.length) m10 m11 m12 m13 m14 m15) dx tp sg (lg.set r (nI l)) cl cs rd op sk wd sd th fa ws kp li pr hb fi st im jf jx mk)) _
  unfold rF
  by_cases hn : wis T (blk T p) rw_not
  · rw [if_pos hn]
    have hen := en_w hn rw_not_wl hq
    have hub := eL_ub hq
    cases full with
    | true =>
      rw [if_pos rfl]
      have hd10 := of_decide_eq_true hfd.symm
      have ed : d = 10 := by omega
      subst ed
      refine ⟨nI (blk T p), z4, nI k, nI 10, nI S.length, nI l, op, sg, ⟨hsg, fun _ _ => rfl⟩, hs.1, ?_⟩
      exact FA_fl (by omega) (Or.inl (fb_nof hm h0 hp hb0 hN hn))
    | false =>
      rw [if_neg Bool.false_ne_true]
      have hd10 := of_decide_eq_false hfd.symm
      obtain ⟨Q1, rfl⟩ : ∃ Q', Q1 = Q' + 1 := ⟨Q1 - 1, by omega⟩
      have hSl : S.length < 400 := by omega
      have hL : (S ++ [11]).length = S.length + 1 := by simp
      rw [FA_st (fb_not hm h0 hp hb0 hN hn hs hSl (by omega))]
      have R : fOut N T r l (d + 1) sg (S ++ [11]) (fun z2 z3 z4 z6 z7 z9 zl op sg => (pm_M n f (mL (nI T.length) m1 z2 z3 z4 (nI r) z6 z7 m8 z9 m10 m11 m12 m13 m14 m15) dx tp sg (lg.set r zl) cl cs rd op sk wd sd th fa ws kp li pr hb fi st im jf jx mk)) (FA N Q1 Q (pm_M n f (mL (nI T.length) m1 (nI (eL T (blk T p))) (nI 0) z4 (nI r) (nI k) (nI (d + 1)) m8 (nI (S ++ [11]).length) m10 m11 m12 m13 m14 m15) dx tp sg (lg.set r (nI l)) cl cs rd (op.set S.length (nI 11)) sk wd sd th fa ws kp li pr hb fi st im jf jx mk)) (fK (eL T (blk T p)) k) := hf rfl (eL T (blk T p)) (eL T (blk T p)) k l sg z4 (op.set S.length (nI 11)) (S ++ [11]) Q1 Q hub hub rfl hsg hk (by rw [hL]; omega) (stk_push hs hSl) (mem_1 (by omega) hS) (by omega) (by omega)
      rw [hL] at R
      have G := gf rfl (eL T (blk T p)) k hub
      generalize fK (eL T (blk T p)) k = rr at R G ⊢
      rcases rr with F | ⟨p1, E1, k1⟩
      · exact R
      · obtain ⟨p2, z4', op', Q1', Q', a1, a2, a3, a4, a5, a6⟩ := R
        obtain ⟨g1, g2, g3, -⟩ := G
        have hs1 : (eW tk_M sg (400 * r + l) E1).length = 2400 := by rw [eW_len]; exact hsg
        refine ⟨p2, z4', op', Q1', Q', a1, a2, (stk_pop a3).1, a4, a5, ?_⟩
        rw [a6, hL]
        have e11 := AF_11 (N := N) (Q1 := Q1') (Q := Q') (d := d) (l := l + E1.length) (n := n) (f := f) (m0 := nI T.length) (m1 := m1) (m2 := nI p2) (m3 := nI 0) (m4 := z4') (m6 := nI k1) (m8 := m8) (m10 := m10) (m11 := m11) (m12 := m12) (m13 := m13) (m14 := m14) (m15 := m15) (dx := dx) (tp := tp) (cl := cl) (cs := cs) (rd := rd) (op := op') (sk := sk) (wd := wd) (sd := sd) (th := th) (fa := fa) (ws := ws) (kp := kp) (li := li) (pr := pr) (hb := hb) (fi := fi) (st := st) (im := im) (jf := jf) (jx := jx) (mk := mk) hN a3 hS hr hlg hs1 (by omega)
        refine e11.trans ?_
        rw [eW_app, List.length_append, show 400 * r + l + E1.length = 400 * r + (l + E1.length) by omega]
        rfl
  · rw [if_neg hn]
    by_cases hx : isX T (blk T p) 91
    · rw [if_pos hx]
      have hx1 := hx.1
      cases full with
      | true =>
        rw [if_pos rfl]
        have hd10 := of_decide_eq_true hfd.symm
        have ed : d = 10 := by omega
        subst ed
        refine ⟨nI (blk T p), z4, nI k, nI 10, nI S.length, nI l, op, sg, ⟨hsg, fun _ _ => rfl⟩, hs.1, ?_⟩
        exact FA_fl (by omega) (Or.inr (fb_brf hm h0 hp hb0 hN hn hx))
      | false =>
        rw [if_neg Bool.false_ne_true]
        have hd10 := of_decide_eq_false hfd.symm
        obtain ⟨Q1, rfl⟩ : ∃ Q', Q1 = Q' + 1 := ⟨Q1 - 1, by omega⟩
        have hSl : S.length < 400 := by omega
        have hL : (S ++ [91]).length = S.length + 1 := by simp
        rw [FA_st (fb_br hm h0 hp hb0 hN hn hx hs hSl (by omega))]
        have R : xOut N T r l (d + 1) sg (S ++ [91]) (fun z2 z3 z4 z6 z7 z9 zl op sg => (pm_M n f (mL (nI T.length) m1 z2 z3 z4 (nI r) z6 z7 m8 z9 m10 m11 m12 m13 m14 m15) dx tp sg (lg.set r zl) cl cs rd op sk wd sd th fa ws kp li pr hb fi st im jf jx mk)) (FA N Q1 Q (pm_M n f (mL (nI T.length) m1 (nI (blk T p + 1)) (nI 0) z4 (nI r) (nI k) (nI (d + 1)) m8 (nI (S ++ [91]).length) m10 m11 m12 m13 m14 m15) dx tp sg (lg.set r (nI l)) cl cs rd (op.set S.length (nI 91)) sk wd sd th fa ws kp li pr hb fi st im jf jx mk)) (tK (blk T p + 1) k) := htt rfl (blk T p + 1) (blk T p + 1) k l sg z4 (op.set S.length (nI 91)) (S ++ [91]) Q1 Q hx.1 hx.1 rfl hsg hk (by rw [hL]; omega) (stk_push hs hSl) (mem_1 (by omega) hS) (Or.inr ⟨S, rfl⟩) (by omega) (by omega)
        rw [hL] at R
        have G := gt rfl (blk T p + 1) k hx.1
        generalize tK (blk T p + 1) k = rr at R G ⊢
        rcases rr with F | ⟨p1, E1, k1⟩
        · exact R
        · obtain ⟨p2, z4', op', Q1', Q', E0, u, b, a1, a2, a3, a4, a5, a6, a7, a8, a9, a10⟩ := R
          obtain ⟨g1, g2, g3, -⟩ := G
          have hs1 : (eW tk_M sg (400 * r + l) E0).length = 2400 := by rw [eW_len]; exact hsg
          have nu := nb_le (b := u)
          have nbb := nb_le (b := b)
          have hq1 := blk_ub g2
          rw [hL] at a9 a10
          show fOut N T r l d sg S (fun z2 z3 z4 z6 z7 z9 zl op sg => (pm_M n f (mL (nI T.length) m1 z2 z3 z4 (nI r) z6 z7 m8 z9 m10 m11 m12 m13 m14 m15) dx tp sg (lg.set r zl) cl cs rd op sk wd sd th fa ws kp li pr hb fi st im jf jx mk)) _ (rr_pre E1 (@ite _ (isX T (blk T p1) 93) (Classical.propDecidable _) _ _))
          by_cases hy : isX T (blk T p1) 93
          · rw [if_pos hy]
            have hy1 := hy.1
            obtain ⟨Q1', rfl⟩ : ∃ Q'', Q1' = Q'' + 1 := ⟨Q1' - 1, by omega⟩
            have hbl1 := blk_le (T := T) (p := p1)
            have sS : stk op' S := by
              have hLS : ((S ++ [91]) ++ (sb u 13 ++ sb b 12)).length = S.length + 1 + nb u + nb b := by rw [List.length_append, hL, List.length_append, sb_len, sb_len]; omega
              refine ⟨a3.1, by omega, fun i hi => ?_⟩
              have h1 := a3.2.2 i (by rw [hLS]; omega)
              rw [h1, List.append_assoc, List.getD_eq_getElem?_getD, List.getElem?_append_left hi, List.getD_eq_getElem?_getD]
            refine ⟨blk T p1 + 1, z4', op', Q1', Q', hy1, rfl, sS, by omega, by omega, ?_⟩
            rw [a10]
            have ecl := AF_cl (N := N) (Q1 := Q1') (Q := Q') (d := d) (l := l + E0.length) (p := p1) (p0 := p2) (n := n) (f := f) (m1 := m1) (m3 := nI 0) (m4 := z4') (m6 := nI k1) (m8 := m8) (m10 := m10) (m11 := m11) (m12 := m12) (m13 := m13) (m14 := m14) (m15 := m15) (dx := dx) (cl := cl) (cs := cs) (rd := rd) (op := op') (sk := sk) (wd := wd) (sd := sd) (th := th) (fa := fa) (ws := ws) (kp := kp) (li := li) (pr := pr) (hb := hb) (fi := fi) (st := st) (im := im) (jf := jf) (jx := jx) (mk := mk) hm g2 a1 a2 hN hr hlg hs1 hy a3 hS (by omega)
            refine ecl.trans ?_
            rw [List.append_nil, a4, eW_app E0 (ob b 12 ++ ob u 13) sg (400 * r + l), show (E0 ++ (ob b 12 ++ ob u 13)).length = E0.length + (nb b + nb u) from by rw [List.length_append, List.length_append, ob_len, ob_len], show 400 * r + l + E0.length = 400 * r + (l + E0.length) by omega, show l + (E0.length + (nb b + nb u)) = l + E0.length + nb b + nb u by omega]
          · rw [if_neg hy]
            have hmem := mem_sb (u := u) (b := b) (mem_1 (x := 91) (by omega) hS)
            have hLS : ((S ++ [91]) ++ (sb u 13 ++ sb b 12)).length = S.length + 1 + nb u + nb b := by rw [List.length_append, hL, List.length_append, sb_len, sb_len]; omega
            have cx := cQ_exit (N := N) (Q1 := Q1') (p := p1) (p0 := p2) (n := n) (f := f) (m1 := m1) (m3 := nI 0) (m4 := z4') (m5 := nI r) (m6 := nI k1) (m7 := nI (d + 1)) (m8 := m8) (m10 := m10) (m11 := m11) (m12 := m12) (m13 := m13) (m14 := m14) (m15 := m15) (dx := dx) (sg := eW tk_M sg (400 * r + l) E0) (lg := lg.set r (nI (l + E0.length))) (cl := cl) (cs := cs) (rd := rd) (op := op') (sk := sk) (wd := wd) (sd := sd) (th := th) (fa := fa) (ws := ws) (kp := kp) (li := li) (pr := pr) (hb := hb) (fi := fi) (st := st) (im := im) (jf := jf) (jx := jx) (mk := mk) hm g2 a1 a2 hN a3 hmem (t3_all (Or.inr ⟨S, rfl⟩)) (by omega) (Or.inl hy)
            rw [hLS] at cx
            have hSd : ∀ i, i < ((S ++ [91]) ++ (sb u 13 ++ sb b 12)).length → ((S ++ [91]) ++ (sb u 13 ++ sb b 12)).getD i 0 < 1000 := fun i hi => hmem _ (by rw [List.getD_eq_getElem?_getD, List.getElem?_eq_getElem hi]; exact List.getElem_mem hi)
            have ins := M_ins (N := N) (n := n) (f := f) (m0 := nI T.length) (m1 := m1) (m2 := nI (blk T p1)) (m3 := nI 0) (m4 := z4') (m5 := nI r) (m6 := nI k1) (m7 := nI (d + 1)) (m8 := m8) (m10 := m10) (m11 := m11) (m12 := m12) (m13 := m13) (m14 := m14) (m15 := m15) (dx := dx) (tp := tp) (sg := eW tk_M sg (400 * r + l) E0) (lg := lg.set r (nI (l + E0.length))) (cl := cl) (cs := cs) (rd := rd) (op := op') (sk := sk) (wd := wd) (sd := sd) (th := th) (fa := fa) (ws := ws) (kp := kp) (li := li) (pr := pr) (hb := hb) (fi := fi) (st := st) (im := im) (jf := jf) (jx := jx) (mk := mk) a3 hSd hN
            rw [if_pos (by simp), hLS] at ins
            refine ⟨nI (blk T p1), z4', nI k1, nI (d + 1), nI (S.length + 1 + nb u + nb b), nI (l + E0.length), op', eW tk_M sg (400 * r + l) E0, ⟨hs1, fun i hi => eW_lo _ _ _ _ (by omega)⟩, a3.1, ?_⟩
            rw [a10]
            unfold AF
            rw [cx, pb_bs, tC_no hm hq1 blk_id hN a5 a6, tE_0 (by omega)]
            unfold tT
            simp only [pb_l2, pb_ll, nI_add, pb_mul, if_true, if_false, pb_bs, pb_b2n, pb_bz0, pb_bz1, pb_10, pb_01, pn_is, pn_g0, pn_g1, pn_g2, pn_g3, pn_g4, pn_g5, pn_g6, pn_g9, mL_g0, mL_p0, mL_g1, mL_p1, mL_g2, mL_p2, mL_g3, mL_p3, mL_g4, mL_p4, mL_g5, mL_p5, mL_g6, mL_p6, mL_g7, mL_p7, mL_g8, mL_p8, mL_g9, mL_p9, mL_g10, mL_p10, mL_g11, mL_p11, mL_g12, mL_p12, mL_g13, mL_p13, mL_g14, mL_p14, mL_g15, mL_p15, ins, M_seeb hm g2 hN, M_fail]
            rfl
    · rw [if_neg hx]
      obtain ⟨Q1, rfl⟩ : ∃ Q', Q1 = Q' + 1 + 1 := ⟨Q1 - 2, by omega⟩
      rw [FA_cm (fb_el hm h0 hp hb0 hN hn hx)]
      have C := M_cmp (p := p) (p0 := blk T p) (k := k) (l := l) (m4 := z4) (sg := sg) (n := n) (f := f) (m1 := m1) (m7 := nI d) (m8 := m8) (m9 := nI S.length) (m10 := m10) (m11 := m11) (m12 := m12) (m13 := m13) (m14 := m14) (m15 := m15) (dx := dx) (cl := cl) (cs := cs) (rd := rd) (op := op) (sk := sk) (wd := wd) (sd := sd) (th := th) (fa := fa) (ws := ws) (kp := kp) (li := li) (pr := pr) (hb := hb) (fi := fi) (st := st) (im := im) (jf := jf) (jx := jx) (mk := mk) hm hN hr hlg hp hq blk_id hsg hk (by omega)
      have G := gR_C (c := k) hT hp
      generalize rC T p k = rr at C G ⊢
      rcases rr with F | ⟨p1, E1, k1⟩
      · obtain ⟨z2, z4', z6, zl, sg', s1, s2⟩ := C
        refine ⟨z2, z4', z6, nI d, nI S.length, zl, op, sg', s1, hs.1, ?_⟩
        rw [s2]
        rfl
      · obtain ⟨p2, z4', a1, a2, a3⟩ := C
        refine ⟨p2, z4', op, N, Q, a1, a2, hs, by omega, ?_, ?_⟩
        · have g1 := G.1
          omega
        · rw [a3]
          rfl
end MX
