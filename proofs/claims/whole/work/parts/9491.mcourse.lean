/-! ===== rule: the model's course, from a fact on, from behind a fact on ===== -/
def tT (N : Nat) (e : ss_Hp ⊕ ss_Hp) : Option (Int32 × ss_Hp) := match e with
  | (.inl h) => (mm_M_isInside N (some 118) h).bind fun v3 => if v3 = 0 then (mm_M_settles N (some 118) (1 : Int32) h).bind fun h5 => some ((1 : Int32), h5) else ss_b2 (mm_M_see N (some 118) h) fun _ h7 => (ss_gi h7 (some 118) 12 2).bind fun v8 => ss_b2 (mm_M_fails N (some 118) (0 : Int32) v8 h7) fun v9 h10 => (ss_bz v9).bind fun v11 => some (v11, h10)
  | (.inr h) => some ((0 : Int32), h)
def cQ (N Q : Nat) (h : ss_Hp) : Option ss_Hp := if ss_is h (some 118) 12 = true then (mm_M_settles N (some 118) (3 : Int32) h).bind fun h1 => (ss_lp (mm_M_closes0_b5 N (some 118)) Q h1).bind fun x => some x else none
def tC (N : Nat) (h28 : ss_Hp) : Option ((Int32 × ss_Hp) ⊕ (ss_Hp ⊕ ss_Hp)) := ss_b2 (mm_M_isWord N (some 118) (6385252 : Int64) h28) fun v29 h30 => if v29 = 0 then ss_b2 (mm_M_isWord N (some 118) (28530 : Int64) h30) fun v32 h33 => if v32 = 0 then mm_M_tested_j54 N (some 118) (0 : Int32) h33 else mm_M_tested_j49 N (some 118) h33 else mm_M_tested_j49 N (some 118) h30
def tE (N Q : Nat) (x : Option ((Int32 × ss_Hp) ⊕ (ss_Hp ⊕ ss_Hp))) : Option (Int32 × ss_Hp) := x.bind fun s => match s with
  | .inl s' => (ss_lp (mm_M_tested_b12 N (some 118)) Q s').bind (tT N)
  | .inr e => tT N e
def AF (N Q1 Q : Nat) (h : ss_Hp) : Option (Int32 × ss_Hp) := (cQ N Q1 h).bind fun h28 => tE N Q (tC N h28)
def fR (N : Nat) (e : ss_Hp ⊕ ss_Hp ⊕ ss_Hp) : Option (Int32 × ss_Hp) := match e with
  | (.inl h) => ss_b2 (mm_M_compare N (some 118) h) fun v1 h2 => (ss_bz v1).bind fun v3 => some (v3, h2)
  | (.inr (.inl h)) => some ((0 : Int32), h)
  | (.inr (.inr h)) => some ((0 : Int32), h)
def FA (N Q1 Q : Nat) (h : ss_Hp) : Option (Int32 × ss_Hp) := ss_b2 ((ss_lp (mm_M_fact_b2 N (some 118)) Q1 (nI 1, h)).bind (fR N)) fun v25 h26 => if v25 = 0 then tT N (.inr h26) else AF N N Q h26
theorem snoc_cs : ∀ S : List Nat, S = [] ∨ ∃ L b, S = L ++ [b] := by
  intro S
  induction S with
  | nil => exact Or.inl rfl
  | cons a t ih =>
    rcases ih with e | ⟨L, b, e⟩
    · exact Or.inr ⟨[], a, by rw [e]; rfl⟩
    · exact Or.inr ⟨a :: L, b, by rw [e]; rfl⟩
section ME
variable {n : Nat} {f : Nat → ss_Cl} {m0 m1 m2 m3 m4 m5 m6 m7 m8 m9 m10 m11 m12 m13 m14 m15 : Int32} {dx : Int64} {tp : List Int32} {sg : List Int32} {lg : List Int32} {cl : List Int32} {cs : List Int32} {rd : List Int32} {op : List Int32} {sk : List Int64} {wd : List Int64} {sd : List Int32} {th : List Int32} {fa : List Int32} {ws : List Int32} {kp : List Int32} {li : List Int32} {pr : List Int32} {hb : List Int32} {fi : List Int32} {st : List Int32} {im : List Int32} {jf : List Int32} {jx : List Int32} {mk : List Int32} {N : Nat}
variable {T : List Nat} {r p p0 q k l d x a Q Q1 : Nat} {S B : List Nat} {o : Bool}
theorem FA_lp : (ss_lp (mm_M_tested_b12 N (some 118)) (Q + 1) (nI 1, (pm_M n f (mL m0 m1 m2 m3 m4 m5 m6 m7 m8 m9 m10 m11 m12 m13 m14 m15) dx tp sg lg cl cs rd op sk wd sd th fa ws kp li pr hb fi st im jf jx mk))).bind (tT N) = FA N N Q (pm_M n f (mL m0 m1 m2 m3 m4 m5 m6 m7 m8 m9 m10 m11 m12 m13 m14 m15) dx tp sg lg cl cs rd op sk wd sd th fa ws kp li pr hb fi st im jf jx mk) := by
  have ef : mm_M_fact N (some 118) (pm_M n f (mL m0 m1 m2 m3 m4 m5 m6 m7 m8 m9 m10 m11 m12 m13 m14 m15) dx tp sg lg cl cs rd op sk wd sd th fa ws kp li pr hb fi st im jf jx mk) = (ss_lp (mm_M_fact_b2 N (some 118)) N (nI 1, (pm_M n f (mL m0 m1 m2 m3 m4 m5 m6 m7 m8 m9 m10 m11 m12 m13 m14 m15) dx tp sg lg cl cs rd op sk wd sd th fa ws kp li pr hb fi st im jf jx mk))).bind (fR N) := by
    unfold mm_M_fact
    rw [if_pos pn_is]
    refine congrArg (Option.bind _) (funext fun e => ?_)
    rcases e with h | h | h <;> rfl
  have h10 : ¬ nI 1 = (0 : Int32) := of_eq_false pb_10
  have eb : mm_M_tested_b12 N (some 118) (nI 1, (pm_M n f (mL m0 m1 m2 m3 m4 m5 m6 m7 m8 m9 m10 m11 m12 m13 m14 m15) dx tp sg lg cl cs rd op sk wd sd th fa ws kp li pr hb fi st im jf jx mk)) = ss_b2 (mm_M_fact N (some 118) (pm_M n f (mL m0 m1 m2 m3 m4 m5 m6 m7 m8 m9 m10 m11 m12 m13 m14 m15) dx tp sg lg cl cs rd op sk wd sd th fa ws kp li pr hb fi st im jf jx mk)) fun v25 h26 => if v25 = 0 then (some (Sum.inr (Sum.inr h26)) : Option ((Int32 × ss_Hp) ⊕ (ss_Hp ⊕ ss_Hp))) else (cQ N N h26).bind fun h28 => tC N h28 := by
    rfl
  unfold FA
  rw [← ef, ss_lp, eb]
  cases mm_M_fact N (some 118) (pm_M n f (mL m0 m1 m2 m3 m4 m5 m6 m7 m8 m9 m10 m11 m12 m13 m14 m15) dx tp sg lg cl cs rd op sk wd sd th fa ws kp li pr hb fi st im jf jx mk) with
  | none => rfl
  | some z =>
    obtain ⟨v, h26⟩ := z
    rw [pb_b2n, pb_b2n]
    by_cases hv : v = 0
    · rw [if_pos hv, if_pos hv]
      rfl
    · rw [if_neg hv, if_neg hv]
      unfold AF
      cases cQ N N h26 with
      | none => rfl
      | some h28 =>
        rw [pb_bs, pb_bs]
        unfold tE
        cases tC N h28 with
        | none => rfl
        | some s => rcases s with s' | e <;> rfl
theorem M_set (X : ss_Hp) {aI : Int32} (hX : ss_is X (some 118) 12 = true) : mm_M_settles N (some 118) aI X = ss_lp (mm_M_settles_b0 N (some 118) aI) N X := by
  unfold mm_M_settles
  rw [if_pos hX]
  cases ss_lp (mm_M_settles_b0 N (some 118) aI) N X <;> rfl
theorem st_p11 (hs : stk op (S ++ [11])) (ha : a ≤ 3) (hr : r < 6) (hlg : lg.length = 7) (hsg : sg.length = 2400) (hl : l < 400) : mm_M_settles_b0 N (some 118) (nI a) (pm_M n f (mL m0 m1 m2 m3 m4 (nI r) m6 m7 m8 (nI (S.length + 1)) m10 m11 m12 m13 m14 m15) dx tp sg (lg.set r (nI l)) cl cs rd op sk wd sd th fa ws kp li pr hb fi st im jf jx mk) = some (.inl (pm_M n f (mL m0 m1 m2 m3 m4 (nI r) m6 (m7 - nI 1) m8 (nI S.length) m10 m11 m12 m13 m14 m15) dx tp (sg.set (400 * r + l) (tk_M (11, 0))) (lg.set r (nI (l + 1))) cl cs rd op sk wd sd th fa ws kp li pr hb fi st im jf jx mk)) := by
  obtain ⟨s1, s2, s3⟩ := stk_pop hs
  have hop := s1.1
  have c0 : (nI (S.length + 1) ≤ nI 0) = False := eq_false (nI_ge (by omega) (by omega))
  have e1 : nI (S.length + 1) - nI 1 = nI S.length := by rw [pb_subn (by omega)]; rfl
  have c1 : (nI 3 < nI a) = False := eq_false (nI_nlt ha (by omega))
  have s11 : mm_M_strength N (nI 11) = some (nI 3) := M_sth (x := 11) (by omega)
  unfold mm_M_settles_b0
  simp (disch := ((try simp only [List.length_set, sl_len]); omega)) only [pb_l2, pb_ll, nI_add, pb_mul, if_true, if_false, pb_bs, pb_b2n, pb_bz0, pb_bz1, pb_10, pb_01, pn_is, pn_g0, pn_g1, pn_g2, pn_g3, pn_g4, pn_g5, pn_g6, pn_g9, mL_g0, mL_p0, mL_g1, mL_p1, mL_g2, mL_p2, mL_g3, mL_p3, mL_g4, mL_p4, mL_g5, mL_p5, mL_g6, mL_p6, mL_g7, mL_p7, mL_g8, mL_p8, mL_g9, mL_p9, mL_g10, mL_p10, mL_g11, mL_p11, mL_g12, mL_p12, mL_g13, mL_p13, mL_g14, mL_p14, mL_g15, mL_p15, pn_a6, c0, e1, s2, s11, c1, M_puts hr hlg hsg hl]
theorem st_ex (hr : r < 6) (hlg : lg.length = 7) (ha : a < 4) : ∀ S l sg m7, stk op S → (∀ y, y ∈ S → y < 1000) → sg.length = 2400 → l + S.length ≤ 400 → ∃ e, ∀ Q, S.length < Q → ss_lp (mm_M_settles_b0 N (some 118) (nI a)) Q (pm_M n f (mL m0 m1 m2 m3 m4 (nI r) m6 m7 m8 (nI S.length) m10 m11 m12 m13 m14 m15) dx tp sg (lg.set r (nI l)) cl cs rd op sk wd sd th fa ws kp li pr hb fi st im jf jx mk) = some e := by
  have key : ∀ j S l sg m7, S.length = j → stk op S → (∀ y, y ∈ S → y < 1000) → sg.length = 2400 → l + S.length ≤ 400 → ∃ e, ∀ Q, S.length < Q → ss_lp (mm_M_settles_b0 N (some 118) (nI a)) Q (pm_M n f (mL m0 m1 m2 m3 m4 (nI r) m6 m7 m8 (nI S.length) m10 m11 m12 m13 m14 m15) dx tp sg (lg.set r (nI l)) cl cs rd op sk wd sd th fa ws kp li pr hb fi st im jf jx mk) = some e := by
    intro j
    induction j with
    | zero =>
      intro S l sg m7 hj hs hS hsg hl
      refine ⟨(pm_M n f (mL m0 m1 m2 m3 m4 (nI r) m6 m7 m8 (nI S.length) m10 m11 m12 m13 m14 m15) dx tp sg (lg.set r (nI l)) cl cs rd op sk wd sd th fa ws kp li pr hb fi st im jf jx mk), fun Q hQ => lp_out ?_ (by omega)⟩
      rw [hj]
      exact st_stop0
    | succ j ih =>
      intro S l sg m7 hj hs hS hsg hl
      rcases snoc_cs S with e | ⟨L, b, e⟩
      · rw [e] at hj
        cases hj
      · subst e
        have hL : (L ++ [b]).length = L.length + 1 := by simp
        rw [hL] at hj hl ⊢
        have hb1000 := hS b (by simp)
        by_cases hst : sth b < a
        · exact ⟨_, fun Q hQ => lp_out (st_stop hs hb1000 hst (by omega)) (by omega)⟩
        · have hl4 : l < 400 := by omega
          have pop := stk_pop hs
          have hS' : ∀ y, y ∈ L → y < 1000 := fun y hy => hS y (by simp [hy])
          by_cases h11 : b = 11
          · subst h11
            have ha3 : a ≤ 3 := by omega
            obtain ⟨e, he⟩ := ih L (l + 1) (sg.set (400 * r + l) (tk_M (11, 0))) (m7 - nI 1) (by omega) pop.1 hS' (by rw [List.length_set]; exact hsg) (by omega)
            refine ⟨e, fun Q hQ => ?_⟩
            obtain ⟨Q, rfl⟩ : ∃ Q', Q = Q' + 1 := ⟨Q - 1, by omega⟩
            exact pb_step (st_p11 hs ha3 hr hlg hsg hl4) (he Q (by omega))
          · obtain ⟨e, he⟩ := ih L (l + 1) (sg.set (400 * r + l) (tk_M (b, 0))) m7 (by omega) pop.1 hS' (by rw [List.length_set]; exact hsg) (by omega)
            refine ⟨e, fun Q hQ => ?_⟩
            obtain ⟨Q, rfl⟩ : ∃ Q', Q = Q' + 1 := ⟨Q - 1, by omega⟩
            exact pb_step (st_pop hs hb1000 h11 (by omega) hr hlg hsg hl4) (he Q (by omega))
  intro S l sg m7
  exact key S.length S l sg m7 rfl
/-- a NOT on top is settled first -/
theorem AF_11 (hN : 500 < N) (hs : stk op (S ++ [11])) (hS : ∀ y, y ∈ S → y < 1000) (hr : r < 6) (hlg : lg.length = 7) (hsg : sg.length = 2400) (hl : l + S.length + 1 ≤ 400) : AF N Q1 Q (pm_M n f (mL m0 m1 m2 m3 m4 (nI r) m6 (nI (d + 1)) m8 (nI (S.length + 1)) m10 m11 m12 m13 m14 m15) dx tp sg (lg.set r (nI l)) cl cs rd op sk wd sd th fa ws kp li pr hb fi st im jf jx mk) = AF N Q1 Q (pm_M n f (mL m0 m1 m2 m3 m4 (nI r) m6 (nI d) m8 (nI S.length) m10 m11 m12 m13 m14 m15) dx tp (sg.set (400 * r + l) (tk_M (11, 0))) (lg.set r (nI (l + 1))) cl cs rd op sk wd sd th fa ws kp li pr hb fi st im jf jx mk) := by
  have e2 : nI (d + 1) - nI 1 = nI d := by rw [pb_subn (by omega)]; rfl
  have pop := stk_pop hs
  obtain ⟨e, he⟩ := st_ex (N := N) (n := n) (f := f) (m0 := m0) (m1 := m1) (m2 := m2) (m3 := m3) (m4 := m4) (m6 := m6) (m8 := m8) (m10 := m10) (m11 := m11) (m12 := m12) (m13 := m13) (m14 := m14) (m15 := m15) (dx := dx) (tp := tp) (cl := cl) (cs := cs) (rd := rd) (sk := sk) (wd := wd) (sd := sd) (th := th) (fa := fa) (ws := ws) (kp := kp) (li := li) (pr := pr) (hb := hb) (fi := fi) (st := st) (im := im) (jf := jf) (jx := jx) (mk := mk) (a := 3) hr hlg (by omega) S (l + 1) (sg.set (400 * r + l) (tk_M (11, 0))) (nI d) pop.1 hS (by rw [List.length_set]; exact hsg) (by omega)
  have hlt := pop.2.2
  unfold AF cQ
  rw [if_pos pn_is, if_pos pn_is]
  have s1 : mm_M_settles N (some 118) (3 : Int32) (pm_M n f (mL m0 m1 m2 m3 m4 (nI r) m6 (nI d) m8 (nI S.length) m10 m11 m12 m13 m14 m15) dx tp (sg.set (400 * r + l) (tk_M (11, 0))) (lg.set r (nI (l + 1))) cl cs rd op sk wd sd th fa ws kp li pr hb fi st im jf jx mk) = some e := (M_set _ pn_is).trans (he N (by omega))
  have s2 : mm_M_settles N (some 118) (3 : Int32) (pm_M n f (mL m0 m1 m2 m3 m4 (nI r) m6 (nI (d + 1)) m8 (nI (S.length + 1)) m10 m11 m12 m13 m14 m15) dx tp sg (lg.set r (nI l)) cl cs rd op sk wd sd th fa ws kp li pr hb fi st im jf jx mk) = some e := by
    refine (M_set _ pn_is).trans ?_
    obtain ⟨Q', hQ'⟩ : ∃ Q', N = Q' + 1 := ⟨N - 1, by omega⟩
    have stp := st_p11 (N := N) (n := n) (f := f) (m0 := m0) (m1 := m1) (m2 := m2) (m3 := m3) (m4 := m4) (m6 := m6) (m7 := nI (d + 1)) (m8 := m8) (m10 := m10) (m11 := m11) (m12 := m12) (m13 := m13) (m14 := m14) (m15 := m15) (dx := dx) (tp := tp) (cl := cl) (cs := cs) (rd := rd) (sk := sk) (wd := wd) (sd := sd) (th := th) (fa := fa) (ws := ws) (kp := kp) (li := li) (pr := pr) (hb := hb) (fi := fi) (st := st) (im := im) (jf := jf) (jx := jx) (mk := mk) (a := 3) hs (by omega) hr hlg hsg (show l < 400 by omega)
    rw [e2] at stp
    have h2 := pb_step stp (he Q' (by omega))
    rw [← hQ'] at h2
    exact h2
  rw [s1, s2]
/-- the top is neither NOT ..: nothing is settled at 3 -/
def top3 (S : List Nat) (a : Nat) : Prop := S = [] ∨ ∃ L b, S = L ++ [b] ∧ b < 1000 ∧ sth b < a
theorem st_no (hN : 500 < N) (hs : stk op S) (ht : top3 S a) (ha : a < 5) : mm_M_settles N (some 118) (nI a) (pm_M n f (mL m0 m1 m2 m3 m4 m5 m6 m7 m8 (nI S.length) m10 m11 m12 m13 m14 m15) dx tp sg lg cl cs rd op sk wd sd th fa ws kp li pr hb fi st im jf jx mk) = some (pm_M n f (mL m0 m1 m2 m3 m4 m5 m6 m7 m8 (nI S.length) m10 m11 m12 m13 m14 m15) dx tp sg lg cl cs rd op sk wd sd th fa ws kp li pr hb fi st im jf jx mk) := by
  rw [M_set _ pn_is]
  refine lp_out ?_ (by omega)
  rcases ht with e | ⟨L, b, e, h1, h2⟩
  · rw [e]
    exact st_stop0
  · subst e
    have hL : (L ++ [b]).length = L.length + 1 := by simp
    rw [hL]
    exact st_stop hs h1 h2 ha
theorem cQ_exit (hm : mz tp T) (hp : p ≤ T.length) (h0 : p0 ≤ T.length) (hb0 : blk T p0 = blk T p) (hN : 500 < N) (hs : stk op S) (hS : ∀ y, y ∈ S → y < 1000) (ht : top3 S 3) (hQ : 0 < Q1) (hx : ¬ isX T (blk T p) 93 ∨ ¬ 91 ∈ S) : cQ N Q1 (pm_M n f (mL (nI T.length) m1 (nI p0) m3 m4 m5 m6 m7 m8 (nI S.length) m10 m11 m12 m13 m14 m15) dx tp sg lg cl cs rd op sk wd sd th fa ws kp li pr hb fi st im jf jx mk) = some (pm_M n f (mL (nI T.length) m1 (nI (blk T p)) m3 m4 m5 m6 m7 m8 (nI S.length) m10 m11 m12 m13 m14 m15) dx tp sg lg cl cs rd op sk wd sd th fa ws kp li pr hb fi st im jf jx mk) := by
  have s3 : mm_M_settles N (some 118) (3 : Int32) (pm_M n f (mL (nI T.length) m1 (nI p0) m3 m4 m5 m6 m7 m8 (nI S.length) m10 m11 m12 m13 m14 m15) dx tp sg lg cl cs rd op sk wd sd th fa ws kp li pr hb fi st im jf jx mk) = some (pm_M n f (mL (nI T.length) m1 (nI p0) m3 m4 m5 m6 m7 m8 (nI S.length) m10 m11 m12 m13 m14 m15) dx tp sg lg cl cs rd op sk wd sd th fa ws kp li pr hb fi st im jf jx mk) := st_no (a := 3) hN hs ht (by omega)
  unfold cQ
  rw [if_pos pn_is, s3, pb_bs]
  have hSd : ∀ i, i < S.length → S.getD i 0 < 1000 := fun i hi => hS _ (by rw [List.getD_eq_getElem?_getD, List.getElem?_eq_getElem hi]; exact List.getElem_mem hi)
  have b5 : mm_M_closes0_b5 N (some 118) (pm_M n f (mL (nI T.length) m1 (nI p0) m3 m4 m5 m6 m7 m8 (nI S.length) m10 m11 m12 m13 m14 m15) dx tp sg lg cl cs rd op sk wd sd th fa ws kp li pr hb fi st im jf jx mk) = some (.inr (pm_M n f (mL (nI T.length) m1 (nI (blk T p)) m3 m4 m5 m6 m7 m8 (nI S.length) m10 m11 m12 m13 m14 m15) dx tp sg lg cl cs rd op sk wd sd th fa ws kp li pr hb fi st im jf jx mk)) := by
    unfold mm_M_closes0_b5
    by_cases h93 : isX T (blk T p) 93
    · have hn := hx.resolve_left (fun y => y h93)
      have s93 : se T (blk T p) = nI 93 := by rw [se_0 h93.1, h93.2]
      have ins := M_ins (N := N) (n := n) (f := f) (m0 := nI T.length) (m1 := m1) (m2 := nI (blk T p)) (m3 := m3) (m4 := m4) (m5 := m5) (m6 := m6) (m7 := m7) (m8 := m8) (m10 := m10) (m11 := m11) (m12 := m12) (m13 := m13) (m14 := m14) (m15 := m15) (dx := dx) (tp := tp) (sg := sg) (lg := lg) (cl := cl) (cs := cs) (rd := rd) (sk := sk) (wd := wd) (sd := sd) (th := th) (fa := fa) (ws := ws) (kp := kp) (li := li) (pr := pr) (hb := hb) (fi := fi) (st := st) (im := im) (jf := jf) (jx := jx) (mk := mk) hs hSd hN
      rw [if_neg hn] at ins
      simp only [pb_l2, pb_ll, nI_add, pb_mul, if_true, if_false, pb_bs, pb_b2n, pb_bz0, pb_bz1, pb_10, pb_01, pn_is, pn_g0, pn_g1, pn_g2, pn_g3, pn_g4, pn_g5, pn_g6, pn_g9, mL_g0, mL_p0, mL_g1, mL_p1, mL_g2, mL_p2, mL_g3, mL_p3, mL_g4, mL_p4, mL_g5, mL_p5, mL_g6, mL_p6, mL_g7, mL_p7, mL_g8, mL_p8, mL_g9, mL_p9, mL_g10, mL_p10, mL_g11, mL_p11, mL_g12, mL_p12, mL_g13, mL_p13, mL_g14, mL_p14, mL_g15, mL_p15, M_see2 hm h0 hb0 hN, s93, ins]
    · have s93 := se_ne (x := 93) hm hp (by omega) h93
      simp only [pb_l2, pb_ll, nI_add, pb_mul, if_true, if_false, pb_bs, pb_b2n, pb_bz0, pb_bz1, pb_10, pb_01, pn_is, pn_g0, pn_g1, pn_g2, pn_g3, pn_g4, pn_g5, pn_g6, pn_g9, mL_g0, mL_p0, mL_g1, mL_p1, mL_g2, mL_p2, mL_g3, mL_p3, mL_g4, mL_p4, mL_g5, mL_p5, mL_g6, mL_p6, mL_g7, mL_p7, mL_g8, mL_p8, mL_g9, mL_p9, mL_g10, mL_p10, mL_g11, mL_p11, mL_g12, mL_p12, mL_g13, mL_p13, mL_g14, mL_p14, mL_g15, mL_p15, M_see2 hm h0 hb0 hN, s93]
  rw [lp_out b5 hQ]
  rfl
end ME
