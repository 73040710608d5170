/-! ===== signs, going on, the told valley's cells ===== -/
section SQ
variable {h : ss_Hp} {a b c d e : Int32} {N : Nat}
def sgn (T : List Nat) (q c : Nat) : Prop := q < T.length ∧ tk T q = 3 ∧ en T q = q + 1 ∧ T.getD q 0 = c
theorem tk_cs {T : List Nat} {q : Nat} : (¬ q < T.length ∧ tk T q = 0) ∨ (q < T.length ∧ (tk T q = 1 ∨ tk T q = 2 ∨ tk T q = 3)) := by
  unfold tk
  by_cases c1 : q < T.length
  · rw [if_pos c1]
    refine Or.inr ⟨c1, ?_⟩
    by_cases c2 : isL T q = true
    · rw [if_pos c2]; exact Or.inl rfl
    · rw [if_neg c2]
      by_cases c3 : isD T q = true
      · rw [if_pos c3]; exact Or.inr (Or.inl rfl)
      · rw [if_neg c3]; exact Or.inr (Or.inr rfl)
  · rw [if_neg c1]; exact Or.inl ⟨c1, rfl⟩
theorem tk_lt {T : List Nat} {q : Nat} : tk T q < 4 := by
  have := tk_cs (T := T) (q := q)
  omega
theorem en_cs {T : List Nat} {q : Nat} : (¬ q < T.length ∧ en T q = q) ∨ (q < T.length ∧ q < en T q ∧ en T q ≤ T.length) := by
  unfold en
  by_cases c1 : q < T.length
  · rw [if_pos c1]
    refine Or.inr ⟨c1, ?_⟩
    by_cases c2 : isL T q = true
    · rw [if_pos c2]
      have h1 := sc_le (P := isL T) (L := T.length) (p := q + 1)
      have h2 := sc_ub (P := isL T) (L := T.length) (p := q + 1) c1
      exact ⟨h1, h2⟩
    · rw [if_neg c2]
      by_cases c3 : isD T q = true
      · rw [if_pos c3]
        have h1 := sc_le (P := isD T) (L := T.length) (p := q + 1)
        have h2 := sc_ub (P := isD T) (L := T.length) (p := q + 1) c1
        exact ⟨h1, h2⟩
      · rw [if_neg c3]
        by_cases c4 : an T q
        · rw [if_pos c4]
          have := c4.2.1
          exact ⟨by omega, by omega⟩
        · rw [if_neg c4]
          exact ⟨by omega, by omega⟩
  · rw [if_neg c1]; exact Or.inl ⟨c1, rfl⟩
theorem en_ub {T : List Nat} {q : Nat} (hq : q ≤ T.length) : en T q ≤ T.length := by
  have := en_cs (T := T) (q := q)
  omega
theorem en_le {T : List Nat} {q : Nat} : q ≤ en T q := by
  have := en_cs (T := T) (q := q)
  omega
theorem en_gt {T : List Nat} {q : Nat} (hq : q < T.length) : q < en T q := by
  have := en_cs (T := T) (q := q)
  omega
theorem sgn_of {T : List Nat} {q c : Nat} (hq : q < T.length) (hc : T.getD q 0 = c) (h1 : c < 48 ∨ (57 < c ∧ c < 97) ∨ 122 < c) (h2 : c ≠ 60 ∧ c ≠ 62) : sgn T q c := by
  have l0 : isL T q = false := decide_eq_false (fun x => by omega)
  have d0 : isD T q = false := decide_eq_false (fun x => by omega)
  have a0 : ¬ an T q := fun x => by
    have := x.1
    omega
  refine ⟨hq, ?_, ?_, hc⟩
  · unfold tk
    rw [if_pos hq, l0, d0, if_neg Bool.false_ne_true, if_neg Bool.false_ne_true]
  · unfold en
    rw [if_pos hq, l0, d0, if_neg Bool.false_ne_true, if_neg Bool.false_ne_true, if_neg a0]
theorem T_sign1 {T : List Nat} {F : Int32} {p c : Nat} (ht : tz h T) (hp : p ≤ T.length) (hs : sgn T (blk T p) c) : mm_T_isSign N (some 1) (nI c) (lx h T F p) = some (nI 1) := by
  obtain ⟨s1, s2, s3, s4⟩ := hs
  have e := tz_ai (a := nI T.length) (b := F) (c := nI 3) (d := nI (blk T p)) (e := nI (blk T p + 1)) ht s1
  rw [s4] at e
  unfold mm_T_isSign mm_T_isSign_j38 mm_T_isSign_j39 lx
  rw [s2, s3]
  simp only [pb_l2, pb_ll, nI_add, pb_mul, if_true, if_false, pb_bs, pb_b2n, pb_bz0, pb_bz1, pb_10, pb_01, tH_is, tH_g0, tH_g1, tH_g2, tH_g3, tH_g4, tH_p0, tH_p1, tH_p2, tH_p3, tH_p4, tH_r, e]
theorem T_sign0 {T : List Nat} {F : Int32} {p c : Nat} (ht : tz h T) (hp : p ≤ T.length) (hc : c < 256) (hs : ¬ sgn T (blk T p) c) : mm_T_isSign N (some 1) (nI c) (lx h T F p) = some (nI 0) := by
  have hl := ht.1
  have hq := blk_ub hp
  have hq2 := en_ub hq
  have hk := tk_lt (T := T) (q := blk T p)
  unfold mm_T_isSign mm_T_isSign_j38 mm_T_isSign_j39 lx
  by_cases c1 : tk T (blk T p) = 3
  · rw [c1]
    by_cases c2 : en T (blk T p) = blk T p + 1
    · rw [c2]
      have c3 : blk T p < T.length := by omega
      have hb := ht.2.1 _ c3
      have c4 : (nI (T.getD (blk T p) 0) = nI c) = False := pb_nn (fun x => hs ⟨c3, c1, c2, x⟩) (by omega) (by omega)
      simp only [pb_l2, pb_ll, nI_add, pb_mul, if_true, if_false, pb_bs, pb_b2n, pb_bz0, pb_bz1, pb_10, pb_01, tH_is, tH_g0, tH_g1, tH_g2, tH_g3, tH_g4, tH_p0, tH_p1, tH_p2, tH_p3, tH_p4, tH_r, tz_ai ht c3, c4]
    · have d2 : (nI (en T (blk T p)) = nI (blk T p + 1)) = False := pb_nn c2 (by omega) (by omega)
      simp only [pb_l2, pb_ll, nI_add, pb_mul, if_true, if_false, pb_bs, pb_b2n, pb_bz0, pb_bz1, pb_10, pb_01, tH_is, tH_g0, tH_g1, tH_g2, tH_g3, tH_g4, tH_p0, tH_p1, tH_p2, tH_p3, tH_p4, tH_r, d2]
  · have d1 : (nI (tk T (blk T p)) = nI 3) = False := pb_nn c1 (by omega) (by omega)
    simp only [pb_l2, pb_ll, nI_add, pb_mul, if_true, if_false, pb_bs, pb_b2n, pb_bz0, pb_bz1, pb_10, pb_01, tH_is, tH_g0, tH_g1, tH_g2, tH_g3, tH_g4, tH_p0, tH_p1, tH_p2, tH_p3, tH_p4, tH_r, d1]
theorem T_go0 {T : List Nat} {p : Nat} (hp : ¬ blk T p < T.length) : mm_T_goesOn N (some 1) (lx h T (nI 0) p) = some (nI 0, lx h T (nI 0) p) := by
  have e1 : tk T (blk T p) = 0 := by unfold tk; rw [if_neg hp]
  have e2 := T_wellx (h := h) (N := N) (T := T) (p := p)
  unfold mm_T_goesOn mm_T_goesOn_j14
  unfold lx at e2 ⊢
  rw [e1] at e2 ⊢
  simp only [pb_l2, pb_ll, nI_add, pb_mul, if_true, if_false, pb_bs, pb_b2n, pb_bz0, pb_bz1, pb_10, pb_01, tH_is, tH_g0, tH_g1, tH_g2, tH_g3, tH_g4, tH_p0, tH_p1, tH_p2, tH_p3, tH_p4, tH_r, e2]
theorem T_go1 {T : List Nat} {p : Nat} (ht : tz h T) (hp : p ≤ T.length) (hN : 500 < N) (hs : sgn T (blk T p) 59) : mm_T_goesOn N (some 1) (lx h T (nI 0) p) = some (nI 1, lx h T (nI 0) (blk T p + 1)) := by
  have e2 := T_wellx (h := h) (N := N) (T := T) (p := p)
  have e3 := T_sign1 (N := N) (F := nI 0) ht hp hs
  obtain ⟨s1, s2, s3, s4⟩ := hs
  have e4 := T_advance (b := nI 0) (c := nI 3) (d := nI (blk T p)) ht (show blk T p + 1 ≤ T.length by omega) hN
  unfold mm_T_goesOn mm_T_goesOn_j14
  unfold lx at e2 e3 ⊢
  rw [s2, s3] at e2 e3 ⊢
  have c0 : (nI 3 = nI 0) = False := pb_nn (by omega) (by omega) (by omega)
  simp only [pb_l2, pb_ll, nI_add, pb_mul, if_true, if_false, pb_bs, pb_b2n, pb_bz0, pb_bz1, pb_10, pb_01, tH_is, tH_g0, tH_g1, tH_g2, tH_g3, tH_g4, tH_p0, tH_p1, tH_p2, tH_p3, tH_p4, tH_r, e2, e3, c0, e4]
  rfl
theorem T_go2 {T : List Nat} {p : Nat} (ht : tz h T) (hp : p ≤ T.length) (hq : blk T p < T.length) (hs : ¬ sgn T (blk T p) 59) : mm_T_goesOn N (some 1) (lx h T (nI 0) p) = some (nI 0, fl h T p 0) := by
  have e2 := T_wellx (h := h) (N := N) (T := T) (p := p)
  have e3 := T_sign0 (N := N) (F := nI 0) ht hp (show 59 < 256 by omega) hs
  have e4 := T_failx (h := h) (N := N) (w := 0) (T := T) (p := p)
  have hk := tk_lt (T := T) (q := blk T p)
  have c1 : tk T (blk T p) ≠ 0 := by
    have := tk_cs (T := T) (q := blk T p)
    omega
  have c0 : (nI (tk T (blk T p)) = nI 0) = False := pb_nn c1 (by omega) (by omega)
  unfold mm_T_goesOn mm_T_goesOn_j14
  unfold lx at e2 e3 e4 ⊢
  simp only [pb_l2, pb_ll, nI_add, pb_mul, if_true, if_false, pb_bs, pb_b2n, pb_bz0, pb_bz1, pb_10, pb_01, tH_is, tH_g0, tH_g1, tH_g2, tH_g3, tH_g4, tH_p0, tH_p1, tH_p2, tH_p3, tH_p4, tH_r, e2, e3, c0, e4]
theorem T_go3 {T : List Nat} {p w : Nat} (hp : p ≤ T.length) (hT : T.length ≤ 400) (hw : w < 8) : mm_T_goesOn N (some 1) (fl h T p w) = some (nI 0, fl h T p w) := by
  have e2 := T_wellf (h := h) (N := N) hp hT hw
  unfold mm_T_goesOn mm_T_goesOn_j14
  unfold fl at e2 ⊢
  simp only [pb_l2, pb_ll, nI_add, pb_mul, if_true, if_false, pb_bs, pb_b2n, pb_bz0, pb_bz1, pb_10, pb_01, tH_is, tH_g0, tH_g1, tH_g2, tH_g3, tH_g4, tH_p0, tH_p1, tH_p2, tH_p3, tH_p4, tH_r, e2]
end SQ
/-! the new valley -/
def wH (h : ss_Hp) (v : Nat) (J0 J1 J2 J3 J4 : Int32) (own str bes nds sn wl : List Int32) : ss_Hp := (h.1, fun p => if p = v then (5, [J0, J1, J2, J3, J4], [], [some (v + 1), some (v + 2), some (v + 3), some (v + 4), some (v + 5)]) else if p = v + 1 then (20, own, [], []) else if p = v + 2 then (20, str, [], []) else if p = v + 3 then (20, bes, [], []) else if p = v + 4 then (20, nds, [], []) else if p = v + 5 then (0, [nI 0, nI 0, nI 0, nI 0], [], [some (v + 6), some (v + 7)]) else if p = v + 6 then (20, sn, [], []) else if p = v + 7 then (20, wl, [], []) else h.2 p)
section VQ
variable {h : ss_Hp} {v : Nat} {J0 J1 J2 J3 J4 : Int32} {own str bes nds sn wl : List Int32} {a b c d e1 : Int32} {N : Nat} {T : List Nat} {F : Int32} {p w : Nat}
theorem wH_0 : (wH h v J0 J1 J2 J3 J4 own str bes nds sn wl).2 v = (5, [J0, J1, J2, J3, J4], [], [some (v + 1), some (v + 2), some (v + 3), some (v + 4), some (v + 5)]) := if_pos rfl
theorem wH_1 : (wH h v J0 J1 J2 J3 J4 own str bes nds sn wl).2 (v + 1) = (20, own, [], []) := by
  show (if v + 1 = v then _ else if v + 1 = v + 1 then _ else if v + 1 = v + 2 then _ else if v + 1 = v + 3 then _ else if v + 1 = v + 4 then _ else if v + 1 = v + 5 then _ else if v + 1 = v + 6 then _ else if v + 1 = v + 7 then _ else _) = _
  rw [if_neg (show ¬ v + 1 = v by omega), if_pos rfl]
theorem wH_2 : (wH h v J0 J1 J2 J3 J4 own str bes nds sn wl).2 (v + 2) = (20, str, [], []) := by
  show (if v + 2 = v then _ else if v + 2 = v + 1 then _ else if v + 2 = v + 2 then _ else if v + 2 = v + 3 then _ else if v + 2 = v + 4 then _ else if v + 2 = v + 5 then _ else if v + 2 = v + 6 then _ else if v + 2 = v + 7 then _ else _) = _
  rw [if_neg (show ¬ v + 2 = v by omega), if_neg (show ¬ v + 2 = v + 1 by omega), if_pos rfl]
theorem wH_3 : (wH h v J0 J1 J2 J3 J4 own str bes nds sn wl).2 (v + 3) = (20, bes, [], []) := by
  show (if v + 3 = v then _ else if v + 3 = v + 1 then _ else if v + 3 = v + 2 then _ else if v + 3 = v + 3 then _ else if v + 3 = v + 4 then _ else if v + 3 = v + 5 then _ else if v + 3 = v + 6 then _ else if v + 3 = v + 7 then _ else _) = _
  rw [if_neg (show ¬ v + 3 = v by omega), if_neg (show ¬ v + 3 = v + 1 by omega), if_neg (show ¬ v + 3 = v + 2 by omega), if_pos rfl]
theorem wH_4 : (wH h v J0 J1 J2 J3 J4 own str bes nds sn wl).2 (v + 4) = (20, nds, [], []) := by
  show (if v + 4 = v then _ else if v + 4 = v + 1 then _ else if v + 4 = v + 2 then _ else if v + 4 = v + 3 then _ else if v + 4 = v + 4 then _ else if v + 4 = v + 5 then _ else if v + 4 = v + 6 then _ else if v + 4 = v + 7 then _ else _) = _
  rw [if_neg (show ¬ v + 4 = v by omega), if_neg (show ¬ v + 4 = v + 1 by omega), if_neg (show ¬ v + 4 = v + 2 by omega), if_neg (show ¬ v + 4 = v + 3 by omega), if_pos rfl]
theorem wH_5 : (wH h v J0 J1 J2 J3 J4 own str bes nds sn wl).2 (v + 5) = (0, [nI 0, nI 0, nI 0, nI 0], [], [some (v + 6), some (v + 7)]) := by
  show (if v + 5 = v then _ else if v + 5 = v + 1 then _ else if v + 5 = v + 2 then _ else if v + 5 = v + 3 then _ else if v + 5 = v + 4 then _ else if v + 5 = v + 5 then _ else if v + 5 = v + 6 then _ else if v + 5 = v + 7 then _ else _) = _
  rw [if_neg (show ¬ v + 5 = v by omega), if_neg (show ¬ v + 5 = v + 1 by omega), if_neg (show ¬ v + 5 = v + 2 by omega), if_neg (show ¬ v + 5 = v + 3 by omega), if_neg (show ¬ v + 5 = v + 4 by omega), if_pos rfl]
theorem wH_6 : (wH h v J0 J1 J2 J3 J4 own str bes nds sn wl).2 (v + 6) = (20, sn, [], []) := by
  show (if v + 6 = v then _ else if v + 6 = v + 1 then _ else if v + 6 = v + 2 then _ else if v + 6 = v + 3 then _ else if v + 6 = v + 4 then _ else if v + 6 = v + 5 then _ else if v + 6 = v + 6 then _ else if v + 6 = v + 7 then _ else _) = _
  rw [if_neg (show ¬ v + 6 = v by omega), if_neg (show ¬ v + 6 = v + 1 by omega), if_neg (show ¬ v + 6 = v + 2 by omega), if_neg (show ¬ v + 6 = v + 3 by omega), if_neg (show ¬ v + 6 = v + 4 by omega), if_neg (show ¬ v + 6 = v + 5 by omega), if_pos rfl]
theorem wH_7 : (wH h v J0 J1 J2 J3 J4 own str bes nds sn wl).2 (v + 7) = (20, wl, [], []) := by
  show (if v + 7 = v then _ else if v + 7 = v + 1 then _ else if v + 7 = v + 2 then _ else if v + 7 = v + 3 then _ else if v + 7 = v + 4 then _ else if v + 7 = v + 5 then _ else if v + 7 = v + 6 then _ else if v + 7 = v + 7 then _ else _) = _
  rw [if_neg (show ¬ v + 7 = v by omega), if_neg (show ¬ v + 7 = v + 1 by omega), if_neg (show ¬ v + 7 = v + 2 by omega), if_neg (show ¬ v + 7 = v + 3 by omega), if_neg (show ¬ v + 7 = v + 4 by omega), if_neg (show ¬ v + 7 = v + 5 by omega), if_neg (show ¬ v + 7 = v + 6 by omega), if_pos rfl]
theorem wH_o {p : Nat} (hp : p < v ∨ v + 7 < p) : (wH h v J0 J1 J2 J3 J4 own str bes nds sn wl).2 p = h.2 p := by
  show (if p = v then _ else if p = v + 1 then _ else if p = v + 2 then _ else if p = v + 3 then _ else if p = v + 4 then _ else if p = v + 5 then _ else if p = v + 6 then _ else if p = v + 7 then _ else h.2 p) = _
  rw [if_neg (show ¬ p = v by omega), if_neg (show ¬ p = v + 1 by omega), if_neg (show ¬ p = v + 2 by omega), if_neg (show ¬ p = v + 3 by omega), if_neg (show ¬ p = v + 4 by omega), if_neg (show ¬ p = v + 5 by omega), if_neg (show ¬ p = v + 6 by omega), if_neg (show ¬ p = v + 7 by omega)]
theorem tw_o {p : Nat} {ce : ss_Cl} (hp : p ≠ 1) (he : (wH h v J0 J1 J2 J3 J4 own str bes nds sn wl).2 p = ce) : (tH (wH h v J0 J1 J2 J3 J4 own str bes nds sn wl) a b c d e1).2 p = ce := by rw [tH_o hp]; exact he
theorem hs_of {X Y : ss_Hp} {k : Nat} {ce : ss_Cl} (h1 : Y.1 = X.1) (h2 : Y.2 k = ce) (h3 : ∀ p, p ≠ k → Y.2 p = X.2 p) : ss_hs X k ce = Y := Prod.ext h1.symm (funext fun p => by
  show (if p = k then ce else X.2 p) = Y.2 p
  by_cases q : p = k
  · rw [if_pos q, q, h2]
  · rw [if_neg q, h3 p q])
theorem vX_is (h3 : h.2 3 = (6, [], [], [some 1, some 4, some v])) (hv : 12 ≤ v) : ss_is (tH (wH h v J0 J1 J2 J3 J4 own str bes nds sn wl) a b c d e1) (some 3) 6 = true := pb_is (tw_o (by omega) ((wH_o (by omega)).trans h3))
theorem vX_r0 (h3 : h.2 3 = (6, [], [], [some 1, some 4, some v])) (hv : 12 ≤ v) : ss_gr (tH (wH h v J0 J1 J2 J3 J4 own str bes nds sn wl) a b c d e1) (some 3) 6 0 = some (some 1) := pb_gr (tw_o (by omega) ((wH_o (by omega)).trans h3)) 0
theorem vX_r1 (h3 : h.2 3 = (6, [], [], [some 1, some 4, some v])) (hv : 12 ≤ v) : ss_gr (tH (wH h v J0 J1 J2 J3 J4 own str bes nds sn wl) a b c d e1) (some 3) 6 2 = some (some v) := pb_gr (tw_o (by omega) ((wH_o (by omega)).trans h3)) 2
theorem vX_j0 (hv : 12 ≤ v) : ss_gi (tH (wH h v J0 J1 J2 J3 J4 own str bes nds sn wl) a b c d e1) (some v) 5 0 = some J0 := pb_gi (tw_o (by omega) wH_0) 0
theorem vX_f0 (hv : 12 ≤ v) : ss_gr (tH (wH h v J0 J1 J2 J3 J4 own str bes nds sn wl) a b c d e1) (some v) 5 0 = some (some (v + 1)) := pb_gr (tw_o (by omega) wH_0) 0
theorem vX_p0 (hv : 12 ≤ v) {y : Int32} : ss_pi (tH (wH h v J0 J1 J2 J3 J4 own str bes nds sn wl) a b c d e1) (some v) 5 0 y = some (tH (wH h v y J1 J2 J3 J4 own str bes nds sn wl) a b c d e1) := by
  rw [pb_pi (tw_o (by omega) wH_0) (by simp)]
  exact congrArg some (hs_of rfl (tw_o (by omega) wH_0) (fun p hp => by
    by_cases q : p = 1
    · subst q
      rfl
    · rw [tH_o q, tH_o q]
      show (if p = v then _ else if p = v + 1 then _ else if p = v + 2 then _ else if p = v + 3 then _ else if p = v + 4 then _ else if p = v + 5 then _ else if p = v + 6 then _ else if p = v + 7 then _ else h.2 p) = (if p = v then _ else if p = v + 1 then _ else if p = v + 2 then _ else if p = v + 3 then _ else if p = v + 4 then _ else if p = v + 5 then _ else if p = v + 6 then _ else if p = v + 7 then _ else h.2 p)
      rw [if_neg hp, if_neg hp]))
theorem vX_j1 (hv : 12 ≤ v) : ss_gi (tH (wH h v J0 J1 J2 J3 J4 own str bes nds sn wl) a b c d e1) (some v) 5 1 = some J1 := pb_gi (tw_o (by omega) wH_0) 1
theorem vX_f1 (hv : 12 ≤ v) : ss_gr (tH (wH h v J0 J1 J2 J3 J4 own str bes nds sn wl) a b c d e1) (some v) 5 1 = some (some (v + 2)) := pb_gr (tw_o (by omega) wH_0) 1
theorem vX_p1 (hv : 12 ≤ v) {y : Int32} : ss_pi (tH (wH h v J0 J1 J2 J3 J4 own str bes nds sn wl) a b c d e1) (some v) 5 1 y = some (tH (wH h v J0 y J2 J3 J4 own str bes nds sn wl) a b c d e1) := by
  rw [pb_pi (tw_o (by omega) wH_0) (by simp)]
  exact congrArg some (hs_of rfl (tw_o (by omega) wH_0) (fun p hp => by
    by_cases q : p = 1
    · subst q
      rfl
    · rw [tH_o q, tH_o q]
      show (if p = v then _ else if p = v + 1 then _ else if p = v + 2 then _ else if p = v + 3 then _ else if p = v + 4 then _ else if p = v + 5 then _ else if p = v + 6 then _ else if p = v + 7 then _ else h.2 p) = (if p = v then _ else if p = v + 1 then _ else if p = v + 2 then _ else if p = v + 3 then _ else if p = v + 4 then _ else if p = v + 5 then _ else if p = v + 6 then _ else if p = v + 7 then _ else h.2 p)
      rw [if_neg hp, if_neg hp]))
theorem vX_j2 (hv : 12 ≤ v) : ss_gi (tH (wH h v J0 J1 J2 J3 J4 own str bes nds sn wl) a b c d e1) (some v) 5 2 = some J2 := pb_gi (tw_o (by omega) wH_0) 2
theorem vX_f2 (hv : 12 ≤ v) : ss_gr (tH (wH h v J0 J1 J2 J3 J4 own str bes nds sn wl) a b c d e1) (some v) 5 2 = some (some (v + 3)) := pb_gr (tw_o (by omega) wH_0) 2
theorem vX_p2 (hv : 12 ≤ v) {y : Int32} : ss_pi (tH (wH h v J0 J1 J2 J3 J4 own str bes nds sn wl) a b c d e1) (some v) 5 2 y = some (tH (wH h v J0 J1 y J3 J4 own str bes nds sn wl) a b c d e1) := by
  rw [pb_pi (tw_o (by omega) wH_0) (by simp)]
  exact congrArg some (hs_of rfl (tw_o (by omega) wH_0) (fun p hp => by
    by_cases q : p = 1
    · subst q
      rfl
    · rw [tH_o q, tH_o q]
      show (if p = v then _ else if p = v + 1 then _ else if p = v + 2 then _ else if p = v + 3 then _ else if p = v + 4 then _ else if p = v + 5 then _ else if p = v + 6 then _ else if p = v + 7 then _ else h.2 p) = (if p = v then _ else if p = v + 1 then _ else if p = v + 2 then _ else if p = v + 3 then _ else if p = v + 4 then _ else if p = v + 5 then _ else if p = v + 6 then _ else if p = v + 7 then _ else h.2 p)
      rw [if_neg hp, if_neg hp]))
theorem vX_j3 (hv : 12 ≤ v) : ss_gi (tH (wH h v J0 J1 J2 J3 J4 own str bes nds sn wl) a b c d e1) (some v) 5 3 = some J3 := pb_gi (tw_o (by omega) wH_0) 3
theorem vX_f3 (hv : 12 ≤ v) : ss_gr (tH (wH h v J0 J1 J2 J3 J4 own str bes nds sn wl) a b c d e1) (some v) 5 3 = some (some (v + 4)) := pb_gr (tw_o (by omega) wH_0) 3
theorem vX_p3 (hv : 12 ≤ v) {y : Int32} : ss_pi (tH (wH h v J0 J1 J2 J3 J4 own str bes nds sn wl) a b c d e1) (some v) 5 3 y = some (tH (wH h v J0 J1 J2 y J4 own str bes nds sn wl) a b c d e1) := by
  rw [pb_pi (tw_o (by omega) wH_0) (by simp)]
  exact congrArg some (hs_of rfl (tw_o (by omega) wH_0) (fun p hp => by
    by_cases q : p = 1
    · subst q
      rfl
    · rw [tH_o q, tH_o q]
      show (if p = v then _ else if p = v + 1 then _ else if p = v + 2 then _ else if p = v + 3 then _ else if p = v + 4 then _ else if p = v + 5 then _ else if p = v + 6 then _ else if p = v + 7 then _ else h.2 p) = (if p = v then _ else if p = v + 1 then _ else if p = v + 2 then _ else if p = v + 3 then _ else if p = v + 4 then _ else if p = v + 5 then _ else if p = v + 6 then _ else if p = v + 7 then _ else h.2 p)
      rw [if_neg hp, if_neg hp]))
theorem vX_j4 (hv : 12 ≤ v) : ss_gi (tH (wH h v J0 J1 J2 J3 J4 own str bes nds sn wl) a b c d e1) (some v) 5 4 = some J4 := pb_gi (tw_o (by omega) wH_0) 4
theorem vX_f4 (hv : 12 ≤ v) : ss_gr (tH (wH h v J0 J1 J2 J3 J4 own str bes nds sn wl) a b c d e1) (some v) 5 4 = some (some (v + 5)) := pb_gr (tw_o (by omega) wH_0) 4
theorem vX_p4 (hv : 12 ≤ v) {y : Int32} : ss_pi (tH (wH h v J0 J1 J2 J3 J4 own str bes nds sn wl) a b c d e1) (some v) 5 4 y = some (tH (wH h v J0 J1 J2 J3 y own str bes nds sn wl) a b c d e1) := by
  rw [pb_pi (tw_o (by omega) wH_0) (by simp)]
  exact congrArg some (hs_of rfl (tw_o (by omega) wH_0) (fun p hp => by
    by_cases q : p = 1
    · subst q
      rfl
    · rw [tH_o q, tH_o q]
      show (if p = v then _ else if p = v + 1 then _ else if p = v + 2 then _ else if p = v + 3 then _ else if p = v + 4 then _ else if p = v + 5 then _ else if p = v + 6 then _ else if p = v + 7 then _ else h.2 p) = (if p = v then _ else if p = v + 1 then _ else if p = v + 2 then _ else if p = v + 3 then _ else if p = v + 4 then _ else if p = v + 5 then _ else if p = v + 6 then _ else if p = v + 7 then _ else h.2 p)
      rw [if_neg hp, if_neg hp]))
theorem vX_g0 (hv : 12 ≤ v) : ss_gr (tH (wH h v J0 J1 J2 J3 J4 own str bes nds sn wl) a b c d e1) (some (v + 5)) 0 0 = some (some (v + 6)) := pb_gr (tw_o (by omega) wH_5) 0
theorem vX_g1 (hv : 12 ≤ v) : ss_gr (tH (wH h v J0 J1 J2 J3 J4 own str bes nds sn wl) a b c d e1) (some (v + 5)) 0 1 = some (some (v + 7)) := pb_gr (tw_o (by omega) wH_5) 1
theorem vX_a1 (hv : 12 ≤ v) {i : Nat} (hi : i < own.length) (h31 : i < 2147483648) : ss_ai (tH (wH h v J0 J1 J2 J3 J4 own str bes nds sn wl) a b c d e1) (some (v + 1)) 20 (nI i) = some (pv own i) := (pb_ai (tw_o (by omega) wH_1) h31).trans (pv_get hi)
theorem vX_u1 (hv : 12 ≤ v) {i : Nat} {y : Int32} (hi : i < own.length) (h31 : i < 2147483648) : ss_ui (tH (wH h v J0 J1 J2 J3 J4 own str bes nds sn wl) a b c d e1) (some (v + 1)) 20 (nI i) y = some (tH (wH h v J0 J1 J2 J3 J4 (own.set i y) str bes nds sn wl) a b c d e1) := by
  rw [pb_ui (tw_o (by omega) wH_1) h31 hi]
  exact congrArg some (hs_of rfl (tw_o (by omega) wH_1) (fun p hp => by
    by_cases q : p = 1
    · subst q
      rfl
    · rw [tH_o q, tH_o q]
      show (if p = v then _ else if p = v + 1 then _ else if p = v + 2 then _ else if p = v + 3 then _ else if p = v + 4 then _ else if p = v + 5 then _ else if p = v + 6 then _ else if p = v + 7 then _ else h.2 p) = (if p = v then _ else if p = v + 1 then _ else if p = v + 2 then _ else if p = v + 3 then _ else if p = v + 4 then _ else if p = v + 5 then _ else if p = v + 6 then _ else if p = v + 7 then _ else h.2 p)
      rw [if_neg hp, if_neg hp]))
theorem vX_a2 (hv : 12 ≤ v) {i : Nat} (hi : i < str.length) (h31 : i < 2147483648) : ss_ai (tH (wH h v J0 J1 J2 J3 J4 own str bes nds sn wl) a b c d e1) (some (v + 2)) 20 (nI i) = some (pv str i) := (pb_ai (tw_o (by omega) wH_2) h31).trans (pv_get hi)
theorem vX_u2 (hv : 12 ≤ v) {i : Nat} {y : Int32} (hi : i < str.length) (h31 : i < 2147483648) : ss_ui (tH (wH h v J0 J1 J2 J3 J4 own str bes nds sn wl) a b c d e1) (some (v + 2)) 20 (nI i) y = some (tH (wH h v J0 J1 J2 J3 J4 own (str.set i y) bes nds sn wl) a b c d e1) := by
  rw [pb_ui (tw_o (by omega) wH_2) h31 hi]
  exact congrArg some (hs_of rfl (tw_o (by omega) wH_2) (fun p hp => by
    by_cases q : p = 1
    · subst q
      rfl
    · rw [tH_o q, tH_o q]
      show (if p = v then _ else if p = v + 1 then _ else if p = v + 2 then _ else if p = v + 3 then _ else if p = v + 4 then _ else if p = v + 5 then _ else if p = v + 6 then _ else if p = v + 7 then _ else h.2 p) = (if p = v then _ else if p = v + 1 then _ else if p = v + 2 then _ else if p = v + 3 then _ else if p = v + 4 then _ else if p = v + 5 then _ else if p = v + 6 then _ else if p = v + 7 then _ else h.2 p)
      rw [if_neg hp, if_neg hp]))
theorem vX_a3 (hv : 12 ≤ v) {i : Nat} (hi : i < bes.length) (h31 : i < 2147483648) : ss_ai (tH (wH h v J0 J1 J2 J3 J4 own str bes nds sn wl) a b c d e1) (some (v + 3)) 20 (nI i) = some (pv bes i) := (pb_ai (tw_o (by omega) wH_3) h31).trans (pv_get hi)
theorem vX_u3 (hv : 12 ≤ v) {i : Nat} {y : Int32} (hi : i < bes.length) (h31 : i < 2147483648) : ss_ui (tH (wH h v J0 J1 J2 J3 J4 own str bes nds sn wl) a b c d e1) (some (v + 3)) 20 (nI i) y = some (tH (wH h v J0 J1 J2 J3 J4 own str (bes.set i y) nds sn wl) a b c d e1) := by
  rw [pb_ui (tw_o (by omega) wH_3) h31 hi]
  exact congrArg some (hs_of rfl (tw_o (by omega) wH_3) (fun p hp => by
    by_cases q : p = 1
    · subst q
      rfl
    · rw [tH_o q, tH_o q]
      show (if p = v then _ else if p = v + 1 then _ else if p = v + 2 then _ else if p = v + 3 then _ else if p = v + 4 then _ else if p = v + 5 then _ else if p = v + 6 then _ else if p = v + 7 then _ else h.2 p) = (if p = v then _ else if p = v + 1 then _ else if p = v + 2 then _ else if p = v + 3 then _ else if p = v + 4 then _ else if p = v + 5 then _ else if p = v + 6 then _ else if p = v + 7 then _ else h.2 p)
      rw [if_neg hp, if_neg hp]))
theorem vX_a4 (hv : 12 ≤ v) {i : Nat} (hi : i < nds.length) (h31 : i < 2147483648) : ss_ai (tH (wH h v J0 J1 J2 J3 J4 own str bes nds sn wl) a b c d e1) (some (v + 4)) 20 (nI i) = some (pv nds i) := (pb_ai (tw_o (by omega) wH_4) h31).trans (pv_get hi)
theorem vX_u4 (hv : 12 ≤ v) {i : Nat} {y : Int32} (hi : i < nds.length) (h31 : i < 2147483648) : ss_ui (tH (wH h v J0 J1 J2 J3 J4 own str bes nds sn wl) a b c d e1) (some (v + 4)) 20 (nI i) y = some (tH (wH h v J0 J1 J2 J3 J4 own str bes (nds.set i y) sn wl) a b c d e1) := by
  rw [pb_ui (tw_o (by omega) wH_4) h31 hi]
  exact congrArg some (hs_of rfl (tw_o (by omega) wH_4) (fun p hp => by
    by_cases q : p = 1
    · subst q
      rfl
    · rw [tH_o q, tH_o q]
      show (if p = v then _ else if p = v + 1 then _ else if p = v + 2 then _ else if p = v + 3 then _ else if p = v + 4 then _ else if p = v + 5 then _ else if p = v + 6 then _ else if p = v + 7 then _ else h.2 p) = (if p = v then _ else if p = v + 1 then _ else if p = v + 2 then _ else if p = v + 3 then _ else if p = v + 4 then _ else if p = v + 5 then _ else if p = v + 6 then _ else if p = v + 7 then _ else h.2 p)
      rw [if_neg hp, if_neg hp]))
theorem vX_a6 (hv : 12 ≤ v) {i : Nat} (hi : i < sn.length) (h31 : i < 2147483648) : ss_ai (tH (wH h v J0 J1 J2 J3 J4 own str bes nds sn wl) a b c d e1) (some (v + 6)) 20 (nI i) = some (pv sn i) := (pb_ai (tw_o (by omega) wH_6) h31).trans (pv_get hi)
theorem vX_u6 (hv : 12 ≤ v) {i : Nat} {y : Int32} (hi : i < sn.length) (h31 : i < 2147483648) : ss_ui (tH (wH h v J0 J1 J2 J3 J4 own str bes nds sn wl) a b c d e1) (some (v + 6)) 20 (nI i) y = some (tH (wH h v J0 J1 J2 J3 J4 own str bes nds (sn.set i y) wl) a b c d e1) := by
  rw [pb_ui (tw_o (by omega) wH_6) h31 hi]
  exact congrArg some (hs_of rfl (tw_o (by omega) wH_6) (fun p hp => by
    by_cases q : p = 1
    · subst q
      rfl
    · rw [tH_o q, tH_o q]
      show (if p = v then _ else if p = v + 1 then _ else if p = v + 2 then _ else if p = v + 3 then _ else if p = v + 4 then _ else if p = v + 5 then _ else if p = v + 6 then _ else if p = v + 7 then _ else h.2 p) = (if p = v then _ else if p = v + 1 then _ else if p = v + 2 then _ else if p = v + 3 then _ else if p = v + 4 then _ else if p = v + 5 then _ else if p = v + 6 then _ else if p = v + 7 then _ else h.2 p)
      rw [if_neg hp, if_neg hp]))
theorem vX_a7 (hv : 12 ≤ v) {i : Nat} (hi : i < wl.length) (h31 : i < 2147483648) : ss_ai (tH (wH h v J0 J1 J2 J3 J4 own str bes nds sn wl) a b c d e1) (some (v + 7)) 20 (nI i) = some (pv wl i) := (pb_ai (tw_o (by omega) wH_7) h31).trans (pv_get hi)
theorem vX_u7 (hv : 12 ≤ v) {i : Nat} {y : Int32} (hi : i < wl.length) (h31 : i < 2147483648) : ss_ui (tH (wH h v J0 J1 J2 J3 J4 own str bes nds sn wl) a b c d e1) (some (v + 7)) 20 (nI i) y = some (tH (wH h v J0 J1 J2 J3 J4 own str bes nds sn (wl.set i y)) a b c d e1) := by
  rw [pb_ui (tw_o (by omega) wH_7) h31 hi]
  exact congrArg some (hs_of rfl (tw_o (by omega) wH_7) (fun p hp => by
    by_cases q : p = 1
    · subst q
      rfl
    · rw [tH_o q, tH_o q]
      show (if p = v then _ else if p = v + 1 then _ else if p = v + 2 then _ else if p = v + 3 then _ else if p = v + 4 then _ else if p = v + 5 then _ else if p = v + 6 then _ else if p = v + 7 then _ else h.2 p) = (if p = v then _ else if p = v + 1 then _ else if p = v + 2 then _ else if p = v + 3 then _ else if p = v + 4 then _ else if p = v + 5 then _ else if p = v + 6 then _ else if p = v + 7 then _ else h.2 p)
      rw [if_neg hp, if_neg hp]))
theorem vL_is (h3 : h.2 3 = (6, [], [], [some 1, some 4, some v])) (hv : 12 ≤ v) : ss_is (lx (wH h v J0 J1 J2 J3 J4 own str bes nds sn wl) T F p) (some 3) 6 = true := vX_is h3 hv
theorem vL_r0 (h3 : h.2 3 = (6, [], [], [some 1, some 4, some v])) (hv : 12 ≤ v) : ss_gr (lx (wH h v J0 J1 J2 J3 J4 own str bes nds sn wl) T F p) (some 3) 6 0 = some (some 1) := vX_r0 h3 hv
theorem vL_r1 (h3 : h.2 3 = (6, [], [], [some 1, some 4, some v])) (hv : 12 ≤ v) : ss_gr (lx (wH h v J0 J1 J2 J3 J4 own str bes nds sn wl) T F p) (some 3) 6 2 = some (some v) := vX_r1 h3 hv
theorem vL_j0 (hv : 12 ≤ v) : ss_gi (lx (wH h v J0 J1 J2 J3 J4 own str bes nds sn wl) T F p) (some v) 5 0 = some J0 := vX_j0 hv
theorem vL_f0 (hv : 12 ≤ v) : ss_gr (lx (wH h v J0 J1 J2 J3 J4 own str bes nds sn wl) T F p) (some v) 5 0 = some (some (v + 1)) := vX_f0 hv
theorem vL_p0 (hv : 12 ≤ v) {y : Int32} : ss_pi (lx (wH h v J0 J1 J2 J3 J4 own str bes nds sn wl) T F p) (some v) 5 0 y = some (lx (wH h v y J1 J2 J3 J4 own str bes nds sn wl) T F p) := vX_p0 hv
theorem vL_j1 (hv : 12 ≤ v) : ss_gi (lx (wH h v J0 J1 J2 J3 J4 own str bes nds sn wl) T F p) (some v) 5 1 = some J1 := vX_j1 hv
theorem vL_f1 (hv : 12 ≤ v) : ss_gr (lx (wH h v J0 J1 J2 J3 J4 own str bes nds sn wl) T F p) (some v) 5 1 = some (some (v + 2)) := vX_f1 hv
theorem vL_p1 (hv : 12 ≤ v) {y : Int32} : ss_pi (lx (wH h v J0 J1 J2 J3 J4 own str bes nds sn wl) T F p) (some v) 5 1 y = some (lx (wH h v J0 y J2 J3 J4 own str bes nds sn wl) T F p) := vX_p1 hv
theorem vL_j2 (hv : 12 ≤ v) : ss_gi (lx (wH h v J0 J1 J2 J3 J4 own str bes nds sn wl) T F p) (some v) 5 2 = some J2 := vX_j2 hv
theorem vL_f2 (hv : 12 ≤ v) : ss_gr (lx (wH h v J0 J1 J2 J3 J4 own str bes nds sn wl) T F p) (some v) 5 2 = some (some (v + 3)) := vX_f2 hv
theorem vL_p2 (hv : 12 ≤ v) {y : Int32} : ss_pi (lx (wH h v J0 J1 J2 J3 J4 own str bes nds sn wl) T F p) (some v) 5 2 y = some (lx (wH h v J0 J1 y J3 J4 own str bes nds sn wl) T F p) := vX_p2 hv
theorem vL_j3 (hv : 12 ≤ v) : ss_gi (lx (wH h v J0 J1 J2 J3 J4 own str bes nds sn wl) T F p) (some v) 5 3 = some J3 := vX_j3 hv
theorem vL_f3 (hv : 12 ≤ v) : ss_gr (lx (wH h v J0 J1 J2 J3 J4 own str bes nds sn wl) T F p) (some v) 5 3 = some (some (v + 4)) := vX_f3 hv
theorem vL_p3 (hv : 12 ≤ v) {y : Int32} : ss_pi (lx (wH h v J0 J1 J2 J3 J4 own str bes nds sn wl) T F p) (some v) 5 3 y = some (lx (wH h v J0 J1 J2 y J4 own str bes nds sn wl) T F p) := vX_p3 hv
theorem vL_j4 (hv : 12 ≤ v) : ss_gi (lx (wH h v J0 J1 J2 J3 J4 own str bes nds sn wl) T F p) (some v) 5 4 = some J4 := vX_j4 hv
theorem vL_f4 (hv : 12 ≤ v) : ss_gr (lx (wH h v J0 J1 J2 J3 J4 own str bes nds sn wl) T F p) (some v) 5 4 = some (some (v + 5)) := vX_f4 hv
theorem vL_p4 (hv : 12 ≤ v) {y : Int32} : ss_pi (lx (wH h v J0 J1 J2 J3 J4 own str bes nds sn wl) T F p) (some v) 5 4 y = some (lx (wH h v J0 J1 J2 J3 y own str bes nds sn wl) T F p) := vX_p4 hv
theorem vL_g0 (hv : 12 ≤ v) : ss_gr (lx (wH h v J0 J1 J2 J3 J4 own str bes nds sn wl) T F p) (some (v + 5)) 0 0 = some (some (v + 6)) := vX_g0 hv
theorem vL_g1 (hv : 12 ≤ v) : ss_gr (lx (wH h v J0 J1 J2 J3 J4 own str bes nds sn wl) T F p) (some (v + 5)) 0 1 = some (some (v + 7)) := vX_g1 hv
theorem vL_a1 (hv : 12 ≤ v) {i : Nat} (hi : i < own.length) (h31 : i < 2147483648) : ss_ai (lx (wH h v J0 J1 J2 J3 J4 own str bes nds sn wl) T F p) (some (v + 1)) 20 (nI i) = some (pv own i) := vX_a1 hv hi h31
theorem vL_u1 (hv : 12 ≤ v) {i : Nat} {y : Int32} (hi : i < own.length) (h31 : i < 2147483648) : ss_ui (lx (wH h v J0 J1 J2 J3 J4 own str bes nds sn wl) T F p) (some (v + 1)) 20 (nI i) y = some (lx (wH h v J0 J1 J2 J3 J4 (own.set i y) str bes nds sn wl) T F p) := vX_u1 hv hi h31
theorem vL_a2 (hv : 12 ≤ v) {i : Nat} (hi : i < str.length) (h31 : i < 2147483648) : ss_ai (lx (wH h v J0 J1 J2 J3 J4 own str bes nds sn wl) T F p) (some (v + 2)) 20 (nI i) = some (pv str i) := vX_a2 hv hi h31
theorem vL_u2 (hv : 12 ≤ v) {i : Nat} {y : Int32} (hi : i < str.length) (h31 : i < 2147483648) : ss_ui (lx (wH h v J0 J1 J2 J3 J4 own str bes nds sn wl) T F p) (some (v + 2)) 20 (nI i) y = some (lx (wH h v J0 J1 J2 J3 J4 own (str.set i y) bes nds sn wl) T F p) := vX_u2 hv hi h31
theorem vL_a3 (hv : 12 ≤ v) {i : Nat} (hi : i < bes.length) (h31 : i < 2147483648) : ss_ai (lx (wH h v J0 J1 J2 J3 J4 own str bes nds sn wl) T F p) (some (v + 3)) 20 (nI i) = some (pv bes i) := vX_a3 hv hi h31
theorem vL_u3 (hv : 12 ≤ v) {i : Nat} {y : Int32} (hi : i < bes.length) (h31 : i < 2147483648) : ss_ui (lx (wH h v J0 J1 J2 J3 J4 own str bes nds sn wl) T F p) (some (v + 3)) 20 (nI i) y = some (lx (wH h v J0 J1 J2 J3 J4 own str (bes.set i y) nds sn wl) T F p) := vX_u3 hv hi h31
theorem vL_a4 (hv : 12 ≤ v) {i : Nat} (hi : i < nds.length) (h31 : i < 2147483648) : ss_ai (lx (wH h v J0 J1 J2 J3 J4 own str bes nds sn wl) T F p) (some (v + 4)) 20 (nI i) = some (pv nds i) := vX_a4 hv hi h31
theorem vL_u4 (hv : 12 ≤ v) {i : Nat} {y : Int32} (hi : i < nds.length) (h31 : i < 2147483648) : ss_ui (lx (wH h v J0 J1 J2 J3 J4 own str bes nds sn wl) T F p) (some (v + 4)) 20 (nI i) y = some (lx (wH h v J0 J1 J2 J3 J4 own str bes (nds.set i y) sn wl) T F p) := vX_u4 hv hi h31
theorem vL_a6 (hv : 12 ≤ v) {i : Nat} (hi : i < sn.length) (h31 : i < 2147483648) : ss_ai (lx (wH h v J0 J1 J2 J3 J4 own str bes nds sn wl) T F p) (some (v + 6)) 20 (nI i) = some (pv sn i) := vX_a6 hv hi h31
theorem vL_u6 (hv : 12 ≤ v) {i : Nat} {y : Int32} (hi : i < sn.length) (h31 : i < 2147483648) : ss_ui (lx (wH h v J0 J1 J2 J3 J4 own str bes nds sn wl) T F p) (some (v + 6)) 20 (nI i) y = some (lx (wH h v J0 J1 J2 J3 J4 own str bes nds (sn.set i y) wl) T F p) := vX_u6 hv hi h31
theorem vL_a7 (hv : 12 ≤ v) {i : Nat} (hi : i < wl.length) (h31 : i < 2147483648) : ss_ai (lx (wH h v J0 J1 J2 J3 J4 own str bes nds sn wl) T F p) (some (v + 7)) 20 (nI i) = some (pv wl i) := vX_a7 hv hi h31
theorem vL_u7 (hv : 12 ≤ v) {i : Nat} {y : Int32} (hi : i < wl.length) (h31 : i < 2147483648) : ss_ui (lx (wH h v J0 J1 J2 J3 J4 own str bes nds sn wl) T F p) (some (v + 7)) 20 (nI i) y = some (lx (wH h v J0 J1 J2 J3 J4 own str bes nds sn (wl.set i y)) T F p) := vX_u7 hv hi h31
theorem vF_is (h3 : h.2 3 = (6, [], [], [some 1, some 4, some v])) (hv : 12 ≤ v) : ss_is (fl (wH h v J0 J1 J2 J3 J4 own str bes nds sn wl) T p w) (some 3) 6 = true := vX_is h3 hv
theorem vF_r0 (h3 : h.2 3 = (6, [], [], [some 1, some 4, some v])) (hv : 12 ≤ v) : ss_gr (fl (wH h v J0 J1 J2 J3 J4 own str bes nds sn wl) T p w) (some 3) 6 0 = some (some 1) := vX_r0 h3 hv
theorem vF_r1 (h3 : h.2 3 = (6, [], [], [some 1, some 4, some v])) (hv : 12 ≤ v) : ss_gr (fl (wH h v J0 J1 J2 J3 J4 own str bes nds sn wl) T p w) (some 3) 6 2 = some (some v) := vX_r1 h3 hv
theorem vF_j0 (hv : 12 ≤ v) : ss_gi (fl (wH h v J0 J1 J2 J3 J4 own str bes nds sn wl) T p w) (some v) 5 0 = some J0 := vX_j0 hv
theorem vF_f0 (hv : 12 ≤ v) : ss_gr (fl (wH h v J0 J1 J2 J3 J4 own str bes nds sn wl) T p w) (some v) 5 0 = some (some (v + 1)) := vX_f0 hv
theorem vF_p0 (hv : 12 ≤ v) {y : Int32} : ss_pi (fl (wH h v J0 J1 J2 J3 J4 own str bes nds sn wl) T p w) (some v) 5 0 y = some (fl (wH h v y J1 J2 J3 J4 own str bes nds sn wl) T p w) := vX_p0 hv
theorem vF_j1 (hv : 12 ≤ v) : ss_gi (fl (wH h v J0 J1 J2 J3 J4 own str bes nds sn wl) T p w) (some v) 5 1 = some J1 := vX_j1 hv
theorem vF_f1 (hv : 12 ≤ v) : ss_gr (fl (wH h v J0 J1 J2 J3 J4 own str bes nds sn wl) T p w) (some v) 5 1 = some (some (v + 2)) := vX_f1 hv
theorem vF_p1 (hv : 12 ≤ v) {y : Int32} : ss_pi (fl (wH h v J0 J1 J2 J3 J4 own str bes nds sn wl) T p w) (some v) 5 1 y = some (fl (wH h v J0 y J2 J3 J4 own str bes nds sn wl) T p w) := vX_p1 hv
theorem vF_j2 (hv : 12 ≤ v) : ss_gi (fl (wH h v J0 J1 J2 J3 J4 own str bes nds sn wl) T p w) (some v) 5 2 = some J2 := vX_j2 hv
theorem vF_f2 (hv : 12 ≤ v) : ss_gr (fl (wH h v J0 J1 J2 J3 J4 own str bes nds sn wl) T p w) (some v) 5 2 = some (some (v + 3)) := vX_f2 hv
theorem vF_p2 (hv : 12 ≤ v) {y : Int32} : ss_pi (fl (wH h v J0 J1 J2 J3 J4 own str bes nds sn wl) T p w) (some v) 5 2 y = some (fl (wH h v J0 J1 y J3 J4 own str bes nds sn wl) T p w) := vX_p2 hv
theorem vF_j3 (hv : 12 ≤ v) : ss_gi (fl (wH h v J0 J1 J2 J3 J4 own str bes nds sn wl) T p w) (some v) 5 3 = some J3 := vX_j3 hv
theorem vF_f3 (hv : 12 ≤ v) : ss_gr (fl (wH h v J0 J1 J2 J3 J4 own str bes nds sn wl) T p w) (some v) 5 3 = some (some (v + 4)) := vX_f3 hv
theorem vF_p3 (hv : 12 ≤ v) {y : Int32} : ss_pi (fl (wH h v J0 J1 J2 J3 J4 own str bes nds sn wl) T p w) (some v) 5 3 y = some (fl (wH h v J0 J1 J2 y J4 own str bes nds sn wl) T p w) := vX_p3 hv
theorem vF_j4 (hv : 12 ≤ v) : ss_gi (fl (wH h v J0 J1 J2 J3 J4 own str bes nds sn wl) T p w) (some v) 5 4 = some J4 := vX_j4 hv
theorem vF_f4 (hv : 12 ≤ v) : ss_gr (fl (wH h v J0 J1 J2 J3 J4 own str bes nds sn wl) T p w) (some v) 5 4 = some (some (v + 5)) := vX_f4 hv
theorem vF_p4 (hv : 12 ≤ v) {y : Int32} : ss_pi (fl (wH h v J0 J1 J2 J3 J4 own str bes nds sn wl) T p w) (some v) 5 4 y = some (fl (wH h v J0 J1 J2 J3 y own str bes nds sn wl) T p w) := vX_p4 hv
theorem vF_g0 (hv : 12 ≤ v) : ss_gr (fl (wH h v J0 J1 J2 J3 J4 own str bes nds sn wl) T p w) (some (v + 5)) 0 0 = some (some (v + 6)) := vX_g0 hv
theorem vF_g1 (hv : 12 ≤ v) : ss_gr (fl (wH h v J0 J1 J2 J3 J4 own str bes nds sn wl) T p w) (some (v + 5)) 0 1 = some (some (v + 7)) := vX_g1 hv
theorem vF_a1 (hv : 12 ≤ v) {i : Nat} (hi : i < own.length) (h31 : i < 2147483648) : ss_ai (fl (wH h v J0 J1 J2 J3 J4 own str bes nds sn wl) T p w) (some (v + 1)) 20 (nI i) = some (pv own i) := vX_a1 hv hi h31
theorem vF_u1 (hv : 12 ≤ v) {i : Nat} {y : Int32} (hi : i < own.length) (h31 : i < 2147483648) : ss_ui (fl (wH h v J0 J1 J2 J3 J4 own str bes nds sn wl) T p w) (some (v + 1)) 20 (nI i) y = some (fl (wH h v J0 J1 J2 J3 J4 (own.set i y) str bes nds sn wl) T p w) := vX_u1 hv hi h31
theorem vF_a2 (hv : 12 ≤ v) {i : Nat} (hi : i < str.length) (h31 : i < 2147483648) : ss_ai (fl (wH h v J0 J1 J2 J3 J4 own str bes nds sn wl) T p w) (some (v + 2)) 20 (nI i) = some (pv str i) := vX_a2 hv hi h31
theorem vF_u2 (hv : 12 ≤ v) {i : Nat} {y : Int32} (hi : i < str.length) (h31 : i < 2147483648) : ss_ui (fl (wH h v J0 J1 J2 J3 J4 own str bes nds sn wl) T p w) (some (v + 2)) 20 (nI i) y = some (fl (wH h v J0 J1 J2 J3 J4 own (str.set i y) bes nds sn wl) T p w) := vX_u2 hv hi h31
theorem vF_a3 (hv : 12 ≤ v) {i : Nat} (hi : i < bes.length) (h31 : i < 2147483648) : ss_ai (fl (wH h v J0 J1 J2 J3 J4 own str bes nds sn wl) T p w) (some (v + 3)) 20 (nI i) = some (pv bes i) := vX_a3 hv hi h31
theorem vF_u3 (hv : 12 ≤ v) {i : Nat} {y : Int32} (hi : i < bes.length) (h31 : i < 2147483648) : ss_ui (fl (wH h v J0 J1 J2 J3 J4 own str bes nds sn wl) T p w) (some (v + 3)) 20 (nI i) y = some (fl (wH h v J0 J1 J2 J3 J4 own str (bes.set i y) nds sn wl) T p w) := vX_u3 hv hi h31
theorem vF_a4 (hv : 12 ≤ v) {i : Nat} (hi : i < nds.length) (h31 : i < 2147483648) : ss_ai (fl (wH h v J0 J1 J2 J3 J4 own str bes nds sn wl) T p w) (some (v + 4)) 20 (nI i) = some (pv nds i) := vX_a4 hv hi h31
theorem vF_u4 (hv : 12 ≤ v) {i : Nat} {y : Int32} (hi : i < nds.length) (h31 : i < 2147483648) : ss_ui (fl (wH h v J0 J1 J2 J3 J4 own str bes nds sn wl) T p w) (some (v + 4)) 20 (nI i) y = some (fl (wH h v J0 J1 J2 J3 J4 own str bes (nds.set i y) sn wl) T p w) := vX_u4 hv hi h31
theorem vF_a6 (hv : 12 ≤ v) {i : Nat} (hi : i < sn.length) (h31 : i < 2147483648) : ss_ai (fl (wH h v J0 J1 J2 J3 J4 own str bes nds sn wl) T p w) (some (v + 6)) 20 (nI i) = some (pv sn i) := vX_a6 hv hi h31
theorem vF_u6 (hv : 12 ≤ v) {i : Nat} {y : Int32} (hi : i < sn.length) (h31 : i < 2147483648) : ss_ui (fl (wH h v J0 J1 J2 J3 J4 own str bes nds sn wl) T p w) (some (v + 6)) 20 (nI i) y = some (fl (wH h v J0 J1 J2 J3 J4 own str bes nds (sn.set i y) wl) T p w) := vX_u6 hv hi h31
theorem vF_a7 (hv : 12 ≤ v) {i : Nat} (hi : i < wl.length) (h31 : i < 2147483648) : ss_ai (fl (wH h v J0 J1 J2 J3 J4 own str bes nds sn wl) T p w) (some (v + 7)) 20 (nI i) = some (pv wl i) := vX_a7 hv hi h31
theorem vF_u7 (hv : 12 ≤ v) {i : Nat} {y : Int32} (hi : i < wl.length) (h31 : i < 2147483648) : ss_ui (fl (wH h v J0 J1 J2 J3 J4 own str bes nds sn wl) T p w) (some (v + 7)) 20 (nI i) y = some (fl (wH h v J0 J1 J2 J3 J4 own str bes nds sn (wl.set i y)) T p w) := vX_u7 hv hi h31
theorem vX_tz {T : List Nat} (hv : 12 ≤ v) (ht : tz h T) : tz (wH h v J0 J1 J2 J3 J4 own str bes nds sn wl) T := by
  obtain ⟨h1, h2, tb, h3, h4⟩ := ht
  exact ⟨h1, h2, tb, (wH_o (by omega)).trans h3, h4⟩
end VQ
