/-! ===== rule: the class reads tests ===== -/
theorem en_sg {T : List Nat} {q : Nat} (h : q < T.length) (l0 : isL T q = false) (d0 : isD T q = false) : tk T q = 3 ∧ en T q = @ite _ (an T q) (Classical.propDecidable _) (q + 2) (q + 1) := by
  constructor
  · unfold tk
    rw [if_pos h, l0, d0, if_neg Bool.false_ne_true, if_neg Bool.false_ne_true]
  · unfold en
    rw [if_pos h, l0, d0, if_neg Bool.false_ne_true, if_neg Bool.false_ne_true]
theorem sgn_an {T : List Nat} {q x : Nat} (h : q < T.length) (hb : T.getD q 0 = x) (hx : x = 60 ∨ x = 61 ∨ x = 62) : tk T q = 3 ∧ en T q = @ite _ (an T q) (Classical.propDecidable _) (q + 2) (q + 1) := en_sg h (decide_eq_false (fun y => by omega)) (decide_eq_false (fun y => by omega))
theorem cp_C : ∀ s, s < 5 → -nI 6 - nI s = tk_C (6 + s, 0) := by decide +kernel
theorem kR_C {T : List Nat} {p c : Nat} : kR (rC T p c) := kR_bnd kR_Sm (fun p1 c1 h1 => by
  by_cases hC : isC T (blk T p1)
  · rw [if_pos hC]
    by_cases h6 : c1 < 60
    · rw [if_pos h6]
      exact kR_bnd kR_Sm (fun p2 c2 h2 => kR_r h2)
    · rw [if_neg h6]; exact kR_l
  · rw [if_neg hC]; exact kR_l)
theorem kR_F {T : List Nat} {full : Bool} {fK tK : Nat → Nat → rR} {p c : Nat} (hc : c ≤ 60) (hf : ∀ p c, c ≤ 60 → kR (fK p c)) (ht : ∀ p c, c ≤ 60 → kR (tK p c)) : kR (rF T full fK tK p c) := by
  unfold rF
  by_cases hn : wis T (blk T p) rw_not
  · rw [if_pos hn]
    split
    · exact kR_l
    · exact kR_bnd (hf _ _ hc) (fun p1 c1 h1 => kR_r h1)
  · rw [if_neg hn]
    by_cases hx : isX T (blk T p) 91
    · rw [if_pos hx]
      split
      · exact kR_l
      · refine kR_bnd (ht _ _ hc) (fun p1 c1 h1 => ?_)
        by_cases hy : isX T (blk T p1) 93
        · rw [if_pos hy]; exact kR_r h1
        · rw [if_neg hy]; exact kR_l
    · rw [if_neg hx]; exact kR_C
theorem kR_L {T : List Nat} {f : Nat → Nat → rR} (hf : ∀ p c, c ≤ 60 → kR (f p c)) : ∀ k o a p c, c ≤ 60 → kR (rL9 T f k o a p c) := by
  intro k
  induction k with
  | zero => intro o a p c hc; exact kR_r hc
  | succ k ih =>
    intro o a p c hc
    refine kR_bnd (hf p c hc) (fun p1 c1 h1 => kR_pre ?_)
    by_cases hA : wis T (blk T p1) rw_and
    · rw [if_pos hA]; exact ih _ _ _ _ h1
    · rw [if_neg hA]
      refine kR_pre ?_
      by_cases hO : wis T (blk T p1) rw_or
      · rw [if_pos hO]; exact ih _ _ _ _ h1
      · rw [if_neg hO]; exact kR_r h1
theorem kR_X {T : List Nat} : ∀ k, (∀ p c, c ≤ 60 → kR ((rX T k).1 p c)) ∧ ∀ p c, c ≤ 60 → kR ((rX T k).2 p c) := by
  intro k
  induction k with
  | zero => exact ⟨fun _ _ _ => kR_l, fun _ _ _ => kR_l⟩
  | succ k ih => exact ⟨fun p c hc => kR_F hc ih.1 ih.2, fun p c hc => kR_L (f := rF T (decide (k ≤ 1)) (rX T k).1 (rX T k).2) (fun p c hc => kR_F hc ih.1 ih.2) 401 false false p c hc⟩
def cOut (h : ss_Hp) (T : List Nat) (sx cd : List Int32) (c l : Nat) (o : Option ss_Hp) : rR → Prop
  | .inl F => cFt h T sx c F o
  | .inr (p', E, k') => o = some (lx (rH h (l + E.length) c k' (eW tk_C cd l E) sx) T (nI 0) p')
def bI (b : Bool) : Int32 := if b = true then nI 1 else nI 0
theorem bI_0 {b : Bool} : (bI b = nI 0) = (b = false) := by
  cases b
  · exact propext ⟨fun _ => rfl, fun _ => rfl⟩
  · exact propext ⟨fun h => absurd h (of_eq_false pb_10), fun h => by cases h⟩
section TQ
variable {h b' : ss_Hp} {l c k F : Nat} {cd sx : List Int32} {N : Nat} {T : List Nat} {p : Nat} {y Fi : Int32}
theorem C_cmp1 (ht : tz b' T) (hp : p ≤ T.length) (hN : 500 < N) (hc : isC T (blk T p)) : mm_T_comparison N (some 1) (lx b' T Fi p) = some (nI (cmS T (blk T p))) := by
  have hT := ht.1
  have is1 : ss_is (lx b' T Fi p) (some 1) 2 = true := tH_is
  have hCs : ∀ i, i < 3 → ss_ch 6 i = nI ([60, 61, 62].getD i 0) ∧ [60, 61, 62].getD i 0 < 256 := by decide +kernel
  obtain ⟨r, r1, r2⟩ := T_signIn (J := 6) (n := 3) (Cs := [60, 61, 62]) (F := Fi) ht (by omega) (by rfl) (by omega) hCs hp hN
  obtain ⟨hb, hby⟩ := hc
  have hx := sgn_an hb rfl hby
  have key : ∀ i, i < 3 → (nI i = -nI 1) = False := fun i hi => eq_false (pb_m1n (by omega))
  unfold mm_T_comparison mm_T_comparison_j58 mm_T_comparison_j37
  rcases r2 with ⟨rfl, hno⟩ | ⟨i, hi, rfl, hs⟩
  · have ha : an T (blk T p) := Classical.not_not.mp (fun hna => by
      rw [if_neg hna] at hx
      rcases hby with e | e | e
      · exact hno 0 (by omega) ⟨hb, hx.1, hx.2, e⟩
      · exact hno 1 (by omega) ⟨hb, hx.1, hx.2, e⟩
      · exact hno 2 (by omega) ⟨hb, hx.1, hx.2, e⟩)
    rw [if_pos ha] at hx
    have t3 : ss_gi (lx b' T Fi p) (some 1) 2 2 = some (nI 3) := by rw [← hx.1]; exact tH_g2
    have t4 : ss_gi (lx b' T Fi p) (some 1) 2 4 = some (nI (blk T p + 2)) := by rw [← hx.2]; exact tH_g4
    have t5 : ss_gi (lx b' T Fi p) (some 1) 2 3 = some (nI (blk T p)) := tH_g3
    have t6 : ss_gr (lx b' T Fi p) (some 1) 2 0 = some (some 2) := tH_r
    have t7 : ss_ai (lx b' T Fi p) (some 2) 20 (nI (blk T p)) = some (nI (T.getD (blk T p) 0)) := tz_ai ht hb
    rcases ha.1 with e | e
    · rw [e] at t7
      have ec : cmS T (blk T p) = 1 := by unfold cmS; rw [if_pos e, if_pos ha]
      rw [ec]
      simp only [pb_l2, pb_ll, nI_add, pb_mul, if_true, if_false, pb_bs, pb_b2n, pb_bz0, pb_bz1, pb_10, pb_01, is1, r1, t3, t4, t5, t6, t7]
    · rw [e] at t7
      have ec : cmS T (blk T p) = 3 := by unfold cmS; rw [if_neg (by omega), if_neg (by omega), if_pos ha]
      have n62 : (nI 62 = nI 60) = False := pb_nn (by omega) (by omega) (by omega)
      rw [ec]
      simp only [pb_l2, pb_ll, nI_add, pb_mul, if_true, if_false, pb_bs, pb_b2n, pb_bz0, pb_bz1, pb_10, pb_01, is1, r1, t3, t4, t5, t6, t7, n62]
  · obtain ⟨s1, s2, s3, s4⟩ := hs
    have hna : ¬ an T (blk T p) := fun ha => by
      rw [if_pos ha] at hx
      omega
    have ec : cmS T (blk T p) = 2 * i := by
      unfold cmS
      rw [if_neg hna, if_neg hna]
      rcases (by omega : i = 0 ∨ i = 1 ∨ i = 2) with e | e | e <;> subst e
      · have s4 : T.getD (blk T p) 0 = 60 := s4
        rw [if_pos s4]
      · have s4 : T.getD (blk T p) 0 = 61 := s4
        rw [if_neg (by omega), if_pos s4]
      · have s4 : T.getD (blk T p) 0 = 62 := s4
        rw [if_neg (by omega), if_neg (by omega)]
    rw [ec]
    simp only [pb_l2, pb_ll, nI_add, pb_mul, if_true, if_false, pb_bs, pb_b2n, pb_bz0, pb_bz1, pb_10, pb_01, is1, r1, key i hi]
theorem C_cmp0 (ht : tz b' T) (hp : p ≤ T.length) (hN : 500 < N) (hc : ¬ isC T (blk T p)) : mm_T_comparison N (some 1) (lx b' T Fi p) = some (-nI 1) := by
  have hT := ht.1
  have hq := blk_ub hp
  have is1 : ss_is (lx b' T Fi p) (some 1) 2 = true := tH_is
  have hCs : ∀ i, i < 3 → ss_ch 6 i = nI ([60, 61, 62].getD i 0) ∧ [60, 61, 62].getD i 0 < 256 := by decide +kernel
  obtain ⟨r, r1, r2⟩ := T_signIn (J := 6) (n := 3) (Cs := [60, 61, 62]) (F := Fi) ht (by omega) (by rfl) (by omega) hCs hp hN
  have t3 : ss_gi (lx b' T Fi p) (some 1) 2 2 = some (nI (tk T (blk T p))) := tH_g2
  have t4 : ss_gi (lx b' T Fi p) (some 1) 2 4 = some (nI (en T (blk T p))) := tH_g4
  have t5 : ss_gi (lx b' T Fi p) (some 1) 2 3 = some (nI (blk T p)) := tH_g3
  unfold mm_T_comparison mm_T_comparison_j37
  rcases r2 with ⟨rfl, hno⟩ | ⟨i, hi, rfl, hs⟩
  · by_cases h3 : tk T (blk T p) = 3
    · have hb : blk T p < T.length := by
        have := tk_cs (T := T) (q := blk T p)
        omega
      have l0 : isL T (blk T p) = false := by
        cases e : isL T (blk T p) with
        | false => rfl
        | true => unfold tk at h3; rw [if_pos hb, if_pos e] at h3; omega
      have d0 : isD T (blk T p) = false := by
        cases e : isD T (blk T p) with
        | false => rfl
        | true => unfold tk at h3; rw [if_pos hb, if_neg (by rw [l0]; exact Bool.false_ne_true), if_pos e] at h3; omega
      have he := (en_sg hb l0 d0).2
      have hna : ¬ an T (blk T p) := fun ha => hc ⟨hb, by have := ha.1; omega⟩
      rw [if_neg hna] at he
      have n2 : (nI (blk T p + 1) = nI (blk T p + 2)) = False := pb_nn (by omega) (by omega) (by omega)
      simp only [pb_l2, pb_ll, nI_add, pb_mul, if_true, if_false, pb_bs, pb_b2n, pb_bz0, pb_bz1, pb_10, pb_01, is1, r1, t3, h3, t4, he, t5, n2]
    · have hk := tk_lt (T := T) (q := blk T p)
      have n3 : (nI (tk T (blk T p)) = nI 3) = False := pb_nn h3 (by omega) (by omega)
      simp only [pb_l2, pb_ll, nI_add, pb_mul, if_true, if_false, pb_bs, pb_b2n, pb_bz0, pb_bz1, pb_10, pb_01, is1, r1, t3, n3]
  · refine absurd ⟨hs.1, ?_⟩ hc
    have s4 := hs.2.2.2
    rcases (by omega : i = 0 ∨ i = 1 ∨ i = 2) with e | e | e <;> subst e
    · exact Or.inl s4
    · exact Or.inr (Or.inl s4)
    · exact Or.inr (Or.inr s4)
theorem cFt_e (hh : cFt h T sx c F (some b')) : cFt h T sx c F (mm_RR_emit N (some 20) y b') := by
  obtain ⟨l, k, cd, p, h1, h2, h3, h4⟩ := hh
  rw [Option.some.inj h4]
  exact C_emitF h1 h2 h3
/-- a comparison -/
theorem C_cmp (ht : tz h T) (hN : 500 < N) (hp : p ≤ T.length) (hl : l ≤ p) (hk : k ≤ 60) (hcd : cd.length = 400) {wK : Option Nat → Int32 → Int32 → ss_Hp → Option ss_Hp} {d : Int32} (hn : ¬ wis T (blk T p) rw_not) (hx : ¬ isX T (blk T p) 91) : cOut h T sx cd c l (mm_RR_readFact N wK (some 20) d (lx (rH h l c k cd sx) T (nI 0) p)) (rC T p k) := by
  have hT := ht.1
  have s91 := T_sign0 (h := rH h l c k cd sx) (N := N) (F := nI 0) (rH_tz ht) hp (show 91 < 256 by omega) (fun q => hx ⟨q.1, q.2.2.2⟩)
  have n0 := T_isw0 (b' := rH h l c k cd sx) (F := nI 0) (rH_tz ht) rw_not_ok hp hN hn
  have S1 := C_sum (c := c) (sx := sx) (k := k) ht hN hp hl hk hcd
  have G1 := gR_S (c := k) hT hp
  have K1 := kR_Sm (T := T) (p := p) (c := k)
  unfold rC
  generalize mSm T p k = r at S1 G1 K1 ⊢
  rcases r with F | ⟨p1, E1, k1⟩
  · obtain ⟨l', k', cd', p', a1, a2, a3, a4⟩ := S1
    have hF : (nI F = nI 0) = False := pb_nn (by have := G1.1; omega) (by have := G1.2; omega) (by omega)
    refine ⟨l', k', cd', p', a1, a2, a3, ?_⟩
    unfold mm_RR_readFact
    simp only [pb_l2, pb_ll, nI_add, pb_mul, if_true, if_false, pb_bs, pb_b2n, pb_bz0, pb_bz1, pb_10, pb_01, rl_is, rl_r0, rl_r1, rl_r2, rl_j0, rl_j1, rl_j2, rl_p0, rl_p1, rl_p2, n0, s91, a4, T_welln hF]
  · have S1 : mm_RR_readSum N (some 20) (lx (rH h l c k cd sx) T (nI 0) p) = some (lx (rH h (l + E1.length) c k1 (eW tk_C cd l E1) sx) T (nI 0) p1) := S1
    obtain ⟨g1, g2, g3, -⟩ := G1
    have hk1 := K1 p1 E1 k1 rfl
    have hcd1 : (eW tk_C cd l E1).length = 400 := by rw [eW_len]; exact hcd
    have hq := blk_ub g2
    show cOut h T sx cd c l _ (rr_pre E1 (@ite _ (isC T (blk T p1)) (Classical.propDecidable _) _ _))
    by_cases hC : isC T (blk T p1)
    · rw [if_pos hC]
      have hcm := cmS_b (T := T) (q := blk T p1)
      have m1 : (nI (cmS T (blk T p1)) = -nI 1) = False := eq_false (pb_m1n (by omega))
      by_cases h6 : k1 < 60
      · rw [if_pos h6]
        have hep := en_ub hq
        have hele := en_gt hC.1
        have hble := blk_le (T := T) (p := p1)
        have S2 := C_sum (c := c) (sx := sx) (k := k1 + 1) (l := l + E1.length) ht hN hep (by omega) (by omega) hcd1
        have G2 := gR_S (c := k1 + 1) hT hep
        generalize mSm T (en T (blk T p1)) (k1 + 1) = r2 at S2 G2 ⊢
        rcases r2 with F | ⟨p2, E2, k2⟩
        · obtain ⟨l', k', cd', p', a1, a2, a3, a4⟩ := S2
          have e := C_emitF (h := h) (c := c) (k := k') (sx := sx) (F := F) (N := N) (y := tk_C (6 + cmS T (blk T p1), 0)) a1 a2 a3
          obtain ⟨l4, k4, cd4, p4, d1, d2, d3, d4⟩ := e
          refine ⟨l4, k4, cd4, p4, d1, d2, d3, ?_⟩
          unfold mm_RR_readFact mm_RR_readFact_j69 mm_RR_readFact_j102
          simp only [pb_l2, pb_ll, nI_add, pb_mul, if_true, if_false, pb_bs, pb_b2n, pb_bz0, pb_bz1, pb_10, pb_01, rl_is, rl_r0, rl_r1, rl_r2, rl_j0, rl_j1, rl_j2, rl_p0, rl_p1, rl_p2, n0, s91, S1, T_wellx, C_cmp1 (rH_tz ht) g2 hN hC, m1, C_cnt1 h6, T_adv (rH_tz ht) g2 hN, a4, cp_C _ hcm, d4]
        · have S2 : mm_RR_readSum N (some 20) (lx (rH h (l + E1.length) c (k1 + 1) (eW tk_C cd l E1) sx) T (nI 0) (en T (blk T p1))) = some (lx (rH h (l + E1.length + E2.length) c k2 (eW tk_C (eW tk_C cd l E1) (l + E1.length) E2) sx) T (nI 0) p2) := S2
          obtain ⟨b1, b2, b3, -⟩ := G2
          have hcd2 : (eW tk_C (eW tk_C cd l E1) (l + E1.length) E2).length = 400 := by rw [eW_len]; exact hcd1
          show mm_RR_readFact N wK (some 20) d (lx (rH h l c k cd sx) T (nI 0) p) = some (lx (rH h (l + (E1 ++ (E2 ++ [(6 + cmS T (blk T p1), 0)])).length) c k2 (eW tk_C cd l (E1 ++ (E2 ++ [(6 + cmS T (blk T p1), 0)]))) sx) T (nI 0) p2)
          rw [eW_app, eW_app, List.length_append, List.length_append]
          show _ = some (lx (rH h (l + (E1.length + (E2.length + 1))) c k2 ((eW tk_C (eW tk_C cd l E1) (l + E1.length) E2).set (l + E1.length + E2.length) (tk_C (6 + cmS T (blk T p1), 0))) sx) T (nI 0) p2)
          rw [show l + (E1.length + (E2.length + 1)) = l + E1.length + E2.length + 1 by omega]
          unfold mm_RR_readFact mm_RR_readFact_j69 mm_RR_readFact_j102
          simp only [pb_l2, pb_ll, nI_add, pb_mul, if_true, if_false, pb_bs, pb_b2n, pb_bz0, pb_bz1, pb_10, pb_01, rl_is, rl_r0, rl_r1, rl_r2, rl_j0, rl_j1, rl_j2, rl_p0, rl_p1, rl_p2, n0, s91, S1, T_wellx, C_cmp1 (rH_tz ht) g2 hN hC, m1, C_cnt1 h6, T_adv (rH_tz ht) g2 hN, S2, cp_C _ hcm, C_emit (show l + E1.length + E2.length < 400 by omega) hcd2]
      · rw [if_neg h6]
        refine ⟨l + E1.length, k1 + 1, eW tk_C cd l E1, p1, by omega, hcd1, g2, ?_⟩
        unfold mm_RR_readFact mm_RR_readFact_j69 mm_RR_readFact_j102
        simp only [pb_l2, pb_ll, nI_add, pb_mul, if_true, if_false, pb_bs, pb_b2n, pb_bz0, pb_bz1, pb_10, pb_01, rl_is, rl_r0, rl_r1, rl_r2, rl_j0, rl_j1, rl_j2, rl_p0, rl_p1, rl_p2, n0, s91, S1, T_wellx, C_cmp1 (rH_tz ht) g2 hN hC, m1, C_cnt2 (show k1 = 60 by omega), T_welln (rf_n hT g2 (show 3 < 8 by omega))]
    · rw [if_neg hC]
      refine ⟨l + E1.length, k1 + 1, eW tk_C cd l E1, p1, by omega, hcd1, g2, ?_⟩
      unfold mm_RR_readFact mm_RR_readFact_j69 mm_RR_readFact_j102
      simp only [pb_l2, pb_ll, nI_add, pb_mul, if_true, if_false, pb_bs, pb_b2n, pb_bz0, pb_bz1, pb_10, pb_01, rl_is, rl_r0, rl_r1, rl_r2, rl_j0, rl_j1, rl_j2, rl_p0, rl_p1, rl_p2, n0, s91, S1, T_wellx, C_cmp0 (rH_tz ht) g2 hN hC, T_failr, C_cntF (rf_n hT g2 (show 0 < 8 by omega)), T_welln (rf_n hT g2 (show 0 < 8 by omega))]
def cRel (h : ss_Hp) (T : List Nat) (sx : List Int32) (c : Nat) (d : Nat) (fC : Option Nat → Int32 → ss_Hp → Option ss_Hp) (f : Nat → Nat → rR) : Prop := ∀ p l k cd, p ≤ T.length → l ≤ p → k ≤ 60 → cd.length = 400 → cOut h T sx cd c l (fC (some 20) (nI d) (lx (rH h l c k cd sx) T (nI 0) p)) (f p k)
theorem C_fact (ht : tz h T) (hN : 500 < N) {d b : Nat} {full : Bool} {fC tC : Option Nat → Int32 → ss_Hp → Option ss_Hp} {fK tK : Nat → Nat → rR} (hd : d ≤ 10) (hfd : full = decide (10 ≤ d)) (hf : full = false → cRel h T sx c (d + 1) fC fK) (htt : full = false → cRel h T sx c (d + 1) tC tK) (gf : full = false → ∀ p c, p ≤ T.length → gR T p b b01 (fK p c)) (gt : full = false → ∀ p c, p ≤ T.length → gR T p b b01 (tK p c)) : cRel h T sx c d (fun t d h => mm_RR_readFact N (fun t d n h => mm_RR_readWithin N fC tC t d n h) t d h) (rF T full fK tK) := by
  intro p l k cd hp hl hk hcd
  have hT := ht.1
  have hq := blk_ub hp
  have hbl := blk_le (T := T) (p := p)
  show cOut h T sx cd c l (mm_RR_readFact N (fun t d n h => mm_RR_readWithin N fC tC t d n h) (some 20) (nI d) (lx (rH h l c k cd sx) T (nI 0) p)) _
  unfold rF
  by_cases hn : wis T (blk T p) rw_not
  · rw [if_pos hn]
    have n1 := T_isw1 (b' := rH h l c k cd sx) (F := nI 0) (rH_tz ht) rw_not_ok hp hN hn
    have hen := en_w hn rw_not_wl hq
    have hub := eL_ub hq
    cases full with
    | true =>
      rw [if_pos rfl]
      have hd10 := of_decide_eq_true hfd.symm
      have c10 : (nI d < nI 10) = False := eq_false (nI_nlt hd10 (by omega))
      refine ⟨l, k, cd, p, by omega, hcd, hp, ?_⟩
      unfold mm_RR_readFact mm_RR_readFact_j26 mm_RR_readWithin
      simp only [pb_l2, pb_ll, nI_add, pb_mul, if_true, if_false, pb_bs, pb_b2n, pb_bz0, pb_bz1, pb_10, pb_01, rl_is, rl_r0, rl_r1, rl_r2, rl_j0, rl_j1, rl_j2, rl_p0, rl_p1, rl_p2, n1, c10, T_failr]
    | false =>
      rw [if_neg Bool.false_ne_true]
      have hd10 := of_decide_eq_false hfd.symm
      have c10 : (nI d < nI 10) = True := eq_true (nI_lt (by omega) (by omega))
      have R := hf rfl (eL T (blk T p)) l k cd hub (by omega) hk hcd
      have G := gf rfl (eL T (blk T p)) k hub
      generalize fK (eL T (blk T p)) k = r at R G ⊢
      rcases r with F | ⟨p1, E1, k1⟩
      · obtain ⟨l', k', cd', p', a1, a2, a3, a4⟩ := R
        obtain ⟨l4, k4, cd4, p4, d1, d2, d3, d4⟩ := C_emitF (h := h) (c := c) (k := k') (sx := sx) (F := F) (N := N) (y := -nI 13) a1 a2 a3
        refine ⟨l4, k4, cd4, p4, d1, d2, d3, ?_⟩
        unfold mm_RR_readFact mm_RR_readFact_j26 mm_RR_readWithin
        simp only [pb_l2, pb_ll, nI_add, pb_mul, if_true, if_false, pb_bs, pb_b2n, pb_bz0, pb_bz1, pb_10, pb_01, rl_is, rl_r0, rl_r1, rl_r2, rl_j0, rl_j1, rl_j2, rl_p0, rl_p1, rl_p2, n1, c10, T_adv (rH_tz ht) hp hN, hen.1, a4, d4]
      · have R : fC (some 20) (nI (d + 1)) (lx (rH h l c k cd sx) T (nI 0) (eL T (blk T p))) = some (lx (rH h (l + E1.length) c k1 (eW tk_C cd l E1) sx) T (nI 0) p1) := R
        obtain ⟨g1, g2, g3, -⟩ := G
        have hcd1 : (eW tk_C cd l E1).length = 400 := by rw [eW_len]; exact hcd
        show _ = some (lx (rH h (l + (E1 ++ [(11, 0)]).length) c k1 (eW tk_C cd l (E1 ++ [(11, 0)])) sx) T (nI 0) p1)
        rw [eW_app, List.length_append]
        show _ = some (lx (rH h (l + E1.length + 1) c k1 ((eW tk_C cd l E1).set (l + E1.length) (-nI 13)) sx) T (nI 0) p1)
        unfold mm_RR_readFact mm_RR_readFact_j26 mm_RR_readWithin
        simp only [pb_l2, pb_ll, nI_add, pb_mul, if_true, if_false, pb_bs, pb_b2n, pb_bz0, pb_bz1, pb_10, pb_01, rl_is, rl_r0, rl_r1, rl_r2, rl_j0, rl_j1, rl_j2, rl_p0, rl_p1, rl_p2, n1, c10, T_adv (rH_tz ht) hp hN, hen.1, R, C_emit (show l + E1.length < 400 by omega) hcd1]
  · rw [if_neg hn]
    have n0 := T_isw0 (b' := rH h l c k cd sx) (F := nI 0) (rH_tz ht) rw_not_ok hp hN hn
    by_cases hx : isX T (blk T p) 91
    · rw [if_pos hx]
      have hsg : sgn T (blk T p) 91 := sgn_of hx.1 hx.2 (by omega) (by omega)
      have s91 := T_sign1 (h := rH h l c k cd sx) (N := N) (F := nI 0) (rH_tz ht) hp hsg
      have hen := hsg.2.2.1
      have hx1 := hx.1
      cases full with
      | true =>
        rw [if_pos rfl]
        have hd10 := of_decide_eq_true hfd.symm
        have c10 : (nI d < nI 10) = False := eq_false (nI_nlt hd10 (by omega))
        refine ⟨l, k, cd, p, by omega, hcd, hp, ?_⟩
        unfold mm_RR_readFact mm_RR_readFact_j26 mm_RR_readWithin
        simp only [pb_l2, pb_ll, nI_add, pb_mul, if_true, if_false, pb_bs, pb_b2n, pb_bz0, pb_bz1, pb_10, pb_01, rl_is, rl_r0, rl_r1, rl_r2, rl_j0, rl_j1, rl_j2, rl_p0, rl_p1, rl_p2, n0, s91, c10, T_failr]
      | false =>
        rw [if_neg Bool.false_ne_true]
        have hd10 := of_decide_eq_false hfd.symm
        have c10 : (nI d < nI 10) = True := eq_true (nI_lt (by omega) (by omega))
        have R := htt rfl (blk T p + 1) l k cd hx.1 (by omega) hk hcd
        have G := gt rfl (blk T p + 1) k hx.1
        generalize tK (blk T p + 1) k = r at R G ⊢
        rcases r with F | ⟨p1, E1, k1⟩
        · obtain ⟨l', k', cd', p', a1, a2, a3, a4⟩ := R
          have hF : (nI F = nI 0) = False := pb_nn (by have := G.1; omega) (by have := G.2; omega) (by omega)
          refine ⟨l', k', cd', p', a1, a2, a3, ?_⟩
          unfold mm_RR_readFact mm_RR_readFact_j26 mm_RR_readWithin mm_RR_readWithin_j79 mm_RR_readWithin_j87
          simp only [pb_l2, pb_ll, nI_add, pb_mul, if_true, if_false, pb_bs, pb_b2n, pb_bz0, pb_bz1, pb_10, pb_01, rl_is, rl_r0, rl_r1, rl_r2, rl_j0, rl_j1, rl_j2, rl_p0, rl_p1, rl_p2, n0, s91, c10, T_adv (rH_tz ht) hp hN, hen, a4, T_welln hF, T_failn hF]
        · have R : tC (some 20) (nI (d + 1)) (lx (rH h l c k cd sx) T (nI 0) (blk T p + 1)) = some (lx (rH h (l + E1.length) c k1 (eW tk_C cd l E1) sx) T (nI 0) p1) := R
          obtain ⟨g1, g2, g3, -⟩ := G
          have hcd1 : (eW tk_C cd l E1).length = 400 := by rw [eW_len]; exact hcd
          show cOut h T sx cd c l _ (rr_pre E1 (@ite _ (isX T (blk T p1) 93) (Classical.propDecidable _) _ _))
          by_cases hy : isX T (blk T p1) 93
          · rw [if_pos hy]
            have hsy : sgn T (blk T p1) 93 := sgn_of hy.1 hy.2 (by omega) (by omega)
            have heny := hsy.2.2.1
            show _ = some (lx (rH h (l + (E1 ++ []).length) c k1 (eW tk_C cd l (E1 ++ [])) sx) T (nI 0) (blk T p1 + 1))
            rw [List.append_nil]
            unfold mm_RR_readFact mm_RR_readFact_j26 mm_RR_readWithin mm_RR_readWithin_j87
            simp only [pb_l2, pb_ll, nI_add, pb_mul, if_true, if_false, pb_bs, pb_b2n, pb_bz0, pb_bz1, pb_10, pb_01, rl_is, rl_r0, rl_r1, rl_r2, rl_j0, rl_j1, rl_j2, rl_p0, rl_p1, rl_p2, n0, s91, c10, T_adv (rH_tz ht) hp hN, hen, R, T_wellx, T_sign1 (rH_tz ht) g2 hsy, T_adv (rH_tz ht) g2 hN, heny]
          · rw [if_neg hy]
            refine ⟨l + E1.length, k1, eW tk_C cd l E1, p1, by omega, hcd1, g2, ?_⟩
            unfold mm_RR_readFact mm_RR_readFact_j26 mm_RR_readWithin mm_RR_readWithin_j79 mm_RR_readWithin_j87
            simp only [pb_l2, pb_ll, nI_add, pb_mul, if_true, if_false, pb_bs, pb_b2n, pb_bz0, pb_bz1, pb_10, pb_01, rl_is, rl_r0, rl_r1, rl_r2, rl_j0, rl_j1, rl_j2, rl_p0, rl_p1, rl_p2, n0, s91, c10, T_adv (rH_tz ht) hp hN, hen, R, T_wellx, T_sign0 (rH_tz ht) g2 (show 93 < 256 by omega) (fun q => hy ⟨q.1, q.2.2.2⟩), T_failr]
    · rw [if_neg hx]
      exact C_cmp ht hN hp hl hk hcd hn hx
end TQ
