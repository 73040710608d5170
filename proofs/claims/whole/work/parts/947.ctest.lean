/-! ===== rule: the class reads tests, a clause ===== -/
section TT
variable {h b' : ss_Hp} {l c k F : Nat} {cd sx : List Int32} {N : Nat} {T : List Nat} {p : Nat} {y Fi : Int32}
theorem C_ob {a : Bool} {kk : Nat} {α : Type} {K : ss_Hp → Option α} (hy : tk_C (kk, 0) = y) (hl : l + nb a ≤ 400) (hcd : cd.length = 400) : (if bI a = nI 0 then K (lx (rH h l c k cd sx) T Fi p) else (mm_RR_emit N (some 20) y (lx (rH h l c k cd sx) T Fi p)).bind K) = K (lx (rH h (l + nb a) c k (eW tk_C cd l (ob a kk)) sx) T Fi p) := by
  cases a with
  | false =>
    rw [if_pos (by rw [bI_0])]
    rfl
  | true =>
    have hl2 : l + 1 ≤ 400 := hl
    rw [if_neg (by rw [bI_0]; exact fun q => by cases q), C_emit hl2 hcd, pb_bs, ← hy]
    rfl
theorem C_obF {a : Bool} {α : Type} {K : ss_Hp → Option α} (hl : l ≤ 400) (hcd : cd.length = 400) (hp : p ≤ T.length) : ∃ l' cd', l' ≤ 400 ∧ cd'.length = 400 ∧ (if bI a = nI 0 then K (lx (rH h l c k cd sx) T (nI F) p) else (mm_RR_emit N (some 20) y (lx (rH h l c k cd sx) T (nI F) p)).bind K) = K (lx (rH h l' c k cd' sx) T (nI F) p) := by
  cases a with
  | false =>
    refine ⟨l, cd, hl, hcd, ?_⟩
    rw [if_pos (by rw [bI_0])]
  | true =>
    rcases Nat.lt_or_ge l 400 with q | q
    · refine ⟨l + 1, cd.set l y, q, by rw [List.length_set]; exact hcd, ?_⟩
      rw [if_neg (by rw [bI_0]; exact fun q => by cases q), C_emit q hcd, pb_bs]
    · refine ⟨l, cd, hl, hcd, ?_⟩
      have c0 : (nI 400 ≤ nI l) = True := eq_true (nI_le q (by omega))
      have e1 : mm_RR_emit N (some 20) y (lx (rH h l c k cd sx) T (nI F) p) = some (lx (rH h l c k cd sx) T (nI F) p) := by
        unfold mm_RR_emit mm_RR_emit_j32
        simp only [pb_l2, pb_ll, nI_add, pb_mul, if_true, if_false, pb_bs, pb_b2n, pb_bz0, pb_bz1, pb_10, pb_01, rl_is, rl_r0, rl_r1, rl_r2, rl_j0, rl_j1, rl_j2, rl_p0, rl_p1, rl_p2, rl_len hcd, c0]
      rw [if_neg (by rw [bI_0]; exact fun q => by cases q), e1, pb_bs]
theorem C_stopT { M : Nat} {x1 x2 x3 dI : Int32} {fC : Option Nat → Int32 → ss_Hp → Option ss_Hp} (hF : (Fi = nI 0) = False) (hM : 0 < M) : ss_lp (mm_RR_readTest_b7 N fC (some 20) dI) M (x1, x2, x3, lx (rH h l c k cd sx) T Fi p) = some (.inl (lx (rH h l c k cd sx) T Fi p)) := by
  refine lp_out ?_ hM
  unfold mm_RR_readTest_b7
  by_cases q : nI 400 ≤ x3
  · simp only [pb_l2, pb_ll, nI_add, pb_mul, if_true, if_false, pb_bs, pb_b2n, pb_bz0, pb_bz1, pb_10, pb_01, eq_true q]
  · simp only [pb_l2, pb_ll, nI_add, pb_mul, if_true, if_false, pb_bs, pb_b2n, pb_bz0, pb_bz1, pb_10, pb_01, rl_is, rl_r0, rl_r1, rl_r2, rl_j0, rl_j1, rl_j2, rl_p0, rl_p1, rl_p2, eq_false q, T_welln hF]
end TT
theorem C_testL {h : ss_Hp} {c : Nat} {sx : List Int32} {N : Nat} {T : List Nat} (ht : tz h T) (hN : 500 < N) {d b : Nat} {fC : Option Nat → Int32 → ss_Hp → Option ss_Hp} {f : Nat → Nat → rR} (hR : cRel h T sx c d fC f) (gf : ∀ p c, p ≤ T.length → gR T p b b01 (f p c)) (kf : ∀ p c, c ≤ 60 → kR (f p c)) : ∀ n p o a l k cd i M, T.length - p < n → n < M → p ≤ T.length → 2 * i ≤ p → l + nb o + nb a ≤ p → k ≤ 60 → cd.length = 400 → sumOut h T sx cd c l (ss_lp (mm_RR_readTest_b7 N fC (some 20) (nI d)) M (bI o, bI a, nI i, lx (rH h l c k cd sx) T (nI 0) p)) (rL9 T f n o a p k) := by
  have hT := ht.1
  have m11 : tk_C (12, 0) = -nI 11 := rfl
  have m12 : tk_C (13, 0) = -nI 12 := rfl
  intro n
  induction n with
  | zero => intro p o a l k cd i M h1; omega
  | succ n ih =>
    intro p o a l k cd i M h1 hM hp hi hl hk hcd
    obtain ⟨M, rfl⟩ : ∃ M', M = M' + 1 := ⟨M - 1, by omega⟩
    have no := nb_le (b := o)
    have na := nb_le (b := a)
    have c4 : (nI 400 ≤ nI i) = False := eq_false (nI_ge (by omega) (by omega))
    have V := hR p l k cd hp (by omega) hk hcd
    have gV := gf p k hp
    have kV := kf p k hk
    show sumOut h T sx cd c l _ (rr_bnd (f p k) _)
    generalize f p k = r at V gV kV ⊢
    rcases r with F | ⟨p1, E1, k1⟩
    · have hF : (nI F = nI 0) = False := pb_nn (by have := gV.1; omega) (by have := gV.2; omega) (by omega)
      obtain ⟨l1, k1, cd1, p1, v1, v2, v3, V⟩ := V
      show sumOut h T sx cd c l _ (.inl F)
      obtain ⟨l2, cd2, l2a, l2b, l2c⟩ := C_obF (h := h) (c := c) (k := k1) (sx := sx) (F := F) (N := N) (a := a) (y := -nI 11) (K := mm_RR_readTest_j40 N fC (some 20) (nI d) (bI o) (nI i)) v1 v2 v3
      have b1 : mm_RR_readTest_b7 N fC (some 20) (nI d) (bI o, bI a, nI i, lx (rH h l c k cd sx) T (nI 0) p) = mm_RR_readTest_j40 N fC (some 20) (nI d) (bI o) (nI i) (lx (rH h l2 c k1 cd2 sx) T (nI F) p1) := by
        rw [← l2c]
        unfold mm_RR_readTest_b7
        simp only [pb_l2, pb_ll, nI_add, pb_mul, if_true, if_false, pb_bs, pb_b2n, pb_bz0, pb_bz1, pb_10, pb_01, rl_is, rl_r0, rl_r1, rl_r2, rl_j0, rl_j1, rl_j2, rl_p0, rl_p1, rl_p2, c4, T_wellx, V]
      rw [ss_lp, b1]
      by_cases hA : wis T (blk T p1) rw_and
      · have b2 : mm_RR_readTest_j40 N fC (some 20) (nI d) (bI o) (nI i) (lx (rH h l2 c k1 cd2 sx) T (nI F) p1) = some (.inl (bI o, nI 1, nI (i + 1), lx (rH h l2 c k1 cd2 sx) T (nI F) (en T (blk T p1)))) := by
          unfold mm_RR_readTest_j40 mm_RR_readTest_j79
          simp only [pb_l2, pb_ll, nI_add, pb_mul, if_true, if_false, pb_bs, pb_b2n, pb_bz0, pb_bz1, pb_10, pb_01, rl_is, rl_r0, rl_r1, rl_r2, rl_j0, rl_j1, rl_j2, rl_p0, rl_p1, rl_p2, T_isw1 (rH_tz ht) rw_and_ok v3 hN hA, T_adv (rH_tz ht) v3 hN]
        rw [b2]
        exact ⟨l2, k1, cd2, en T (blk T p1), l2a, l2b, en_ub (blk_ub v3), Or.inl (C_stopT hF (by omega))⟩
      · obtain ⟨l3, cd3, l3a, l3b, l3c⟩ := C_obF (h := h) (c := c) (k := k1) (sx := sx) (F := F) (N := N) (a := o) (y := -nI 12) (K := mm_RR_readTest_j64 N fC (some 20) (nI d) (nI 0) (nI i)) l2a l2b v3
        have b2 : mm_RR_readTest_j40 N fC (some 20) (nI d) (bI o) (nI i) (lx (rH h l2 c k1 cd2 sx) T (nI F) p1) = mm_RR_readTest_j64 N fC (some 20) (nI d) (nI 0) (nI i) (lx (rH h l3 c k1 cd3 sx) T (nI F) p1) := by
          rw [← l3c]
          unfold mm_RR_readTest_j40
          simp only [pb_l2, pb_ll, nI_add, pb_mul, if_true, if_false, pb_bs, pb_b2n, pb_bz0, pb_bz1, pb_10, pb_01, rl_is, rl_r0, rl_r1, rl_r2, rl_j0, rl_j1, rl_j2, rl_p0, rl_p1, rl_p2, T_isw0 (rH_tz ht) rw_and_ok v3 hN hA]
        rw [b2]
        by_cases hO : wis T (blk T p1) rw_or
        · have b3 : mm_RR_readTest_j64 N fC (some 20) (nI d) (nI 0) (nI i) (lx (rH h l3 c k1 cd3 sx) T (nI F) p1) = some (.inl (nI 1, nI 0, nI (i + 1), lx (rH h l3 c k1 cd3 sx) T (nI F) (en T (blk T p1)))) := by
            unfold mm_RR_readTest_j64 mm_RR_readTest_j79
            simp only [pb_l2, pb_ll, nI_add, pb_mul, if_true, if_false, pb_bs, pb_b2n, pb_bz0, pb_bz1, pb_10, pb_01, rl_is, rl_r0, rl_r1, rl_r2, rl_j0, rl_j1, rl_j2, rl_p0, rl_p1, rl_p2, T_isw1 (rH_tz ht) rw_or_ok v3 hN hO, T_adv (rH_tz ht) v3 hN]
          rw [b3]
          exact ⟨l3, k1, cd3, en T (blk T p1), l3a, l3b, en_ub (blk_ub v3), Or.inl (C_stopT hF (by omega))⟩
        · have b3 : mm_RR_readTest_j64 N fC (some 20) (nI d) (nI 0) (nI i) (lx (rH h l3 c k1 cd3 sx) T (nI F) p1) = some (.inr (.inr (lx (rH h l3 c k1 cd3 sx) T (nI F) p1))) := by
            unfold mm_RR_readTest_j64
            simp only [pb_l2, pb_ll, nI_add, pb_mul, if_true, if_false, pb_bs, pb_b2n, pb_bz0, pb_bz1, pb_10, pb_01, rl_is, rl_r0, rl_r1, rl_r2, rl_j0, rl_j1, rl_j2, rl_p0, rl_p1, rl_p2, T_isw0 (rH_tz ht) rw_or_ok v3 hN hO]
          rw [b3]
          exact ⟨l3, k1, cd3, p1, l3a, l3b, v3, Or.inr rfl⟩
    · have V : fC (some 20) (nI d) (lx (rH h l c k cd sx) T (nI 0) p) = some (lx (rH h (l + E1.length) c k1 (eW tk_C cd l E1) sx) T (nI 0) p1) := V
      obtain ⟨g1, g2, g3, -⟩ := gV
      have hk1 := kV p1 E1 k1 rfl
      have hq := blk_ub g2
      have hbl := blk_le (T := T) (p := p1)
      refine sumOut_pre ?_
      have hcd1 : (eW tk_C cd l E1).length = 400 := by rw [eW_len]; exact hcd
      refine sumOut_pre ?_
      rw [ob_len]
      have hcd2 : (eW tk_C (eW tk_C cd l E1) (l + E1.length) (ob a 12)).length = 400 := by rw [eW_len]; exact hcd1
      have lc := C_ob (h := h) (c := c) (k := k1) (sx := sx) (T := T) (Fi := nI 0) (p := p1) (N := N) (l := l + E1.length) (a := a) (kk := 12) (K := mm_RR_readTest_j40 N fC (some 20) (nI d) (bI o) (nI i)) m11 (by omega) hcd1
      have b1 : mm_RR_readTest_b7 N fC (some 20) (nI d) (bI o, bI a, nI i, lx (rH h l c k cd sx) T (nI 0) p) = mm_RR_readTest_j40 N fC (some 20) (nI d) (bI o) (nI i) (lx (rH h (l + E1.length + nb a) c k1 (eW tk_C (eW tk_C cd l E1) (l + E1.length) (ob a 12)) sx) T (nI 0) p1) := by
        rw [← lc]
        unfold mm_RR_readTest_b7
        simp only [pb_l2, pb_ll, nI_add, pb_mul, if_true, if_false, pb_bs, pb_b2n, pb_bz0, pb_bz1, pb_10, pb_01, rl_is, rl_r0, rl_r1, rl_r2, rl_j0, rl_j1, rl_j2, rl_p0, rl_p1, rl_p2, c4, T_wellx, V]
      rw [ss_lp, b1]
      generalize eW tk_C (eW tk_C cd l E1) (l + E1.length) (ob a 12) = cd2 at hcd2 ⊢
      by_cases hA : wis T (blk T p1) rw_and
      · rw [if_pos hA]
        have hen := en_w hA rw_and_wl hq
        have hub := eL_ub hq
        have b2 : mm_RR_readTest_j40 N fC (some 20) (nI d) (bI o) (nI i) (lx (rH h (l + E1.length + nb a) c k1 cd2 sx) T (nI 0) p1) = some (.inl (bI o, bI true, nI (i + 1), lx (rH h (l + E1.length + nb a) c k1 cd2 sx) T (nI 0) (eL T (blk T p1)))) := by
          unfold mm_RR_readTest_j40 mm_RR_readTest_j79
          simp only [pb_l2, pb_ll, nI_add, pb_mul, if_true, if_false, pb_bs, pb_b2n, pb_bz0, pb_bz1, pb_10, pb_01, rl_is, rl_r0, rl_r1, rl_r2, rl_j0, rl_j1, rl_j2, rl_p0, rl_p1, rl_p2, T_isw1 (rH_tz ht) rw_and_ok g2 hN hA, T_adv (rH_tz ht) g2 hN, hen.1]
          rfl
        rw [b2]
        exact ih (eL T (blk T p1)) o true _ k1 cd2 (i + 1) M (by omega) (by omega) hub (by omega) (by have e9 : nb true = 1 := rfl; rw [e9]; omega) hk1 hcd2
      · rw [if_neg hA]
        refine sumOut_pre ?_
        rw [ob_len]
        have hcd3 : (eW tk_C cd2 (l + E1.length + nb a) (ob o 13)).length = 400 := by rw [eW_len]; exact hcd2
        have lc3 := C_ob (h := h) (c := c) (k := k1) (sx := sx) (T := T) (Fi := nI 0) (p := p1) (N := N) (l := l + E1.length + nb a) (a := o) (kk := 13) (K := mm_RR_readTest_j64 N fC (some 20) (nI d) (nI 0) (nI i)) m12 (by omega) hcd2
        have b2 : mm_RR_readTest_j40 N fC (some 20) (nI d) (bI o) (nI i) (lx (rH h (l + E1.length + nb a) c k1 cd2 sx) T (nI 0) p1) = mm_RR_readTest_j64 N fC (some 20) (nI d) (nI 0) (nI i) (lx (rH h (l + E1.length + nb a + nb o) c k1 (eW tk_C cd2 (l + E1.length + nb a) (ob o 13)) sx) T (nI 0) p1) := by
          rw [← lc3]
          unfold mm_RR_readTest_j40
          simp only [pb_l2, pb_ll, nI_add, pb_mul, if_true, if_false, pb_bs, pb_b2n, pb_bz0, pb_bz1, pb_10, pb_01, rl_is, rl_r0, rl_r1, rl_r2, rl_j0, rl_j1, rl_j2, rl_p0, rl_p1, rl_p2, T_isw0 (rH_tz ht) rw_and_ok g2 hN hA]
        rw [b2]
        by_cases hO : wis T (blk T p1) rw_or
        · rw [if_pos hO]
          have hen := en_w hO rw_or_wl hq
          have hub := eL_ub hq
          have b3 : mm_RR_readTest_j64 N fC (some 20) (nI d) (nI 0) (nI i) (lx (rH h (l + E1.length + nb a + nb o) c k1 (eW tk_C cd2 (l + E1.length + nb a) (ob o 13)) sx) T (nI 0) p1) = some (.inl (bI true, bI false, nI (i + 1), lx (rH h (l + E1.length + nb a + nb o) c k1 (eW tk_C cd2 (l + E1.length + nb a) (ob o 13)) sx) T (nI 0) (eL T (blk T p1)))) := by
            unfold mm_RR_readTest_j64 mm_RR_readTest_j79
            simp only [pb_l2, pb_ll, nI_add, pb_mul, if_true, if_false, pb_bs, pb_b2n, pb_bz0, pb_bz1, pb_10, pb_01, rl_is, rl_r0, rl_r1, rl_r2, rl_j0, rl_j1, rl_j2, rl_p0, rl_p1, rl_p2, T_isw1 (rH_tz ht) rw_or_ok g2 hN hO, T_adv (rH_tz ht) g2 hN, hen.1]
            rfl
          rw [b3]
          exact ih (eL T (blk T p1)) true false _ k1 _ (i + 1) M (by omega) (by omega) hub (by omega) (by have e9 : nb true = 1 := rfl; have e8 : nb false = 0 := rfl; rw [e9, e8]; omega) hk1 hcd3
        · rw [if_neg hO]
          have b3 : mm_RR_readTest_j64 N fC (some 20) (nI d) (nI 0) (nI i) (lx (rH h (l + E1.length + nb a + nb o) c k1 (eW tk_C cd2 (l + E1.length + nb a) (ob o 13)) sx) T (nI 0) p1) = some (.inr (.inr (lx (rH h (l + E1.length + nb a + nb o) c k1 (eW tk_C cd2 (l + E1.length + nb a) (ob o 13)) sx) T (nI 0) p1))) := by
            unfold mm_RR_readTest_j64
            simp only [pb_l2, pb_ll, nI_add, pb_mul, if_true, if_false, pb_bs, pb_b2n, pb_bz0, pb_bz1, pb_10, pb_01, rl_is, rl_r0, rl_r1, rl_r2, rl_j0, rl_j1, rl_j2, rl_p0, rl_p1, rl_p2, T_isw0 (rH_tz ht) rw_or_ok g2 hN hO]
          rw [b3]
          rfl
theorem C_test {h : ss_Hp} {c : Nat} {sx : List Int32} {N : Nat} {T : List Nat} (ht : tz h T) (hN : 500 < N) {d b : Nat} {fC : Option Nat → Int32 → ss_Hp → Option ss_Hp} {f : Nat → Nat → rR} (hR : cRel h T sx c d fC f) (gf : ∀ p c, p ≤ T.length → gR T p b b01 (f p c)) (kf : ∀ p c, c ≤ 60 → kR (f p c)) : cRel h T sx c d (fun t d h => mm_RR_readTest N fC t d h) (rL9 T f 401 false false) := by
  intro p l k cd hp hl hk hcd
  have hT := ht.1
  have L := C_testL ht hN hR gf kf 401 p false false l k cd 0 N (by omega) (by omega) hp (by omega) (show l + 0 + 0 ≤ p by omega) hk hcd
  generalize rL9 T f 401 false false p k = r at L ⊢
  show cOut h T sx cd c l (mm_RR_readTest N fC (some 20) (nI d) (lx (rH h l c k cd sx) T (nI 0) p)) r
  have w0 : bI false = nI 0 := rfl
  rw [w0] at L
  rcases r with F | ⟨p1, E1, k1⟩
  · obtain ⟨l', k', cd', p', a1, a2, a3, a4⟩ := L
    refine ⟨l', k', cd', p', a1, a2, a3, ?_⟩
    unfold mm_RR_readTest
    rcases a4 with a4 | a4 <;> simp only [pb_l2, pb_ll, nI_add, pb_mul, if_true, if_false, pb_bs, pb_b2n, pb_bz0, pb_bz1, pb_10, pb_01, rl_is, rl_r0, rl_r1, rl_r2, rl_j0, rl_j1, rl_j2, rl_p0, rl_p1, rl_p2, a4]
  · have L' : ss_lp (mm_RR_readTest_b7 N fC (some 20) (nI d)) N (nI 0, nI 0, nI 0, lx (rH h l c k cd sx) T (nI 0) p) = _ := L
    show mm_RR_readTest N fC (some 20) (nI d) _ = _
    unfold mm_RR_readTest
    simp only [pb_l2, pb_ll, nI_add, pb_mul, if_true, if_false, pb_bs, pb_b2n, pb_bz0, pb_bz1, pb_10, pb_01, rl_is, rl_r0, rl_r1, rl_r2, rl_j0, rl_j1, rl_j2, rl_p0, rl_p1, rl_p2, L']
theorem C_rec {h : ss_Hp} {c : Nat} {sx : List Int32} {N : Nat} {T : List Nat} (ht : tz h T) (hN : 500 < N) : ∀ k, 1 ≤ k → k ≤ 11 → cRel h T sx c (11 - k) (mm_RR_rec N (k + 1)).1 (rX T (k + 1)).1 ∧ cRel h T sx c (11 - k) (mm_RR_rec N (k + 1)).2 (rX T (k + 1)).2 := by
  have hT := ht.1
  have step : ∀ k, 1 ≤ k → k ≤ 11 → (k ≤ 1 ∨ (cRel h T sx c (12 - k) (mm_RR_rec N k).1 (rX T k).1 ∧ cRel h T sx c (12 - k) (mm_RR_rec N k).2 (rX T k).2)) → cRel h T sx c (11 - k) (mm_RR_rec N (k + 1)).1 (rX T (k + 1)).1 ∧ cRel h T sx c (11 - k) (mm_RR_rec N (k + 1)).2 (rX T (k + 1)).2 := by
    intro k hk1 hk2 hh
    have gd : ¬ k ≤ 1 → (∀ p c, p ≤ T.length → gR T p (2 * k + 2) b01 ((rX T k).1 p c)) ∧ ∀ p c, p ≤ T.length → gR T p (2 * k + 2) b01 ((rX T k).2 p c) := fun q => by
      obtain ⟨k', rfl⟩ : ∃ k', k = k' + 1 := ⟨k - 1, by omega⟩
      have g := rX_good hT k' (by omega)
      exact ⟨fun p c hp => gR_up (Nat.le_refl p) (by omega) (g.1 p c hp), g.2⟩
    have F1 : cRel h T sx c (11 - k) (mm_RR_rec N (k + 1)).1 (rX T (k + 1)).1 := by
      refine C_fact (b := 2 * k + 2) ht hN (by omega) (decide_eq_decide.mpr (by omega)) (fun q => ?_) (fun q => ?_) (fun q => (gd (of_decide_eq_false q)).1) (fun q => (gd (of_decide_eq_false q)).2)
      · rw [show 11 - k + 1 = 12 - k by omega]
        exact (hh.resolve_left (of_decide_eq_false q)).1
      · rw [show 11 - k + 1 = 12 - k by omega]
        exact (hh.resolve_left (of_decide_eq_false q)).2
    exact ⟨F1, C_test ht hN F1 (rX_good hT k hk1).1 (kR_X (k + 1)).1⟩
  intro k
  induction k with
  | zero => intro h1; omega
  | succ k ih =>
    intro _ h2
    refine step (k + 1) (by omega) h2 ?_
    rcases Nat.lt_or_ge k 1 with q | q
    · exact Or.inl (by omega)
    · refine Or.inr ?_
      have := ih q (by omega)
      rw [show 12 - (k + 1) = 11 - k by omega]
      exact this
/-! a clause -/
abbrev rK9 : Type := Nat ⊕ (Nat × ru_C × Nat)
noncomputable def rK (T : List Nat) (p k : Nat) : rK9 := match mSm T (eL T (blk T p)) k with
  | .inl F => .inl F
  | .inr (p1, E1, k1) => @ite _ (wis T (blk T p1) rw_if) (Classical.propDecidable _) (match (rX T 12).2 (eL T (blk T p1)) k1 with
    | .inl F => .inl F
    | .inr (p2, E2, k2) => .inr (p2, (E1, some E2), k2)) (.inr (p1, (E1, none), k1))
def x2 (x : ru_C) : List (Nat × Nat) := x.2.getD []
def gK (T : List Nat) (p : Nat) : rK9 → Prop
  | .inl F => 0 < F ∧ F < 100000
  | .inr (p', x, k') => p < p' ∧ p' ≤ T.length ∧ x.1.length + (x2 x).length + p ≤ p' ∧ (∀ t, t ∈ x.1 → tc_ok t) ∧ (∀ t, t ∈ x2 x → tc_ok t) ∧ ru_okc x ∧ k' ≤ 60
theorem rK_good {T : List Nat} {p k : Nat} (hT : T.length ≤ 400) (hp : p ≤ T.length) (hs : wis T (blk T p) rw_sweep) (hk : k ≤ 60) : gK T (blk T p + 1) (rK T p k) := by
  have hq := blk_ub hp
  have hen := en_w hs rw_sweep_wl hq
  have hub := eL_ub hq
  have G1 := gR_S (c := k) hT hub
  have K1 := kR_Sm (T := T) (p := eL T (blk T p)) (c := k)
  unfold rK
  generalize mSm T (eL T (blk T p)) k = r at G1 K1 ⊢
  rcases r with F | ⟨p1, E1, k1⟩
  · exact G1
  · obtain ⟨g1, g2, g3, g4, g5⟩ := G1
    have hk1 := K1 p1 E1 k1 rfl
    have hq1 := blk_ub g2
    have hb1 := blk_le (T := T) (p := p1)
    have ok1 : ∀ w, ∃ v, ev_run w E1 [] = some [v] := fun w => by
      obtain ⟨v, -, v2⟩ := g5 w [] (by simp)
      have := v2 []
      rw [List.append_nil] at this
      exact ⟨v, this⟩
    show gK T (blk T p + 1) (@ite _ (wis T (blk T p1) rw_if) (Classical.propDecidable _) _ _)
    by_cases hi : wis T (blk T p1) rw_if
    · rw [if_pos hi]
      have hen1 := en_w hi rw_if_wl hq1
      have hub1 := eL_ub hq1
      have G2 := (rX_good hT 11 (by omega)).2 (eL T (blk T p1)) k1 hub1
      have K2 := (kR_X (T := T) 12).2 (eL T (blk T p1)) k1 hk1
      have G2 : gR T (eL T (blk T p1)) 26 b01 ((rX T 12).2 (eL T (blk T p1)) k1) := G2
      generalize (rX T 12).2 (eL T (blk T p1)) k1 = r2 at G2 K2 ⊢
      rcases r2 with F | ⟨p2, E2, k2⟩
      · exact G2
      · obtain ⟨b1, b2, b3, b4, b5⟩ := G2
        have hk2 := K2 p2 E2 k2 rfl
        refine ⟨by omega, b2, by show E1.length + E2.length + _ ≤ _; omega, g4, b4, fun w => ⟨ok1 w, fun t ht => ?_⟩, hk2⟩
        cases ht
        obtain ⟨v, v1, v2⟩ := b5 w [] (by simp)
        have := v2 []
        rw [List.append_nil] at this
        exact ⟨v, v1, this⟩
    · rw [if_neg hi]
      exact ⟨by omega, g2, by show E1.length + 0 + _ ≤ _; omega, g4, (fun t ht => by cases ht), fun w => ⟨ok1 w, (fun t ht => by cases ht)⟩, hk1⟩
