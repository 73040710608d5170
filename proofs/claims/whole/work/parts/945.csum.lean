/-! ===== rule: the class reads sums ===== -/
def kR (r : rR) : Prop := ∀ p E c, r = .inr (p, E, c) → c ≤ 60
theorem kR_l {F : Nat} : kR (.inl F) := fun p E c h => by cases h
theorem kR_r {p c : Nat} {E : List (Nat × Nat)} (hc : c ≤ 60) : kR (.inr (p, E, c)) := fun p' E' c' h => by cases h; exact hc
theorem kR_pre {E : List (Nat × Nat)} {r : rR} (h : kR r) : kR (rr_pre E r) := by
  rcases r with F | ⟨p, E2, c⟩
  · exact kR_l
  · exact kR_r (h p E2 c rfl)
theorem kR_bnd {r : rR} {f : Nat → Nat → rR} (h : kR r) (hf : ∀ p c, c ≤ 60 → kR (f p c)) : kR (rr_bnd r f) := by
  rcases r with F | ⟨p, E2, c⟩
  · exact kR_l
  · exact kR_pre (hf p c (h p E2 c rfl))
theorem kR_V {T : List Nat} {p c : Nat} : kR (rV T p c) := by
  by_cases h1 : vn_dg T p
  · by_cases h2 : eD T (blk T p) - blk T p ≤ 5
    · by_cases h3 : c < 60
      · rw [rV_A h1 h2 h3]; exact kR_r h3
      · rw [rV_B h1 h2 h3]; exact kR_l
    · rw [rV_C h1 h2]; exact kR_l
  · rcases wix_cs (T := T) (q := blk T p) with ⟨w1, w2⟩ | ⟨k, k1, w1, w2, w3⟩
    · rw [rV_F h1 w1]; exact kR_l
    · by_cases h3 : c < 60
      · rw [rV_D h1 w1 h3]; exact kR_r h3
      · rw [rV_E h1 w1 h3]; exact kR_l
theorem kR_T {T : List Nat} : ∀ k p c, c ≤ 60 → kR (mTf T k p c) := by
  intro k
  induction k with
  | zero => intro p c hc; exact kR_r hc
  | succ k ih =>
    intro p c hc
    show kR (if opT T (blk T p) = 0 then _ else _)
    by_cases h : opT T (blk T p) = 0
    · rw [if_pos h]; exact kR_r hc
    · rw [if_neg h]; exact kR_bnd kR_V (fun p1 c1 h1 => kR_pre (ih p1 c1 h1))
theorem kR_Tm {T : List Nat} {p c : Nat} : kR (mTm T p c) := kR_bnd kR_V (fun p1 c1 h1 => kR_T 401 p1 c1 h1)
theorem kR_S {T : List Nat} : ∀ k p c, c ≤ 60 → kR (mSf T k p c) := by
  intro k
  induction k with
  | zero => intro p c hc; exact kR_r hc
  | succ k ih =>
    intro p c hc
    show kR (if opS T (blk T p) = 0 then _ else _)
    by_cases h : opS T (blk T p) = 0
    · rw [if_pos h]; exact kR_r hc
    · rw [if_neg h]; exact kR_bnd kR_Tm (fun p1 c1 h1 => kR_pre (ih p1 c1 h1))
theorem kR_Sm {T : List Nat} {p c : Nat} : kR (mSm T p c) := kR_bnd kR_Tm (fun p1 c1 h1 => kR_S 401 p1 c1 h1)
def cFt (h : ss_Hp) (T : List Nat) (sx : List Int32) (c F : Nat) (o : Option ss_Hp) : Prop := ∃ l k cd p, l ≤ 400 ∧ cd.length = 400 ∧ p ≤ T.length ∧ o = some (lx (rH h l c k cd sx) T (nI F) p)
theorem en_d {T : List Nat} {p : Nat} (h : vn_dg T p) : en T (blk T p) = vn_e T p := by
  unfold en vn_e eD
  rw [if_pos h.1, isL_D h.2, if_neg Bool.false_ne_true, if_pos h.2, sc_t h.1 h.2]
theorem wd_C : ∀ k, k < 12 → -nI 14 - nI k = tk_C (1, k) := by decide +kernel
section CQ
variable {h b' : ss_Hp} {l c k F : Nat} {cd sx : List Int32} {N : Nat} {T : List Nat} {p : Nat} {y Fi : Int32}
theorem T_failr {w : Nat} : mm_T_fail N (some 1) (nI w) (lx b' T (nI 0) p) = some (lx b' T (nI (rr_f T p w)) p) := T_failx
theorem T_isd1 (hd : vn_dg T p) : mm_T_isDigits N (some 1) (lx b' T Fi p) = some (nI 1) := by
  rw [num_lx hd.1 hd.2]
  unfold mm_T_isDigits mm_T_isDigits_j13
  simp only [pb_l2, pb_ll, nI_add, pb_mul, if_true, if_false, pb_bs, pb_b2n, pb_bz0, pb_bz1, pb_10, pb_01, tH_is, tH_g0, tH_g1, tH_g2, tH_g3, tH_g4, tH_p0, tH_p1, tH_p2, tH_p3, tH_p4, tH_r]
theorem T_isd0 (hd : ¬ vn_dg T p) : mm_T_isDigits N (some 1) (lx b' T Fi p) = some (nI 0) := by
  have e1 : (nI (tk T (blk T p)) = nI 2) = False := by
    unfold tk
    by_cases c2 : blk T p < T.length
    · rw [if_pos c2]
      split
      · exact pb_nn (by omega) (by omega) (by omega)
      · rw [if_neg (fun x => hd ⟨c2, x⟩)]
        exact pb_nn (by omega) (by omega) (by omega)
    · rw [if_neg c2]
      exact pb_nn (by omega) (by omega) (by omega)
  unfold mm_T_isDigits mm_T_isDigits_j13 lx
  simp only [pb_l2, pb_ll, nI_add, pb_mul, if_true, if_false, pb_bs, pb_b2n, pb_bz0, pb_bz1, pb_10, pb_01, tH_is, tH_g0, tH_g1, tH_g2, tH_g3, tH_g4, tH_p0, tH_p1, tH_p2, tH_p3, tH_p4, tH_r, e1]
theorem T_dgs1 (ht : tz b' T) (hp : p ≤ T.length) (hN : 500 < N) (hd : vn_dg T p) (h5 : eD T (blk T p) - blk T p ≤ 5) : mm_T_digits N (some 1) (lx b' T Fi p) = some (nI (vn_v T p)) := by
  rw [num_lx hd.1 hd.2, T_digits ht (blk_ub hp) hN, if_pos h5]
  rfl
theorem T_dgs0 (ht : tz b' T) (hp : p ≤ T.length) (hN : 500 < N) (hd : vn_dg T p) (h5 : ¬ eD T (blk T p) - blk T p ≤ 5) : mm_T_digits N (some 1) (lx b' T Fi p) = some (-nI 1) := by
  rw [num_lx hd.1 hd.2, T_digits ht (blk_ub hp) hN, if_neg h5]
theorem C_emit (hl : l < 400) (hcd : cd.length = 400) : mm_RR_emit N (some 20) y (lx (rH h l c k cd sx) T Fi p) = some (lx (rH h (l + 1) c k (cd.set l y) sx) T Fi p) := by
  have c0 : (nI 400 ≤ nI l) = False := eq_false (nI_ge hl (by omega))
  unfold mm_RR_emit mm_RR_emit_j32
  simp only [pb_l2, pb_ll, nI_add, pb_mul, if_true, if_false, pb_bs, pb_b2n, pb_bz0, pb_bz1, pb_10, pb_01, rl_is, rl_r0, rl_r1, rl_r2, rl_j0, rl_j1, rl_j2, rl_p0, rl_p1, rl_p2, rl_len hcd, c0, rl_u13 (show l < cd.length by omega) (show l < 2147483648 by omega)]
theorem C_emitF (hl : l ≤ 400) (hcd : cd.length = 400) (hp : p ≤ T.length) : cFt h T sx c F (mm_RR_emit N (some 20) y (lx (rH h l c k cd sx) T (nI F) p)) := by
  rcases Nat.lt_or_ge l 400 with q | q
  · exact ⟨l + 1, k, cd.set l y, p, q, by rw [List.length_set]; exact hcd, hp, C_emit q hcd⟩
  · refine ⟨l, k, cd, p, hl, hcd, hp, ?_⟩
    have c0 : (nI 400 ≤ nI l) = True := eq_true (nI_le q (by omega))
    unfold mm_RR_emit mm_RR_emit_j32
    simp only [pb_l2, pb_ll, nI_add, pb_mul, if_true, if_false, pb_bs, pb_b2n, pb_bz0, pb_bz1, pb_10, pb_01, rl_is, rl_r0, rl_r1, rl_r2, rl_j0, rl_j1, rl_j2, rl_p0, rl_p1, rl_p2, rl_len hcd, c0]
theorem C_cnt1 (hk : k < 60) : mm_RR_countPart N (some 20) (lx (rH h l c k cd sx) T Fi p) = some (lx (rH h l c (k + 1) cd sx) T Fi p) := by
  have c0 : (nI k < nI 60) = True := eq_true (nI_lt hk (by omega))
  unfold mm_RR_countPart mm_RR_countPart_j17
  simp only [pb_l2, pb_ll, nI_add, pb_mul, if_true, if_false, pb_bs, pb_b2n, pb_bz0, pb_bz1, pb_10, pb_01, rl_is, rl_r0, rl_r1, rl_r2, rl_j0, rl_j1, rl_j2, rl_p0, rl_p1, rl_p2, c0]
theorem C_cnt2 (hk : k = 60) : mm_RR_countPart N (some 20) (lx (rH h l c k cd sx) T (nI 0) p) = some (lx (rH h l c (k + 1) cd sx) T (nI (rr_f T p 3)) p) := by
  have c0 : (nI k < nI 60) = False := eq_false (nI_nlt (by omega) (by omega))
  unfold mm_RR_countPart mm_RR_countPart_j17
  simp only [pb_l2, pb_ll, nI_add, pb_mul, if_true, if_false, pb_bs, pb_b2n, pb_bz0, pb_bz1, pb_10, pb_01, rl_is, rl_r0, rl_r1, rl_r2, rl_j0, rl_j1, rl_j2, rl_p0, rl_p1, rl_p2, c0, T_failr]
theorem C_cntF (hF : (Fi = nI 0) = False) : mm_RR_countPart N (some 20) (lx (rH h l c k cd sx) T Fi p) = some (lx (rH h l c (k + 1) cd sx) T Fi p) := by
  unfold mm_RR_countPart mm_RR_countPart_j17
  by_cases q : nI k < nI 60
  · simp only [pb_l2, pb_ll, nI_add, pb_mul, if_true, if_false, pb_bs, pb_b2n, pb_bz0, pb_bz1, pb_10, pb_01, rl_is, rl_r0, rl_r1, rl_r2, rl_j0, rl_j1, rl_j2, rl_p0, rl_p1, rl_p2, eq_true q]
  · simp only [pb_l2, pb_ll, nI_add, pb_mul, if_true, if_false, pb_bs, pb_b2n, pb_bz0, pb_bz1, pb_10, pb_01, rl_is, rl_r0, rl_r1, rl_r2, rl_j0, rl_j1, rl_j2, rl_p0, rl_p1, rl_p2, eq_false q, T_failn hF]
theorem rf_n {w : Nat} (hT : T.length ≤ 400) (hp : p ≤ T.length) (hw : w < 8) : (nI (rr_f T p w) = nI 0) = False := by
  have := rr_fb hT hp hw
  exact pb_nn (by omega) (by omega) (by omega)
/-- a value -/
theorem C_val (ht : tz h T) (hp : p ≤ T.length) (hN : 500 < N) (hk : k ≤ 60) (hl0 : p < T.length → l < 400) (hcd : cd.length = 400) : match rV T p k with
    | .inl F => ∃ k', mm_RR_readValue N (some 20) (lx (rH h l c k cd sx) T (nI 0) p) = some (lx (rH h l c k' cd sx) T (nI F) p)
    | .inr (p', E, k') => E.length = 1 ∧ mm_RR_readValue N (some 20) (lx (rH h l c k cd sx) T (nI 0) p) = some (lx (rH h (l + 1) c k' (eW tk_C cd l E) sx) T (nI 0) p') := by
  have hT := ht.1
  have tr : ∀ k, tz (rH h l c k cd sx) T := fun k => rH_tz ht
  have hq := blk_ub hp
  have hbl := blk_le (T := T) (p := p)
  by_cases h1 : vn_dg T p
  · have hl : l < 400 := hl0 (by have := h1.1; omega)
    by_cases h2 : eD T (blk T p) - blk T p ≤ 5
    · have m1 := nv_ne h2
      have m1 : (nI (vn_v T p) = -nI 1) = False := m1
      by_cases h3 : k < 60
      · rw [rV_A h1 h2 h3]
        refine ⟨rfl, ?_⟩
        unfold mm_RR_readValue mm_RR_readValue_j62 mm_RR_readValue_j88
        simp only [pb_l2, pb_ll, nI_add, pb_mul, if_true, if_false, pb_bs, pb_b2n, pb_bz0, pb_bz1, pb_10, pb_01, rl_is, rl_r0, rl_r1, rl_r2, rl_j0, rl_j1, rl_j2, rl_p0, rl_p1, rl_p2, T_isd1 h1, T_dgs1 (rH_tz ht) hp hN h1 h2, m1, C_cnt1 h3, T_wellx, C_emit hl hcd, T_adv (rH_tz ht) hp hN, en_d h1]
        rw [show eW tk_C cd l [(0, vn_v T p)] = cd.set l (nI (vn_v T p)) from by show cd.set l (tk_C (0, vn_v T p)) = _; rw [tk_C_0]]
      · rw [rV_B h1 h2 h3]
        refine ⟨k + 1, ?_⟩
        unfold mm_RR_readValue mm_RR_readValue_j62 mm_RR_readValue_j88
        simp only [pb_l2, pb_ll, nI_add, pb_mul, if_true, if_false, pb_bs, pb_b2n, pb_bz0, pb_bz1, pb_10, pb_01, rl_is, rl_r0, rl_r1, rl_r2, rl_j0, rl_j1, rl_j2, rl_p0, rl_p1, rl_p2, T_isd1 h1, T_dgs1 (rH_tz ht) hp hN h1 h2, m1, C_cnt2 (show k = 60 by omega), T_welln (rf_n hT hp (show 3 < 8 by omega))]
    · rw [rV_C h1 h2]
      refine ⟨k + 1, ?_⟩
      unfold mm_RR_readValue mm_RR_readValue_j62 mm_RR_readValue_j88
      simp only [pb_l2, pb_ll, nI_add, pb_mul, if_true, if_false, pb_bs, pb_b2n, pb_bz0, pb_bz1, pb_10, pb_01, rl_is, rl_r0, rl_r1, rl_r2, rl_j0, rl_j1, rl_j2, rl_p0, rl_p1, rl_p2, T_isd1 h1, T_dgs0 (rH_tz ht) hp hN h1 h2, T_failr, C_cntF (rf_n hT hp (show 1 < 8 by omega)), T_welln (rf_n hT hp (show 1 < 8 by omega))]
  · obtain ⟨r, c1, c2⟩ := T_word (h := rH h l c k cd sx) (F := nI 0) (N := N) (rH_tz ht) rW_ok hp hN
    rcases c2 with ⟨rfl, hno⟩ | ⟨kd, hkd, rfl, hw, hno⟩
    · rw [rV_F h1 (wix_none hno)]
      refine ⟨k + 1, ?_⟩
      unfold mm_RR_readValue mm_RR_readValue_j62 mm_RR_readValue_j88
      simp only [pb_l2, pb_ll, nI_add, pb_mul, if_true, if_false, pb_bs, pb_b2n, pb_bz0, pb_bz1, pb_10, pb_01, rl_is, rl_r0, rl_r1, rl_r2, rl_j0, rl_j1, rl_j2, rl_p0, rl_p1, rl_p2, T_isd0 h1, c1, T_failr, C_cntF (rf_n hT hp (show 0 < 8 by omega)), T_welln (rf_n hT hp (show 0 < 8 by omega))]
    · have hkd : kd < 12 := hkd
      have m1 : (nI kd = -nI 1) = False := eq_false (pb_m1n (by omega))
      have hen := en_w hw (rW_ok.2.2.2.2.2.2 kd hkd) hq
      have hl : l < 400 := hl0 (by omega)
      by_cases h3 : k < 60
      · rw [rV_D h1 (wix_some hkd hw hno) h3]
        refine ⟨rfl, ?_⟩
        unfold mm_RR_readValue mm_RR_readValue_j62 mm_RR_readValue_j88
        simp only [pb_l2, pb_ll, nI_add, pb_mul, if_true, if_false, pb_bs, pb_b2n, pb_bz0, pb_bz1, pb_10, pb_01, rl_is, rl_r0, rl_r1, rl_r2, rl_j0, rl_j1, rl_j2, rl_p0, rl_p1, rl_p2, T_isd0 h1, c1, m1, wd_C kd hkd, C_cnt1 h3, T_wellx, C_emit hl hcd, T_adv (rH_tz ht) hp hN, hen.1]
        rfl
      · rw [rV_E h1 (wix_some hkd hw hno) h3]
        refine ⟨k + 1, ?_⟩
        unfold mm_RR_readValue mm_RR_readValue_j62 mm_RR_readValue_j88
        simp only [pb_l2, pb_ll, nI_add, pb_mul, if_true, if_false, pb_bs, pb_b2n, pb_bz0, pb_bz1, pb_10, pb_01, rl_is, rl_r0, rl_r1, rl_r2, rl_j0, rl_j1, rl_j2, rl_p0, rl_p1, rl_p2, T_isd0 h1, c1, m1, wd_C kd hkd, C_cnt2 (show k = 60 by omega), T_welln (rf_n hT hp (show 3 < 8 by omega))]
def okd (d : Nat) : Prop := d = 0 ∨ d = 2 ∨ d = 3 ∨ d = 4 ∨ d = 5 ∨ d = 14
theorem okT {q : Nat} : okd (opT T q) := by
  unfold okd opT
  split
  · split
    · omega
    · split
      · omega
      · split <;> omega
  · omega
theorem okS {q : Nat} : okd (opS T q) := by
  unfold okd opS
  split
  · split
    · omega
    · split <;> omega
  · omega
theorem ww_0 {d : Nat} (hd : okd d) : (ww d = nI 0) = (d = 0) := by
  rcases hd with e | e | e | e | e | e <;> subst e <;> simp <;> decide
theorem opT_b {q : Nat} (h : opT T q ≠ 0) : q < T.length ∧ (T.getD q 0 = 42 ∧ opT T q = 4 ∨ T.getD q 0 = 47 ∧ opT T q = 5 ∨ T.getD q 0 = 37 ∧ opT T q = 14) := by
  by_cases hq : q < T.length
  · refine ⟨hq, ?_⟩
    unfold opT at h ⊢
    rw [if_pos hq] at h ⊢
    by_cases a : T.getD q 0 = 42
    · rw [if_pos a]; exact Or.inl ⟨a, rfl⟩
    · rw [if_neg a] at h ⊢
      by_cases b : T.getD q 0 = 47
      · rw [if_pos b]; exact Or.inr (Or.inl ⟨b, rfl⟩)
      · rw [if_neg b] at h ⊢
        by_cases d : T.getD q 0 = 37
        · rw [if_pos d]; exact Or.inr (Or.inr ⟨d, rfl⟩)
        · rw [if_neg d] at h
          exact absurd rfl h
  · unfold opT at h
    rw [if_neg hq] at h
    exact absurd rfl h
theorem opS_b {q : Nat} (h : opS T q ≠ 0) : q < T.length ∧ (T.getD q 0 = 43 ∧ opS T q = 2 ∨ T.getD q 0 = 45 ∧ opS T q = 3) := by
  by_cases hq : q < T.length
  · refine ⟨hq, ?_⟩
    unfold opS at h ⊢
    rw [if_pos hq] at h ⊢
    by_cases a : T.getD q 0 = 43
    · rw [if_pos a]; exact Or.inl ⟨a, rfl⟩
    · rw [if_neg a] at h ⊢
      by_cases b : T.getD q 0 = 45
      · rw [if_pos b]; exact Or.inr ⟨b, rfl⟩
      · rw [if_neg b] at h
        exact absurd rfl h
  · unfold opS at h
    rw [if_neg hq] at h
    exact absurd rfl h
theorem en_T {q : Nat} (h : opT T q ≠ 0) : en T q = q + 1 := by
  obtain ⟨h1, h2⟩ := opT_b h
  exact (sgn_of (c := T.getD q 0) h1 rfl (by omega) (by omega)).2.2.1
theorem en_S {q : Nat} (h : opS T q ≠ 0) : en T q = q + 1 := by
  obtain ⟨h1, h2⟩ := opS_b h
  exact (sgn_of (c := T.getD q 0) h1 rfl (by omega) (by omega)).2.2.1
theorem ww_T {q : Nat} (h : opT T q ≠ 0) : (-nI 2 ≤ ww (opT T q)) = False ∧ (ww (opT T q) ≤ -nI 1) = True := by
  obtain ⟨h1, h2⟩ := opT_b h
  rcases h2 with ⟨-, e⟩ | ⟨-, e⟩ | ⟨-, e⟩ <;> rw [e] <;> simp <;> decide
theorem ww_S {q : Nat} (h : opS T q ≠ 0) : (-nI 2 ≤ ww (opS T q)) = True ∧ (ww (opS T q) ≤ -nI 1) = True := by
  obtain ⟨h1, h2⟩ := opS_b h
  rcases h2 with ⟨-, e⟩ | ⟨-, e⟩ <;> rw [e] <;> simp <;> decide
theorem ww_z : (-nI 2 ≤ ww 0) = True ∧ (ww 0 ≤ -nI 1) = False := by
  constructor <;> simp <;> decide
def n0 (d : Nat) : Nat := if d = 0 then 0 else 1
theorem oo_len {d : Nat} : (oo d).length = n0 d := by
  unfold oo n0
  split <;> rfl
theorem n0_le {d : Nat} : n0 d ≤ 1 := by
  unfold n0
  split <;> omega
/-- emits what waits, if anything does -/
theorem C_oo {d : Nat} {α : Type} {K : ss_Hp → Option α} (hd : okd d) (hl : l + n0 d ≤ 400) (hcd : cd.length = 400) : (if ww d = nI 0 then K (lx (rH h l c k cd sx) T Fi p) else (mm_RR_emit N (some 20) (ww d) (lx (rH h l c k cd sx) T Fi p)).bind K) = K (lx (rH h (l + n0 d) c k (eW tk_C cd l (oo d)) sx) T Fi p) := by
  by_cases e : d = 0
  · rw [if_pos (by rw [ww_0 hd]; exact e), e]
    rfl
  · have hl2 : l + 1 ≤ 400 := by
      unfold n0 at hl
      rw [if_neg e] at hl
      exact hl
    rw [if_neg (by rw [ww_0 hd]; exact e), C_emit hl2 hcd, pb_bs, oo_n e]
    unfold n0 ww
    rw [if_neg e, if_neg e]
    rfl
theorem C_ooF {d : Nat} {α : Type} {K : ss_Hp → Option α} (hd : okd d) (hl : l ≤ 400) (hcd : cd.length = 400) (hp : p ≤ T.length) : ∃ l' cd', l' ≤ 400 ∧ cd'.length = 400 ∧ (if ww d = nI 0 then K (lx (rH h l c k cd sx) T (nI F) p) else (mm_RR_emit N (some 20) (ww d) (lx (rH h l c k cd sx) T (nI F) p)).bind K) = K (lx (rH h l' c k cd' sx) T (nI F) p) := by
  by_cases e : d = 0
  · refine ⟨l, cd, hl, hcd, ?_⟩
    rw [if_pos (by rw [ww_0 hd]; exact e)]
  · rcases Nat.lt_or_ge l 400 with q | q
    · refine ⟨l + 1, cd.set l (ww d), q, by rw [List.length_set]; exact hcd, ?_⟩
      rw [if_neg (by rw [ww_0 hd]; exact e), C_emit q hcd, pb_bs]
    · refine ⟨l, cd, hl, hcd, ?_⟩
      have c0 : (nI 400 ≤ nI l) = True := eq_true (nI_le q (by omega))
      have e1 : mm_RR_emit N (some 20) (ww d) (lx (rH h l c k cd sx) T (nI F) p) = some (lx (rH h l c k cd sx) T (nI F) p) := by
        unfold mm_RR_emit mm_RR_emit_j32
        simp only [pb_l2, pb_ll, nI_add, pb_mul, if_true, if_false, pb_bs, pb_b2n, pb_bz0, pb_bz1, pb_10, pb_01, rl_is, rl_r0, rl_r1, rl_r2, rl_j0, rl_j1, rl_j2, rl_p0, rl_p1, rl_p2, rl_len hcd, c0]
      rw [if_neg (by rw [ww_0 hd]; exact e), e1, pb_bs]
theorem C_stop { M : Nat} {x1 x2 x3 : Int32} (hF : (Fi = nI 0) = False) (hM : 0 < M) : ss_lp (mm_RR_readSum_b6 N (some 20)) M (x1, x2, x3, lx (rH h l c k cd sx) T Fi p) = some (.inl (lx (rH h l c k cd sx) T Fi p)) := by
  refine lp_out ?_ hM
  unfold mm_RR_readSum_b6
  by_cases q : nI 400 ≤ x3
  · simp only [pb_l2, pb_ll, nI_add, pb_mul, if_true, if_false, pb_bs, pb_b2n, pb_bz0, pb_bz1, pb_10, pb_01, eq_true q]
  · simp only [pb_l2, pb_ll, nI_add, pb_mul, if_true, if_false, pb_bs, pb_b2n, pb_bz0, pb_bz1, pb_10, pb_01, rl_is, rl_r0, rl_r1, rl_r2, rl_j0, rl_j1, rl_j2, rl_p0, rl_p1, rl_p2, eq_false q, T_welln hF]
def sumOut (h : ss_Hp) (T : List Nat) (sx cd : List Int32) (c l : Nat) (o : Option (ss_Hp ⊕ ss_Hp)) : rR → Prop
  | .inl F => ∃ l' k' cd' p', l' ≤ 400 ∧ cd'.length = 400 ∧ p' ≤ T.length ∧ (o = some (.inl (lx (rH h l' c k' cd' sx) T (nI F) p')) ∨ o = some (.inr (lx (rH h l' c k' cd' sx) T (nI F) p')))
  | .inr (p', E, k') => o = some (.inr (lx (rH h (l + E.length) c k' (eW tk_C cd l E) sx) T (nI 0) p'))
theorem sumOut_pre {o : Option (ss_Hp ⊕ ss_Hp)} {E : List (Nat × Nat)} {r : rR} (hh : sumOut h T sx (eW tk_C cd l E) c (l + E.length) o r) : sumOut h T sx cd c l o (rr_pre E r) := by
  rcases r with G | ⟨p', E', k'⟩
  · exact hh
  · show o = some (.inr (lx (rH h (l + (E ++ E').length) c k' (eW tk_C cd l (E ++ E')) sx) T (nI 0) p'))
    rw [eW_app, List.length_append, ← Nat.add_assoc]
    exact hh
end CQ
theorem C_sumL {h : ss_Hp} {c : Nat} {sx : List Int32} {N : Nat} {T : List Nat} (ht : tz h T) (hN : 500 < N) : ∀ n p w d l k cd i M, T.length - p < n → n < M → p ≤ T.length → okd w → okd d → 2 * i ≤ p → l + n0 w + n0 d ≤ p → k ≤ 60 → cd.length = 400 → sumOut h T sx cd c l (ss_lp (mm_RR_readSum_b6 N (some 20)) M (ww w, ww d, nI i, lx (rH h l c k cd sx) T (nI 0) p)) (rG T w d p k) := by
  have hT := ht.1
  intro n
  induction n with
  | zero => intro p w d l k cd i M h1; omega
  | succ n ih =>
    intro p w d l k cd i M h1 hM hp hw hd hi hl hk hcd
    obtain ⟨M, rfl⟩ : ∃ M', M = M' + 1 := ⟨M - 1, by omega⟩
    have nw := n0_le (d := w)
    have nd := n0_le (d := d)
    have c4 : (nI 400 ≤ nI i) = False := eq_false (nI_ge (by omega) (by omega))
    rw [rG_u hT hp]
    · have V := C_val (c := c) (sx := sx) (cd := cd) (l := l) ht hp hN hk (fun _ => by omega) hcd
      have gV := gR_V (c := k) hT hp
      have kV := kR_V (T := T) (p := p) (c := k)
      generalize rV T p k = r at V gV kV ⊢
      rcases r with F | ⟨p1, E1, k1⟩
      · obtain ⟨k', V⟩ := V
        have hF : (nI F = nI 0) = False := pb_nn (by have := gV.1; omega) (by have := gV.2; omega) (by omega)
        obtain ⟨r3, s1, s2⟩ := C_sign3 (b' := rH h l c k' cd sx) (F := nI F) (N := N) (rH_tz ht) hp hN
        show sumOut h T sx cd c l _ (.inl F)
        obtain ⟨l2, cd2, l2a, l2b, l2c⟩ := C_ooF (h := h) (c := c) (k := k') (sx := sx) (F := F) (N := N) (K := mm_RR_readSum_j36 N (some 20) (ww w) (nI i)) hd (show l ≤ 400 by omega) hcd hp
        have b1 : mm_RR_readSum_b6 N (some 20) (ww w, ww d, nI i, lx (rH h l c k cd sx) T (nI 0) p) = mm_RR_readSum_j36 N (some 20) (ww w) (nI i) (lx (rH h l2 c k' cd2 sx) T (nI F) p) := by
          rw [← l2c]
          unfold mm_RR_readSum_b6
          simp only [pb_l2, pb_ll, nI_add, pb_mul, if_true, if_false, pb_bs, pb_b2n, pb_bz0, pb_bz1, pb_10, pb_01, rl_is, rl_r0, rl_r1, rl_r2, rl_j0, rl_j1, rl_j2, rl_p0, rl_p1, rl_p2, c4, T_wellx, V]
        obtain ⟨r4, s3, s4⟩ := C_sign3 (b' := rH h l2 c k' cd2 sx) (F := nI F) (N := N) (rH_tz ht) hp hN
        by_cases hoT : opT T (blk T p) = 0
        · rw [if_pos hoT] at s4
          by_cases hoS : opS T (blk T p) = 0
          · rw [hoS] at s4
            obtain ⟨l3, cd3, l3a, l3b, l3c⟩ := C_ooF (h := h) (c := c) (k := k') (sx := sx) (F := F) (N := N) (K := mm_RR_readSum_j75 N (some 20) (ww w) (ww 0) (nI i) (nI 0)) hw l2a l2b hp
            refine ⟨l3, k', cd3, p, l3a, l3b, hp, Or.inr ?_⟩
            rw [ss_lp, b1]
            have b2 : mm_RR_readSum_j36 N (some 20) (ww w) (nI i) (lx (rH h l2 c k' cd2 sx) T (nI F) p) = some (.inr (.inr (lx (rH h l3 c k' cd3 sx) T (nI F) p))) := by
              have b3 : mm_RR_readSum_j75 N (some 20) (ww w) (ww 0) (nI i) (nI 0) (lx (rH h l3 c k' cd3 sx) T (nI F) p) = some (.inr (.inr (lx (rH h l3 c k' cd3 sx) T (nI F) p))) := by
                unfold mm_RR_readSum_j75
                simp only [pb_l2, pb_ll, nI_add, pb_mul, if_true, if_false, pb_bs, pb_b2n, pb_bz0, pb_bz1, pb_10, pb_01, ww_z.2]
              rw [← b3, ← l3c]
              unfold mm_RR_readSum_j36 mm_RR_readSum_j59
              simp only [pb_l2, pb_ll, nI_add, pb_mul, if_true, if_false, pb_bs, pb_b2n, pb_bz0, pb_bz1, pb_10, pb_01, rl_is, rl_r0, rl_r1, rl_r2, rl_j0, rl_j1, rl_j2, rl_p0, rl_p1, rl_p2, s3, s4, ww_z.1]
            rw [b2]
          · obtain ⟨l3, cd3, l3a, l3b, l3c⟩ := C_ooF (h := h) (c := c) (k := k') (sx := sx) (F := F) (N := N) (K := mm_RR_readSum_j75 N (some 20) (ww w) (ww (opS T (blk T p))) (nI i) (nI 0)) hw l2a l2b hp
            rw [ss_lp, b1]
            have b2 : mm_RR_readSum_j36 N (some 20) (ww w) (nI i) (lx (rH h l2 c k' cd2 sx) T (nI F) p) = some (.inl (ww (opS T (blk T p)), nI 0, nI (i + 1), lx (rH h l3 c k' cd3 sx) T (nI F) (en T (blk T p)))) := by
              have b3 : mm_RR_readSum_j75 N (some 20) (ww w) (ww (opS T (blk T p))) (nI i) (nI 0) (lx (rH h l3 c k' cd3 sx) T (nI F) p) = some (.inl (ww (opS T (blk T p)), nI 0, nI (i + 1), lx (rH h l3 c k' cd3 sx) T (nI F) (en T (blk T p)))) := by
                unfold mm_RR_readSum_j75 mm_RR_readSum_j90
                simp only [pb_l2, pb_ll, nI_add, pb_mul, if_true, if_false, pb_bs, pb_b2n, pb_bz0, pb_bz1, pb_10, pb_01, rl_is, rl_r0, rl_r1, rl_r2, rl_j0, rl_j1, rl_j2, rl_p0, rl_p1, rl_p2, (ww_S hoS).2, T_adv (rH_tz ht) hp hN]
              rw [← b3, ← l3c]
              unfold mm_RR_readSum_j36 mm_RR_readSum_j59
              simp only [pb_l2, pb_ll, nI_add, pb_mul, if_true, if_false, pb_bs, pb_b2n, pb_bz0, pb_bz1, pb_10, pb_01, rl_is, rl_r0, rl_r1, rl_r2, rl_j0, rl_j1, rl_j2, rl_p0, rl_p1, rl_p2, s3, s4, (ww_S hoS).1]
            rw [b2]
            exact ⟨l3, k', cd3, en T (blk T p), l3a, l3b, en_ub (blk_ub hp), Or.inl (C_stop hF (by omega))⟩
        · rw [if_neg hoT] at s4
          rw [ss_lp, b1]
          have b2 : mm_RR_readSum_j36 N (some 20) (ww w) (nI i) (lx (rH h l2 c k' cd2 sx) T (nI F) p) = some (.inl (ww w, ww (opT T (blk T p)), nI (i + 1), lx (rH h l2 c k' cd2 sx) T (nI F) (en T (blk T p)))) := by
            unfold mm_RR_readSum_j36 mm_RR_readSum_j59 mm_RR_readSum_j75 mm_RR_readSum_j90
            simp only [pb_l2, pb_ll, nI_add, pb_mul, if_true, if_false, pb_bs, pb_b2n, pb_bz0, pb_bz1, pb_10, pb_01, rl_is, rl_r0, rl_r1, rl_r2, rl_j0, rl_j1, rl_j2, rl_p0, rl_p1, rl_p2, s3, s4, (ww_T hoT).1, (ww_T hoT).2, T_adv (rH_tz ht) hp hN]
          rw [b2]
          exact ⟨l2, k', cd2, en T (blk T p), l2a, l2b, en_ub (blk_ub hp), Or.inl (C_stop hF (by omega))⟩
      · obtain ⟨e1, V⟩ := V
        obtain ⟨g1, g2, -⟩ := gV
        have hk1 := kV p1 E1 k1 rfl
        have hq := blk_ub g2
        have hbl := blk_le (T := T) (p := p1)
        refine sumOut_pre ?_
        rw [e1]
        show sumOut h T sx (eW tk_C cd l E1) c (l + 1) _ (rr_pre (oo d) _)
        have hcd1 : (eW tk_C cd l E1).length = 400 := by rw [eW_len]; exact hcd
        refine sumOut_pre ?_
        rw [oo_len]
        have hcd2 : (eW tk_C (eW tk_C cd l E1) (l + 1) (oo d)).length = 400 := by rw [eW_len]; exact hcd1
        have lc := C_oo (h := h) (c := c) (k := k1) (sx := sx) (T := T) (Fi := nI 0) (p := p1) (N := N) (l := l + 1) (K := mm_RR_readSum_j36 N (some 20) (ww w) (nI i)) hd (by omega) hcd1
        have b1 : mm_RR_readSum_b6 N (some 20) (ww w, ww d, nI i, lx (rH h l c k cd sx) T (nI 0) p) = mm_RR_readSum_j36 N (some 20) (ww w) (nI i) (lx (rH h (l + 1 + n0 d) c k1 (eW tk_C (eW tk_C cd l E1) (l + 1) (oo d)) sx) T (nI 0) p1) := by
          rw [← lc]
          unfold mm_RR_readSum_b6
          simp only [pb_l2, pb_ll, nI_add, pb_mul, if_true, if_false, pb_bs, pb_b2n, pb_bz0, pb_bz1, pb_10, pb_01, rl_is, rl_r0, rl_r1, rl_r2, rl_j0, rl_j1, rl_j2, rl_p0, rl_p1, rl_p2, c4, T_wellx, V]
        rw [ss_lp, b1]
        generalize eW tk_C (eW tk_C cd l E1) (l + 1) (oo d) = cd2 at hcd2 ⊢
        obtain ⟨r4, s3, s4⟩ := C_sign3 (b' := rH h (l + 1 + n0 d) c k1 cd2 sx) (F := nI 0) (N := N) (rH_tz ht) g2 hN
        by_cases hoT : opT T (blk T p1) = 0
        · rw [if_pos hoT] at s4 ⊢
          refine sumOut_pre ?_
          rw [oo_len]
          have hcd3 : (eW tk_C cd2 (l + 1 + n0 d) (oo w)).length = 400 := by rw [eW_len]; exact hcd2
          by_cases hoS : opS T (blk T p1) = 0
          · rw [if_pos hoS]
            rw [hoS] at s4
            have lc3 := C_oo (h := h) (c := c) (k := k1) (sx := sx) (T := T) (Fi := nI 0) (p := p1) (N := N) (l := l + 1 + n0 d) (K := mm_RR_readSum_j75 N (some 20) (ww w) (ww 0) (nI i) (nI 0)) hw (by omega) hcd2
            have b2 : mm_RR_readSum_j36 N (some 20) (ww w) (nI i) (lx (rH h (l + 1 + n0 d) c k1 cd2 sx) T (nI 0) p1) = some (.inr (.inr (lx (rH h (l + 1 + n0 d + n0 w) c k1 (eW tk_C cd2 (l + 1 + n0 d) (oo w)) sx) T (nI 0) p1))) := by
              have b3 : mm_RR_readSum_j75 N (some 20) (ww w) (ww 0) (nI i) (nI 0) (lx (rH h (l + 1 + n0 d + n0 w) c k1 (eW tk_C cd2 (l + 1 + n0 d) (oo w)) sx) T (nI 0) p1) = some (.inr (.inr (lx (rH h (l + 1 + n0 d + n0 w) c k1 (eW tk_C cd2 (l + 1 + n0 d) (oo w)) sx) T (nI 0) p1))) := by
                unfold mm_RR_readSum_j75
                simp only [pb_l2, pb_ll, nI_add, pb_mul, if_true, if_false, pb_bs, pb_b2n, pb_bz0, pb_bz1, pb_10, pb_01, ww_z.2]
              rw [← b3, ← lc3]
              unfold mm_RR_readSum_j36 mm_RR_readSum_j59
              simp only [pb_l2, pb_ll, nI_add, pb_mul, if_true, if_false, pb_bs, pb_b2n, pb_bz0, pb_bz1, pb_10, pb_01, rl_is, rl_r0, rl_r1, rl_r2, rl_j0, rl_j1, rl_j2, rl_p0, rl_p1, rl_p2, s3, s4, ww_z.1]
            rw [b2]
            rfl
          · rw [if_neg hoS]
            have hb := (opS_cs (T := T) (q := blk T p1)).resolve_left hoS
            have hen : en T (blk T p1) = blk T p1 + 1 := en_S hoS
            have lc3 := C_oo (h := h) (c := c) (k := k1) (sx := sx) (T := T) (Fi := nI 0) (p := p1) (N := N) (l := l + 1 + n0 d) (K := mm_RR_readSum_j75 N (some 20) (ww w) (ww (opS T (blk T p1))) (nI i) (nI 0)) hw (by omega) hcd2
            have b2 : mm_RR_readSum_j36 N (some 20) (ww w) (nI i) (lx (rH h (l + 1 + n0 d) c k1 cd2 sx) T (nI 0) p1) = some (.inl (ww (opS T (blk T p1)), ww 0, nI (i + 1), lx (rH h (l + 1 + n0 d + n0 w) c k1 (eW tk_C cd2 (l + 1 + n0 d) (oo w)) sx) T (nI 0) (blk T p1 + 1))) := by
              have b3 : mm_RR_readSum_j75 N (some 20) (ww w) (ww (opS T (blk T p1))) (nI i) (nI 0) (lx (rH h (l + 1 + n0 d + n0 w) c k1 (eW tk_C cd2 (l + 1 + n0 d) (oo w)) sx) T (nI 0) p1) = some (.inl (ww (opS T (blk T p1)), ww 0, nI (i + 1), lx (rH h (l + 1 + n0 d + n0 w) c k1 (eW tk_C cd2 (l + 1 + n0 d) (oo w)) sx) T (nI 0) (blk T p1 + 1))) := by
                unfold mm_RR_readSum_j75 mm_RR_readSum_j90
                simp only [pb_l2, pb_ll, nI_add, pb_mul, if_true, if_false, pb_bs, pb_b2n, pb_bz0, pb_bz1, pb_10, pb_01, rl_is, rl_r0, rl_r1, rl_r2, rl_j0, rl_j1, rl_j2, rl_p0, rl_p1, rl_p2, (ww_S hoS).2, T_adv (rH_tz ht) g2 hN, hen]
                rfl
              rw [← b3, ← lc3]
              unfold mm_RR_readSum_j36 mm_RR_readSum_j59
              simp only [pb_l2, pb_ll, nI_add, pb_mul, if_true, if_false, pb_bs, pb_b2n, pb_bz0, pb_bz1, pb_10, pb_01, rl_is, rl_r0, rl_r1, rl_r2, rl_j0, rl_j1, rl_j2, rl_p0, rl_p1, rl_p2, s3, s4, (ww_S hoS).1]
            rw [b2]
            exact ih (blk T p1 + 1) (opS T (blk T p1)) 0 _ k1 _ (i + 1) M (by omega) (by omega) hb.1 okS (Or.inl rfl) (by omega) (by have e9 : n0 (opS T (blk T p1)) = 1 := if_neg hoS; have e8 : n0 0 = 0 := rfl; rw [e9, e8]; omega) hk1 hcd3
        · rw [if_neg hoT] at s4 ⊢
          have hb := (opT_cs (T := T) (q := blk T p1)).resolve_left hoT
          have hen : en T (blk T p1) = blk T p1 + 1 := en_T hoT
          have b2 : mm_RR_readSum_j36 N (some 20) (ww w) (nI i) (lx (rH h (l + 1 + n0 d) c k1 cd2 sx) T (nI 0) p1) = some (.inl (ww w, ww (opT T (blk T p1)), nI (i + 1), lx (rH h (l + 1 + n0 d) c k1 cd2 sx) T (nI 0) (blk T p1 + 1))) := by
            unfold mm_RR_readSum_j36 mm_RR_readSum_j59 mm_RR_readSum_j75 mm_RR_readSum_j90
            simp only [pb_l2, pb_ll, nI_add, pb_mul, if_true, if_false, pb_bs, pb_b2n, pb_bz0, pb_bz1, pb_10, pb_01, rl_is, rl_r0, rl_r1, rl_r2, rl_j0, rl_j1, rl_j2, rl_p0, rl_p1, rl_p2, s3, s4, (ww_T hoT).1, (ww_T hoT).2, T_adv (rH_tz ht) g2 hN, hen]
          rw [b2]
          exact ih (blk T p1 + 1) w (opT T (blk T p1)) _ k1 _ (i + 1) M (by omega) (by omega) hb.1 hw okT (by omega) (by have e9 : n0 (opT T (blk T p1)) = 1 := if_neg hoT; rw [e9]; omega) hk1 hcd2
theorem C_sum {h : ss_Hp} {c : Nat} {sx : List Int32} {N : Nat} {T : List Nat} {p l k : Nat} {cd : List Int32} (ht : tz h T) (hN : 500 < N) (hp : p ≤ T.length) (hl : l ≤ p) (hk : k ≤ 60) (hcd : cd.length = 400) : match mSm T p k with
    | .inl F => cFt h T sx c F (mm_RR_readSum N (some 20) (lx (rH h l c k cd sx) T (nI 0) p))
    | .inr (p', E, k') => mm_RR_readSum N (some 20) (lx (rH h l c k cd sx) T (nI 0) p) = some (lx (rH h (l + E.length) c k' (eW tk_C cd l E) sx) T (nI 0) p') := by
  have hT := ht.1
  have L := C_sumL (c := c) (sx := sx) ht hN 401 p 0 0 l k cd 0 N (by omega) (by omega) hp (Or.inl rfl) (Or.inl rfl) (by omega) (show l + 0 + 0 ≤ p by omega) hk hcd
  rw [rG_sum]
  generalize rG T 0 0 p k = r at L ⊢
  rcases r with F | ⟨p1, E1, k1⟩
  · obtain ⟨l', k', cd', p', a1, a2, a3, a4⟩ := L
    refine ⟨l', k', cd', p', a1, a2, a3, ?_⟩
    unfold mm_RR_readSum
    have w0 : ww 0 = nI 0 := rfl
    rw [w0] at a4
    rcases a4 with a4 | a4 <;> simp only [pb_l2, pb_ll, nI_add, pb_mul, if_true, if_false, pb_bs, pb_b2n, pb_bz0, pb_bz1, pb_10, pb_01, rl_is, rl_r0, rl_r1, rl_r2, rl_j0, rl_j1, rl_j2, rl_p0, rl_p1, rl_p2, a4]
  · have L' : ss_lp (mm_RR_readSum_b6 N (some 20)) N (nI 0, nI 0, nI 0, lx (rH h l c k cd sx) T (nI 0) p) = _ := L
    show mm_RR_readSum N (some 20) _ = _
    unfold mm_RR_readSum
    simp only [pb_l2, pb_ll, nI_add, pb_mul, if_true, if_false, pb_bs, pb_b2n, pb_bz0, pb_bz1, pb_10, pb_01, rl_is, rl_r0, rl_r1, rl_r2, rl_j0, rl_j1, rl_j2, rl_p0, rl_p1, rl_p2, L']
