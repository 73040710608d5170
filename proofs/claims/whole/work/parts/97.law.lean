/-! ===== the law's loop ===== -/
def inv_h (h : ss_Hp) : Prop := ∃ (T : List Nat) (a : List Int32) (fo x : Int32) (RS : List (List ru_C)) (US : List (List Int32)) (I : Nat → Option (List Int32 × Int32 × Int32)), cl_h h T a fo x RS US I ∧ mo_h h T a fo x RS US I ∧ as_ok T a fo x RS US I ∧ fr_h h
theorem cl_134 {h : ss_Hp} {T : List Nat} {a : List Int32} {fo x : Int32} {RS : List (List ru_C)} {US : List (List Int32)} {I : Nat → Option (List Int32 × Int32 × Int32)} (hc : cl_h h T a fo x RS US I) : 142 ≤ h.1 := by
  obtain ⟨n, g, rc, ti, tb, vt, ri, cd, sx, rl, wi, wv, gi, gs, gw, nd, ns, nw, il, ai, yv, yr, yi, ys, yw, yt, yh, yf, yo, yk, fr, fg, pl, pc, pg, rfl, F⟩ := hc
  exact F.1
theorem jo_go {oc : Option (Int32 × ss_Hp)} {fm : ss_Hp → Option (Int32 × ss_Hp)} {h : ss_Hp} (hi : inv_h h) (hj : ∀ (T : List Nat) (a : List Int32) (fo x : Int32) (RS : List (List ru_C)) (US : List (List Int32)) (I : Nat → Option (List Int32 × Int32 × Int32)) (h2 : ss_Hp), cl_h h T a fo x RS US I → mo_h h2 T a fo x RS US I → as_ok T a fo x RS US I → fr_h h → jo oc (fm h2) h h2) : ∃ r h' h'', oc = some (r, h') ∧ fm h' = some (r, h'') ∧ inv_h h'' := by
  obtain ⟨T, a, fo, x, RS, US, I, hc, hm, ha, hf⟩ := hi
  obtain ⟨r, T1, a1, fo1, x1, RS1, US1, I1, ⟨h', e1, c1, k1, f1⟩, -, -⟩ := hj T a fo x RS US I h hc hm ha hf
  obtain ⟨r2, T2, a2, fo2, x2, RS2, US2, I2, ⟨h1, e1b, c1b, k1b, f1b⟩, ⟨h'', e2, m2, n2, k2⟩, ha2⟩ := hj T a fo x RS US I h' hc (mo_frame hm k1) ha hf
  have e := e1.symm.trans e1b
  have eA : r = r2 := congrArg Prod.fst (Option.some.inj e)
  have eB : h' = h1 := congrArg Prod.snd (Option.some.inj e)
  subst eA
  subst eB
  refine ⟨r, h', h'', e1, e2, T2, a2, fo2, x2, RS2, US2, I2, cl_frame c1b n2 k2, m2, ha2, fun p hp => ?_⟩
  have := cl_134 c1b
  rw [k2 p (by omega)]
  exact f1 hf p (by omega)
theorem jr_go {oc : Option Int32} {om : Option Int32} {h : ss_Hp} (hi : inv_h h) (hj : ∀ (T : List Nat) (a : List Int32) (fo x : Int32) (RS : List (List ru_C)) (US : List (List Int32)) (I : Nat → Option (List Int32 × Int32 × Int32)), cl_h h T a fo x RS US I → mo_h h T a fo x RS US I → as_ok T a fo x RS US I → jr oc om) : ∃ r, oc = some r ∧ om = some r := by
  obtain ⟨T, a, fo, x, RS, US, I, hc, hm, ha, hf⟩ := hi
  exact hj T a fo x RS US I hc hm ha
theorem jf_go {N : Nat} {h : ss_Hp} {y w : Int32} (hi : inv_h h) (hN : 5000 < N) : ∃ r h', mm_S_figure N (some 0) y w h = some (r, h') ∧ mm_M_figure N (some 118) y w h' = some r ∧ inv_h h' := by
  obtain ⟨T, a, fo, x, RS, US, I, hc, hm, ha, hf⟩ := hi
  obtain ⟨r, h', Z', e1, c1, -⟩ := jx_figure (y := y) (w := w) hc hm ha hN
  obtain ⟨cl, k1, f1⟩ := cb_cl c1
  have hm' := mo_frame hm k1
  obtain ⟨r2, h1, Z1, e1b, c1b, e2⟩ := jx_figure (y := y) (w := w) hc hm' ha hN
  have e := e1.symm.trans e1b
  have eA : r = r2 := congrArg Prod.fst (Option.some.inj e)
  subst eA
  exact ⟨r, h', e1, e2, T, a, fo, x, RS, US, I, cl, hm', ha, f1 hf⟩
theorem xs_at {L : Nat} {xs : Nat → Int32} {i : Nat} (hL : L ≤ 3072) (h : i < L) : ss_xs L xs (nI i) = some (xs i) := by
  unfold ss_xs
  rw [nI_clamp (by omega), if_pos ⟨nI_pos (by omega), h⟩]
theorem xs_end {L j : Nat} (hL : L ≤ 3072) (hj : j ≤ 600) : (nI L - nI 6 < nI (6 * j)) ↔ L < 6 * j + 6 := by
  have e : (nI L - nI 6).toInt = (L : Int) - 6 := by
    rw [Int32.toInt_sub, nI_toInt (by omega), nI_toInt (by omega)]
    exact Int.bmod_eq_of_le (by omega) (by omega)
  rw [Int32.lt_iff_toInt_lt, e, nI_toInt (by omega)]
  omega
theorem lb_0 {N L : Nat} {xs : Nat → Int32} {j : Nat} {h : ss_Hp} (hN : 150000 < N) (hL : L ≤ 3072) (hj : 6 * j + 6 ≤ L) (hi : inv_h h) (hv : xs (6 * j) &&& nI 31 = nI 0) : ∃ h', mm_law_b18 N L xs (some 0) (some 118) (nI (6 * j), h) = some (.inl (nI (6 * j + 6), h')) ∧ inv_h h' := by
  have hx : ∀ i, i < L → ss_xs L xs (nI i) = some (xs i) := fun i q => xs_at hL q
  have he : ¬ (Int32.ofNat L - (6 : Int32) < nI (6 * j)) := fun q => by have := (xs_end hL (by omega)).mp q; omega
  obtain ⟨r, h', h'', e1, e2, hi'⟩ := jo_go (oc := mm_S_feed N (some 0) (xs (6 * j + 1)) (xs (6 * j + 2)) (xs (6 * j + 3)) (xs (6 * j + 4)) (xs (6 * j + 5)) h) (fm := mm_M_feed N (some 118) (xs (6 * j + 1)) (xs (6 * j + 2)) (xs (6 * j + 3)) (xs (6 * j + 4)) (xs (6 * j + 5))) hi (fun T a fo x RS US I h2 hc hm ha hf => jx_feed hc hm ha (by omega))
  refine ⟨h'', ?_, hi'⟩
  replace hv : xs (6 * j) &&& (31 : Int32) = nI 0 := hv
  unfold mm_law_b18 mm_law_j1132
  show (if Int32.ofNat L - (6 : Int32) < nI (6 * j) then _ else _) = _
  rw [if_neg he, hx (6 * j) (by omega), pb_bs, pb_bs, hv]
  rw [if_pos (show nI 0 = (0 : Int32) from rfl)]
  simp (disch := omega) only [pb_l2, pb_ll, nI_add, pb_mul, if_true, if_false, pb_bs, pb_b2n, hx, e1, e2]
theorem lb_1 {N L : Nat} {xs : Nat → Int32} {j : Nat} {h : ss_Hp} (hN : 150000 < N) (hL : L ≤ 3072) (hj : 6 * j + 6 ≤ L) (hi : inv_h h) (hv : xs (6 * j) &&& nI 31 = nI 1) : ∃ h', mm_law_b18 N L xs (some 0) (some 118) (nI (6 * j), h) = some (.inl (nI (6 * j + 6), h')) ∧ inv_h h' := by
  have hx : ∀ i, i < L → ss_xs L xs (nI i) = some (xs i) := fun i q => xs_at hL q
  have he : ¬ (Int32.ofNat L - (6 : Int32) < nI (6 * j)) := fun q => by have := (xs_end hL (by omega)).mp q; omega
  obtain ⟨r, h', h'', e1, e2, hi'⟩ := jo_go (oc := mm_S_end N (some 0) (xs (6 * j + 1)) h) (fm := mm_M_end N (some 118) (xs (6 * j + 1))) hi (fun T a fo x RS US I h2 hc hm ha hf => jx_end hc hm ha (by omega))
  refine ⟨h'', ?_, hi'⟩
  replace hv : xs (6 * j) &&& (31 : Int32) = nI 1 := hv
  unfold mm_law_b18 mm_law_j1132
  show (if Int32.ofNat L - (6 : Int32) < nI (6 * j) then _ else _) = _
  rw [if_neg he, hx (6 * j) (by omega), pb_bs, pb_bs, hv]
  rw [if_neg (show ¬ nI 1 = (0 : Int32) from by decide)]
  rw [if_pos (show nI 1 = (1 : Int32) from rfl)]
  simp (disch := omega) only [pb_l2, pb_ll, nI_add, pb_mul, if_true, if_false, pb_bs, pb_b2n, hx, e1, e2]
theorem lb_2 {N L : Nat} {xs : Nat → Int32} {j : Nat} {h : ss_Hp} (hN : 150000 < N) (hL : L ≤ 3072) (hj : 6 * j + 6 ≤ L) (hi : inv_h h) (hv : xs (6 * j) &&& nI 31 = nI 2) : ∃ h', mm_law_b18 N L xs (some 0) (some 118) (nI (6 * j), h) = some (.inl (nI (6 * j + 6), h')) ∧ inv_h h' := by
  have hx : ∀ i, i < L → ss_xs L xs (nI i) = some (xs i) := fun i q => xs_at hL q
  have he : ¬ (Int32.ofNat L - (6 : Int32) < nI (6 * j)) := fun q => by have := (xs_end hL (by omega)).mp q; omega
  obtain ⟨r, h', h'', e1, e2, hi'⟩ := jo_go (oc := mm_S_valley N (some 0) h) (fm := mm_M_valley N (some 118)) hi (fun T a fo x RS US I h2 hc hm ha hf => jx_valley hc hm ha (by omega) (by omega) hf)
  refine ⟨h'', ?_, hi'⟩
  replace hv : xs (6 * j) &&& (31 : Int32) = nI 2 := hv
  unfold mm_law_b18 mm_law_j1132
  show (if Int32.ofNat L - (6 : Int32) < nI (6 * j) then _ else _) = _
  rw [if_neg he, hx (6 * j) (by omega), pb_bs, pb_bs, hv]
  rw [if_neg (show ¬ nI 2 = (0 : Int32) from by decide)]
  rw [if_neg (show ¬ nI 2 = (1 : Int32) from by decide)]
  rw [if_pos (show nI 2 = (2 : Int32) from rfl)]
  simp (disch := omega) only [pb_l2, pb_ll, nI_add, pb_mul, if_true, if_false, pb_bs, pb_b2n, hx, e1, e2]
theorem lb_3 {N L : Nat} {xs : Nat → Int32} {j : Nat} {h : ss_Hp} (hN : 150000 < N) (hL : L ≤ 3072) (hj : 6 * j + 6 ≤ L) (hi : inv_h h) (hv : xs (6 * j) &&& nI 31 = nI 3) : ∃ h', mm_law_b18 N L xs (some 0) (some 118) (nI (6 * j), h) = some (.inl (nI (6 * j + 6), h')) ∧ inv_h h' := by
  have hx : ∀ i, i < L → ss_xs L xs (nI i) = some (xs i) := fun i q => xs_at hL q
  have he : ¬ (Int32.ofNat L - (6 : Int32) < nI (6 * j)) := fun q => by have := (xs_end hL (by omega)).mp q; omega
  obtain ⟨r, h', h'', e1, e2, hi'⟩ := jo_go (oc := mm_S_rule N (some 0) h) (fm := mm_M_rule N (some 118)) hi (fun T a fo x RS US I h2 hc hm ha hf => jx_rule hc hm ha (by omega) (by omega) hf)
  refine ⟨h'', ?_, hi'⟩
  replace hv : xs (6 * j) &&& (31 : Int32) = nI 3 := hv
  unfold mm_law_b18 mm_law_j1132
  show (if Int32.ofNat L - (6 : Int32) < nI (6 * j) then _ else _) = _
  rw [if_neg he, hx (6 * j) (by omega), pb_bs, pb_bs, hv]
  rw [if_neg (show ¬ nI 3 = (0 : Int32) from by decide)]
  rw [if_neg (show ¬ nI 3 = (1 : Int32) from by decide)]
  rw [if_neg (show ¬ nI 3 = (2 : Int32) from by decide)]
  rw [if_pos (show nI 3 = (3 : Int32) from rfl)]
  simp (disch := omega) only [pb_l2, pb_ll, nI_add, pb_mul, if_true, if_false, pb_bs, pb_b2n, hx, e1, e2]
theorem lb_4 {N L : Nat} {xs : Nat → Int32} {j : Nat} {h : ss_Hp} (hN : 150000 < N) (hL : L ≤ 3072) (hj : 6 * j + 6 ≤ L) (hi : inv_h h) (hv : xs (6 * j) &&& nI 31 = nI 4) : ∃ h', mm_law_b18 N L xs (some 0) (some 118) (nI (6 * j), h) = some (.inl (nI (6 * j + 6), h')) ∧ inv_h h' := by
  have hx : ∀ i, i < L → ss_xs L xs (nI i) = some (xs i) := fun i q => xs_at hL q
  have he : ¬ (Int32.ofNat L - (6 : Int32) < nI (6 * j)) := fun q => by have := (xs_end hL (by omega)).mp q; omega
  obtain ⟨r, h', h'', e1, e2, hi'⟩ := jo_go (oc := mm_S_force N (some 0) (xs (6 * j + 1)) h) (fm := mm_M_force N (some 118) (xs (6 * j + 1))) hi (fun T a fo x RS US I h2 hc hm ha hf => jx_force hc hm ha (by omega))
  refine ⟨h'', ?_, hi'⟩
  replace hv : xs (6 * j) &&& (31 : Int32) = nI 4 := hv
  unfold mm_law_b18 mm_law_j1132
  show (if Int32.ofNat L - (6 : Int32) < nI (6 * j) then _ else _) = _
  rw [if_neg he, hx (6 * j) (by omega), pb_bs, pb_bs, hv]
  rw [if_neg (show ¬ nI 4 = (0 : Int32) from by decide)]
  rw [if_neg (show ¬ nI 4 = (1 : Int32) from by decide)]
  rw [if_neg (show ¬ nI 4 = (2 : Int32) from by decide)]
  rw [if_neg (show ¬ nI 4 = (3 : Int32) from by decide)]
  rw [if_pos (show nI 4 = (4 : Int32) from rfl)]
  simp (disch := omega) only [pb_l2, pb_ll, nI_add, pb_mul, if_true, if_false, pb_bs, pb_b2n, hx, e1, e2]
theorem lb_5 {N L : Nat} {xs : Nat → Int32} {j : Nat} {h : ss_Hp} (hN : 150000 < N) (hL : L ≤ 3072) (hj : 6 * j + 6 ≤ L) (hi : inv_h h) (hv : xs (6 * j) &&& nI 31 = nI 5) : ∃ h', mm_law_b18 N L xs (some 0) (some 118) (nI (6 * j), h) = some (.inl (nI (6 * j + 6), h')) ∧ inv_h h' := by
  have hx : ∀ i, i < L → ss_xs L xs (nI i) = some (xs i) := fun i q => xs_at hL q
  have he : ¬ (Int32.ofNat L - (6 : Int32) < nI (6 * j)) := fun q => by have := (xs_end hL (by omega)).mp q; omega
  obtain ⟨r, e1, e2⟩ := jr_go (oc := mm_S_step N (some 0) (xs (6 * j + 1)) (xs (6 * j + 2)) h) (om := mm_M_step N (some 118) (xs (6 * j + 1)) (xs (6 * j + 2)) h) hi (fun T a fo x RS US I hc hm ha => jx_step hc hm ha (by omega))
  refine ⟨h, ?_, hi⟩
  replace hv : xs (6 * j) &&& (31 : Int32) = nI 5 := hv
  unfold mm_law_b18 mm_law_j1132
  show (if Int32.ofNat L - (6 : Int32) < nI (6 * j) then _ else _) = _
  rw [if_neg he, hx (6 * j) (by omega), pb_bs, pb_bs, hv]
  rw [if_neg (show ¬ nI 5 = (0 : Int32) from by decide)]
  rw [if_neg (show ¬ nI 5 = (1 : Int32) from by decide)]
  rw [if_neg (show ¬ nI 5 = (2 : Int32) from by decide)]
  rw [if_neg (show ¬ nI 5 = (3 : Int32) from by decide)]
  rw [if_neg (show ¬ nI 5 = (4 : Int32) from by decide)]
  rw [if_pos (show nI 5 = (5 : Int32) from rfl)]
  simp (disch := omega) only [pb_l2, pb_ll, nI_add, pb_mul, if_true, if_false, pb_bs, pb_b2n, hx, e1, e2]
theorem lb_6 {N L : Nat} {xs : Nat → Int32} {j : Nat} {h : ss_Hp} (hN : 150000 < N) (hL : L ≤ 3072) (hj : 6 * j + 6 ≤ L) (hi : inv_h h) (hv : xs (6 * j) &&& nI 31 = nI 6) : ∃ h', mm_law_b18 N L xs (some 0) (some 118) (nI (6 * j), h) = some (.inl (nI (6 * j + 6), h')) ∧ inv_h h' := by
  have hx : ∀ i, i < L → ss_xs L xs (nI i) = some (xs i) := fun i q => xs_at hL q
  have he : ¬ (Int32.ofNat L - (6 : Int32) < nI (6 * j)) := fun q => by have := (xs_end hL (by omega)).mp q; omega
  obtain ⟨r, e1, e2⟩ := jr_go (oc := mm_S_house N (some 0) (xs (6 * j + 1)) (xs (6 * j + 2)) h) (om := mm_M_house N (some 118) (xs (6 * j + 1)) (xs (6 * j + 2)) h) hi (fun T a fo x RS US I hc hm ha => jx_house hc hm ha (by omega))
  refine ⟨h, ?_, hi⟩
  replace hv : xs (6 * j) &&& (31 : Int32) = nI 6 := hv
  unfold mm_law_b18 mm_law_j1132
  show (if Int32.ofNat L - (6 : Int32) < nI (6 * j) then _ else _) = _
  rw [if_neg he, hx (6 * j) (by omega), pb_bs, pb_bs, hv]
  rw [if_neg (show ¬ nI 6 = (0 : Int32) from by decide)]
  rw [if_neg (show ¬ nI 6 = (1 : Int32) from by decide)]
  rw [if_neg (show ¬ nI 6 = (2 : Int32) from by decide)]
  rw [if_neg (show ¬ nI 6 = (3 : Int32) from by decide)]
  rw [if_neg (show ¬ nI 6 = (4 : Int32) from by decide)]
  rw [if_neg (show ¬ nI 6 = (5 : Int32) from by decide)]
  rw [if_pos (show nI 6 = (6 : Int32) from rfl)]
  simp (disch := omega) only [pb_l2, pb_ll, nI_add, pb_mul, if_true, if_false, pb_bs, pb_b2n, hx, e1, e2]
theorem lb_7 {N L : Nat} {xs : Nat → Int32} {j : Nat} {h : ss_Hp} (hN : 150000 < N) (hL : L ≤ 3072) (hj : 6 * j + 6 ≤ L) (hi : inv_h h) (hv : xs (6 * j) &&& nI 31 = nI 7) : ∃ h', mm_law_b18 N L xs (some 0) (some 118) (nI (6 * j), h) = some (.inl (nI (6 * j + 6), h')) ∧ inv_h h' := by
  have hx : ∀ i, i < L → ss_xs L xs (nI i) = some (xs i) := fun i q => xs_at hL q
  have he : ¬ (Int32.ofNat L - (6 : Int32) < nI (6 * j)) := fun q => by have := (xs_end hL (by omega)).mp q; omega
  obtain ⟨r, h', h'', e1, e2, hi'⟩ := jo_go (oc := mm_S_day N (some 0) h) (fm := mm_M_day N (some 118)) hi (fun T a fo x RS US I h2 hc hm ha hf => jx_day hc hm ha (by omega))
  refine ⟨h'', ?_, hi'⟩
  replace hv : xs (6 * j) &&& (31 : Int32) = nI 7 := hv
  unfold mm_law_b18 mm_law_j1132
  show (if Int32.ofNat L - (6 : Int32) < nI (6 * j) then _ else _) = _
  rw [if_neg he, hx (6 * j) (by omega), pb_bs, pb_bs, hv]
  rw [if_neg (show ¬ nI 7 = (0 : Int32) from by decide)]
  rw [if_neg (show ¬ nI 7 = (1 : Int32) from by decide)]
  rw [if_neg (show ¬ nI 7 = (2 : Int32) from by decide)]
  rw [if_neg (show ¬ nI 7 = (3 : Int32) from by decide)]
  rw [if_neg (show ¬ nI 7 = (4 : Int32) from by decide)]
  rw [if_neg (show ¬ nI 7 = (5 : Int32) from by decide)]
  rw [if_neg (show ¬ nI 7 = (6 : Int32) from by decide)]
  rw [if_pos (show nI 7 = (7 : Int32) from rfl)]
  simp (disch := omega) only [pb_l2, pb_ll, nI_add, pb_mul, if_true, if_false, pb_bs, pb_b2n, hx, e1, e2]
theorem lb_8 {N L : Nat} {xs : Nat → Int32} {j : Nat} {h : ss_Hp} (hN : 150000 < N) (hL : L ≤ 3072) (hj : 6 * j + 6 ≤ L) (hi : inv_h h) (hv : xs (6 * j) &&& nI 31 = nI 8) : ∃ h', mm_law_b18 N L xs (some 0) (some 118) (nI (6 * j), h) = some (.inl (nI (6 * j + 6), h')) ∧ inv_h h' := by
  have hx : ∀ i, i < L → ss_xs L xs (nI i) = some (xs i) := fun i q => xs_at hL q
  have he : ¬ (Int32.ofNat L - (6 : Int32) < nI (6 * j)) := fun q => by have := (xs_end hL (by omega)).mp q; omega
  obtain ⟨r, h', h'', e1, e2, hi'⟩ := jo_go (oc := mm_S_sweep N (some 0) (xs (6 * j + 1)) (xs (6 * j + 2)) h) (fm := mm_M_sweep N (some 118) (xs (6 * j + 1)) (xs (6 * j + 2))) hi (fun T a fo x RS US I h2 hc hm ha hf => jx_sweep hc hm ha (by omega))
  refine ⟨h'', ?_, hi'⟩
  replace hv : xs (6 * j) &&& (31 : Int32) = nI 8 := hv
  unfold mm_law_b18 mm_law_j1132
  show (if Int32.ofNat L - (6 : Int32) < nI (6 * j) then _ else _) = _
  rw [if_neg he, hx (6 * j) (by omega), pb_bs, pb_bs, hv]
  rw [if_neg (show ¬ nI 8 = (0 : Int32) from by decide)]
  rw [if_neg (show ¬ nI 8 = (1 : Int32) from by decide)]
  rw [if_neg (show ¬ nI 8 = (2 : Int32) from by decide)]
  rw [if_neg (show ¬ nI 8 = (3 : Int32) from by decide)]
  rw [if_neg (show ¬ nI 8 = (4 : Int32) from by decide)]
  rw [if_neg (show ¬ nI 8 = (5 : Int32) from by decide)]
  rw [if_neg (show ¬ nI 8 = (6 : Int32) from by decide)]
  rw [if_neg (show ¬ nI 8 = (7 : Int32) from by decide)]
  rw [if_pos (show nI 8 = (8 : Int32) from rfl)]
  simp (disch := omega) only [pb_l2, pb_ll, nI_add, pb_mul, if_true, if_false, pb_bs, pb_b2n, hx, e1, e2]
theorem lb_9 {N L : Nat} {xs : Nat → Int32} {j : Nat} {h : ss_Hp} (hN : 150000 < N) (hL : L ≤ 3072) (hj : 6 * j + 6 ≤ L) (hi : inv_h h) (hv : xs (6 * j) &&& nI 31 = nI 9) : ∃ h', mm_law_b18 N L xs (some 0) (some 118) (nI (6 * j), h) = some (.inl (nI (6 * j + 6), h')) ∧ inv_h h' := by
  have hx : ∀ i, i < L → ss_xs L xs (nI i) = some (xs i) := fun i q => xs_at hL q
  have he : ¬ (Int32.ofNat L - (6 : Int32) < nI (6 * j)) := fun q => by have := (xs_end hL (by omega)).mp q; omega
  obtain ⟨r, h', h'', e1, e2, hi'⟩ := jo_go (oc := mm_S_toss N (some 0) (xs (6 * j + 1)) (xs (6 * j + 2)) h) (fm := mm_M_toss N (some 118) (xs (6 * j + 1)) (xs (6 * j + 2))) hi (fun T a fo x RS US I h2 hc hm ha hf => jx_toss hc hm ha (by omega))
  refine ⟨h'', ?_, hi'⟩
  replace hv : xs (6 * j) &&& (31 : Int32) = nI 9 := hv
  unfold mm_law_b18 mm_law_j1132
  show (if Int32.ofNat L - (6 : Int32) < nI (6 * j) then _ else _) = _
  rw [if_neg he, hx (6 * j) (by omega), pb_bs, pb_bs, hv]
  rw [if_neg (show ¬ nI 9 = (0 : Int32) from by decide)]
  rw [if_neg (show ¬ nI 9 = (1 : Int32) from by decide)]
  rw [if_neg (show ¬ nI 9 = (2 : Int32) from by decide)]
  rw [if_neg (show ¬ nI 9 = (3 : Int32) from by decide)]
  rw [if_neg (show ¬ nI 9 = (4 : Int32) from by decide)]
  rw [if_neg (show ¬ nI 9 = (5 : Int32) from by decide)]
  rw [if_neg (show ¬ nI 9 = (6 : Int32) from by decide)]
  rw [if_neg (show ¬ nI 9 = (7 : Int32) from by decide)]
  rw [if_neg (show ¬ nI 9 = (8 : Int32) from by decide)]
  rw [if_pos (show nI 9 = (9 : Int32) from rfl)]
  simp (disch := omega) only [pb_l2, pb_ll, nI_add, pb_mul, if_true, if_false, pb_bs, pb_b2n, hx, e1, e2]
theorem lb_10 {N L : Nat} {xs : Nat → Int32} {j : Nat} {h : ss_Hp} (hN : 150000 < N) (hL : L ≤ 3072) (hj : 6 * j + 6 ≤ L) (hi : inv_h h) (hv : xs (6 * j) &&& nI 31 = nI 10) : ∃ h', mm_law_b18 N L xs (some 0) (some 118) (nI (6 * j), h) = some (.inl (nI (6 * j + 6), h')) ∧ inv_h h' := by
  have hx : ∀ i, i < L → ss_xs L xs (nI i) = some (xs i) := fun i q => xs_at hL q
  have he : ¬ (Int32.ofNat L - (6 : Int32) < nI (6 * j)) := fun q => by have := (xs_end hL (by omega)).mp q; omega
  obtain ⟨r, h', h'', e1, e2, hi'⟩ := jo_go (oc := mm_S_pull N (some 0) (xs (6 * j + 1)) h) (fm := mm_M_pull N (some 118) (xs (6 * j + 1))) hi (fun T a fo x RS US I h2 hc hm ha hf => jx_pull hc hm ha (by omega))
  refine ⟨h'', ?_, hi'⟩
  replace hv : xs (6 * j) &&& (31 : Int32) = nI 10 := hv
  unfold mm_law_b18 mm_law_j1132
  show (if Int32.ofNat L - (6 : Int32) < nI (6 * j) then _ else _) = _
  rw [if_neg he, hx (6 * j) (by omega), pb_bs, pb_bs, hv]
  rw [if_neg (show ¬ nI 10 = (0 : Int32) from by decide)]
  rw [if_neg (show ¬ nI 10 = (1 : Int32) from by decide)]
  rw [if_neg (show ¬ nI 10 = (2 : Int32) from by decide)]
  rw [if_neg (show ¬ nI 10 = (3 : Int32) from by decide)]
  rw [if_neg (show ¬ nI 10 = (4 : Int32) from by decide)]
  rw [if_neg (show ¬ nI 10 = (5 : Int32) from by decide)]
  rw [if_neg (show ¬ nI 10 = (6 : Int32) from by decide)]
  rw [if_neg (show ¬ nI 10 = (7 : Int32) from by decide)]
  rw [if_neg (show ¬ nI 10 = (8 : Int32) from by decide)]
  rw [if_neg (show ¬ nI 10 = (9 : Int32) from by decide)]
  rw [if_pos (show nI 10 = (10 : Int32) from rfl)]
  simp (disch := omega) only [pb_l2, pb_ll, nI_add, pb_mul, if_true, if_false, pb_bs, pb_b2n, hx, e1, e2]
theorem lb_11 {N L : Nat} {xs : Nat → Int32} {j : Nat} {h : ss_Hp} (hN : 150000 < N) (hL : L ≤ 3072) (hj : 6 * j + 6 ≤ L) (hi : inv_h h) (hv : xs (6 * j) &&& nI 31 = nI 11) : ∃ h', mm_law_b18 N L xs (some 0) (some 118) (nI (6 * j), h) = some (.inl (nI (6 * j + 6), h')) ∧ inv_h h' := by
  have hx : ∀ i, i < L → ss_xs L xs (nI i) = some (xs i) := fun i q => xs_at hL q
  have he : ¬ (Int32.ofNat L - (6 : Int32) < nI (6 * j)) := fun q => by have := (xs_end hL (by omega)).mp q; omega
  obtain ⟨r, h', h'', e1, e2, hi'⟩ := jo_go (oc := mm_S_thaw N (some 0) h) (fm := mm_M_thaw N (some 118)) hi (fun T a fo x RS US I h2 hc hm ha hf => jx_thaw hc hm ha (by omega))
  refine ⟨h'', ?_, hi'⟩
  replace hv : xs (6 * j) &&& (31 : Int32) = nI 11 := hv
  unfold mm_law_b18 mm_law_j1132
  show (if Int32.ofNat L - (6 : Int32) < nI (6 * j) then _ else _) = _
  rw [if_neg he, hx (6 * j) (by omega), pb_bs, pb_bs, hv]
  rw [if_neg (show ¬ nI 11 = (0 : Int32) from by decide)]
  rw [if_neg (show ¬ nI 11 = (1 : Int32) from by decide)]
  rw [if_neg (show ¬ nI 11 = (2 : Int32) from by decide)]
  rw [if_neg (show ¬ nI 11 = (3 : Int32) from by decide)]
  rw [if_neg (show ¬ nI 11 = (4 : Int32) from by decide)]
  rw [if_neg (show ¬ nI 11 = (5 : Int32) from by decide)]
  rw [if_neg (show ¬ nI 11 = (6 : Int32) from by decide)]
  rw [if_neg (show ¬ nI 11 = (7 : Int32) from by decide)]
  rw [if_neg (show ¬ nI 11 = (8 : Int32) from by decide)]
  rw [if_neg (show ¬ nI 11 = (9 : Int32) from by decide)]
  rw [if_neg (show ¬ nI 11 = (10 : Int32) from by decide)]
  rw [if_pos (show nI 11 = (11 : Int32) from rfl)]
  simp (disch := omega) only [pb_l2, pb_ll, nI_add, pb_mul, if_true, if_false, pb_bs, pb_b2n, hx, e1, e2]
theorem lb_12 {N L : Nat} {xs : Nat → Int32} {j : Nat} {h : ss_Hp} (hN : 150000 < N) (hL : L ≤ 3072) (hj : 6 * j + 6 ≤ L) (hi : inv_h h) (hv : xs (6 * j) &&& nI 31 = nI 12) : ∃ h', mm_law_b18 N L xs (some 0) (some 118) (nI (6 * j), h) = some (.inl (nI (6 * j + 6), h')) ∧ inv_h h' := by
  have hx : ∀ i, i < L → ss_xs L xs (nI i) = some (xs i) := fun i q => xs_at hL q
  have he : ¬ (Int32.ofNat L - (6 : Int32) < nI (6 * j)) := fun q => by have := (xs_end hL (by omega)).mp q; omega
  obtain ⟨r, h', h'', e1, e2, hi'⟩ := jo_go (oc := mm_S_undo N (some 0) h) (fm := mm_M_undo N (some 118)) hi (fun T a fo x RS US I h2 hc hm ha hf => jx_undo hc hm ha (by omega))
  refine ⟨h'', ?_, hi'⟩
  replace hv : xs (6 * j) &&& (31 : Int32) = nI 12 := hv
  unfold mm_law_b18 mm_law_j1132
  show (if Int32.ofNat L - (6 : Int32) < nI (6 * j) then _ else _) = _
  rw [if_neg he, hx (6 * j) (by omega), pb_bs, pb_bs, hv]
  rw [if_neg (show ¬ nI 12 = (0 : Int32) from by decide)]
  rw [if_neg (show ¬ nI 12 = (1 : Int32) from by decide)]
  rw [if_neg (show ¬ nI 12 = (2 : Int32) from by decide)]
  rw [if_neg (show ¬ nI 12 = (3 : Int32) from by decide)]
  rw [if_neg (show ¬ nI 12 = (4 : Int32) from by decide)]
  rw [if_neg (show ¬ nI 12 = (5 : Int32) from by decide)]
  rw [if_neg (show ¬ nI 12 = (6 : Int32) from by decide)]
  rw [if_neg (show ¬ nI 12 = (7 : Int32) from by decide)]
  rw [if_neg (show ¬ nI 12 = (8 : Int32) from by decide)]
  rw [if_neg (show ¬ nI 12 = (9 : Int32) from by decide)]
  rw [if_neg (show ¬ nI 12 = (10 : Int32) from by decide)]
  rw [if_neg (show ¬ nI 12 = (11 : Int32) from by decide)]
  rw [if_pos (show nI 12 = (12 : Int32) from rfl)]
  simp (disch := omega) only [pb_l2, pb_ll, nI_add, pb_mul, if_true, if_false, pb_bs, pb_b2n, hx, e1, e2]
theorem lb_13 {N L : Nat} {xs : Nat → Int32} {j : Nat} {h : ss_Hp} (hN : 150000 < N) (hL : L ≤ 3072) (hj : 6 * j + 6 ≤ L) (hi : inv_h h) (hv : xs (6 * j) &&& nI 31 = nI 13) : ∃ h', mm_law_b18 N L xs (some 0) (some 118) (nI (6 * j), h) = some (.inl (nI (6 * j + 6), h')) ∧ inv_h h' := by
  have hx : ∀ i, i < L → ss_xs L xs (nI i) = some (xs i) := fun i q => xs_at hL q
  have he : ¬ (Int32.ofNat L - (6 : Int32) < nI (6 * j)) := fun q => by have := (xs_end hL (by omega)).mp q; omega
  obtain ⟨r, h', h'', e1, e2, hi'⟩ := jo_go (oc := mm_S_ahead N (some 0) (xs (6 * j + 1)) (xs (6 * j + 2)) (xs (6 * j + 3)) h) (fm := mm_M_ahead N (some 118) (xs (6 * j + 1)) (xs (6 * j + 2)) (xs (6 * j + 3))) hi (fun T a fo x RS US I h2 hc hm ha hf => jx_ahead hc hm ha (by omega))
  refine ⟨h'', ?_, hi'⟩
  replace hv : xs (6 * j) &&& (31 : Int32) = nI 13 := hv
  unfold mm_law_b18 mm_law_j1132
  show (if Int32.ofNat L - (6 : Int32) < nI (6 * j) then _ else _) = _
  rw [if_neg he, hx (6 * j) (by omega), pb_bs, pb_bs, hv]
  rw [if_neg (show ¬ nI 13 = (0 : Int32) from by decide)]
  rw [if_neg (show ¬ nI 13 = (1 : Int32) from by decide)]
  rw [if_neg (show ¬ nI 13 = (2 : Int32) from by decide)]
  rw [if_neg (show ¬ nI 13 = (3 : Int32) from by decide)]
  rw [if_neg (show ¬ nI 13 = (4 : Int32) from by decide)]
  rw [if_neg (show ¬ nI 13 = (5 : Int32) from by decide)]
  rw [if_neg (show ¬ nI 13 = (6 : Int32) from by decide)]
  rw [if_neg (show ¬ nI 13 = (7 : Int32) from by decide)]
  rw [if_neg (show ¬ nI 13 = (8 : Int32) from by decide)]
  rw [if_neg (show ¬ nI 13 = (9 : Int32) from by decide)]
  rw [if_neg (show ¬ nI 13 = (10 : Int32) from by decide)]
  rw [if_neg (show ¬ nI 13 = (11 : Int32) from by decide)]
  rw [if_neg (show ¬ nI 13 = (12 : Int32) from by decide)]
  rw [if_pos (show nI 13 = (13 : Int32) from rfl)]
  simp (disch := omega) only [pb_l2, pb_ll, nI_add, pb_mul, if_true, if_false, pb_bs, pb_b2n, hx, e1, e2]
theorem lb_14 {N L : Nat} {xs : Nat → Int32} {j : Nat} {h : ss_Hp} (hN : 150000 < N) (hL : L ≤ 3072) (hj : 6 * j + 6 ≤ L) (hi : inv_h h) (hv : xs (6 * j) &&& nI 31 = nI 14) : ∃ h', mm_law_b18 N L xs (some 0) (some 118) (nI (6 * j), h) = some (.inl (nI (6 * j + 6), h')) ∧ inv_h h' := by
  have hx : ∀ i, i < L → ss_xs L xs (nI i) = some (xs i) := fun i q => xs_at hL q
  have he : ¬ (Int32.ofNat L - (6 : Int32) < nI (6 * j)) := fun q => by have := (xs_end hL (by omega)).mp q; omega
  obtain ⟨r, h', h'', e1, e2, hi'⟩ := jo_go (oc := mm_S_stays N (some 0) (xs (6 * j + 1)) h) (fm := mm_M_stays N (some 118) (xs (6 * j + 1))) hi (fun T a fo x RS US I h2 hc hm ha hf => jx_stays hc hm ha (by omega))
  refine ⟨h'', ?_, hi'⟩
  replace hv : xs (6 * j) &&& (31 : Int32) = nI 14 := hv
  unfold mm_law_b18 mm_law_j1132
  show (if Int32.ofNat L - (6 : Int32) < nI (6 * j) then _ else _) = _
  rw [if_neg he, hx (6 * j) (by omega), pb_bs, pb_bs, hv]
  rw [if_neg (show ¬ nI 14 = (0 : Int32) from by decide)]
  rw [if_neg (show ¬ nI 14 = (1 : Int32) from by decide)]
  rw [if_neg (show ¬ nI 14 = (2 : Int32) from by decide)]
  rw [if_neg (show ¬ nI 14 = (3 : Int32) from by decide)]
  rw [if_neg (show ¬ nI 14 = (4 : Int32) from by decide)]
  rw [if_neg (show ¬ nI 14 = (5 : Int32) from by decide)]
  rw [if_neg (show ¬ nI 14 = (6 : Int32) from by decide)]
  rw [if_neg (show ¬ nI 14 = (7 : Int32) from by decide)]
  rw [if_neg (show ¬ nI 14 = (8 : Int32) from by decide)]
  rw [if_neg (show ¬ nI 14 = (9 : Int32) from by decide)]
  rw [if_neg (show ¬ nI 14 = (10 : Int32) from by decide)]
  rw [if_neg (show ¬ nI 14 = (11 : Int32) from by decide)]
  rw [if_neg (show ¬ nI 14 = (12 : Int32) from by decide)]
  rw [if_neg (show ¬ nI 14 = (13 : Int32) from by decide)]
  rw [if_pos (show nI 14 = (14 : Int32) from rfl)]
  simp (disch := omega) only [pb_l2, pb_ll, nI_add, pb_mul, if_true, if_false, pb_bs, pb_b2n, hx, e1, e2]
theorem lb_15 {N L : Nat} {xs : Nat → Int32} {j : Nat} {h : ss_Hp} (hN : 150000 < N) (hL : L ≤ 3072) (hj : 6 * j + 6 ≤ L) (hi : inv_h h) (hv : xs (6 * j) &&& nI 31 = nI 15) : ∃ h', mm_law_b18 N L xs (some 0) (some 118) (nI (6 * j), h) = some (.inl (nI (6 * j + 6), h')) ∧ inv_h h' := by
  have hx : ∀ i, i < L → ss_xs L xs (nI i) = some (xs i) := fun i q => xs_at hL q
  have he : ¬ (Int32.ofNat L - (6 : Int32) < nI (6 * j)) := fun q => by have := (xs_end hL (by omega)).mp q; omega
  obtain ⟨r, h', h'', e1, e2, hi'⟩ := jo_go (oc := mm_S_closes N (some 0) (xs (6 * j + 1)) h) (fm := mm_M_closes1 N (some 118) (xs (6 * j + 1))) hi (fun T a fo x RS US I h2 hc hm ha hf => jx_closes hc hm ha (by omega))
  refine ⟨h'', ?_, hi'⟩
  replace hv : xs (6 * j) &&& (31 : Int32) = nI 15 := hv
  unfold mm_law_b18 mm_law_j1132
  show (if Int32.ofNat L - (6 : Int32) < nI (6 * j) then _ else _) = _
  rw [if_neg he, hx (6 * j) (by omega), pb_bs, pb_bs, hv]
  rw [if_neg (show ¬ nI 15 = (0 : Int32) from by decide)]
  rw [if_neg (show ¬ nI 15 = (1 : Int32) from by decide)]
  rw [if_neg (show ¬ nI 15 = (2 : Int32) from by decide)]
  rw [if_neg (show ¬ nI 15 = (3 : Int32) from by decide)]
  rw [if_neg (show ¬ nI 15 = (4 : Int32) from by decide)]
  rw [if_neg (show ¬ nI 15 = (5 : Int32) from by decide)]
  rw [if_neg (show ¬ nI 15 = (6 : Int32) from by decide)]
  rw [if_neg (show ¬ nI 15 = (7 : Int32) from by decide)]
  rw [if_neg (show ¬ nI 15 = (8 : Int32) from by decide)]
  rw [if_neg (show ¬ nI 15 = (9 : Int32) from by decide)]
  rw [if_neg (show ¬ nI 15 = (10 : Int32) from by decide)]
  rw [if_neg (show ¬ nI 15 = (11 : Int32) from by decide)]
  rw [if_neg (show ¬ nI 15 = (12 : Int32) from by decide)]
  rw [if_neg (show ¬ nI 15 = (13 : Int32) from by decide)]
  rw [if_neg (show ¬ nI 15 = (14 : Int32) from by decide)]
  rw [if_pos (show nI 15 = (15 : Int32) from rfl)]
  simp (disch := omega) only [pb_l2, pb_ll, nI_add, pb_mul, if_true, if_false, pb_bs, pb_b2n, hx, e1, e2]
theorem lb_16 {N L : Nat} {xs : Nat → Int32} {j : Nat} {h : ss_Hp} (hN : 150000 < N) (hL : L ≤ 3072) (hj : 6 * j + 6 ≤ L) (hi : inv_h h) (hv : xs (6 * j) &&& nI 31 = nI 16) : ∃ h', mm_law_b18 N L xs (some 0) (some 118) (nI (6 * j), h) = some (.inl (nI (6 * j + 6), h')) ∧ inv_h h' := by
  have hx : ∀ i, i < L → ss_xs L xs (nI i) = some (xs i) := fun i q => xs_at hL q
  have he : ¬ (Int32.ofNat L - (6 : Int32) < nI (6 * j)) := fun q => by have := (xs_end hL (by omega)).mp q; omega
  obtain ⟨r, h', h'', e1, e2, hi'⟩ := jo_go (oc := mm_S_ring N (some 0) (xs (6 * j + 1)) h) (fm := mm_M_ring N (some 118) (xs (6 * j + 1))) hi (fun T a fo x RS US I h2 hc hm ha hf => jx_ring hc hm ha (by omega))
  refine ⟨h'', ?_, hi'⟩
  replace hv : xs (6 * j) &&& (31 : Int32) = nI 16 := hv
  unfold mm_law_b18 mm_law_j1132
  show (if Int32.ofNat L - (6 : Int32) < nI (6 * j) then _ else _) = _
  rw [if_neg he, hx (6 * j) (by omega), pb_bs, pb_bs, hv]
  rw [if_neg (show ¬ nI 16 = (0 : Int32) from by decide)]
  rw [if_neg (show ¬ nI 16 = (1 : Int32) from by decide)]
  rw [if_neg (show ¬ nI 16 = (2 : Int32) from by decide)]
  rw [if_neg (show ¬ nI 16 = (3 : Int32) from by decide)]
  rw [if_neg (show ¬ nI 16 = (4 : Int32) from by decide)]
  rw [if_neg (show ¬ nI 16 = (5 : Int32) from by decide)]
  rw [if_neg (show ¬ nI 16 = (6 : Int32) from by decide)]
  rw [if_neg (show ¬ nI 16 = (7 : Int32) from by decide)]
  rw [if_neg (show ¬ nI 16 = (8 : Int32) from by decide)]
  rw [if_neg (show ¬ nI 16 = (9 : Int32) from by decide)]
  rw [if_neg (show ¬ nI 16 = (10 : Int32) from by decide)]
  rw [if_neg (show ¬ nI 16 = (11 : Int32) from by decide)]
  rw [if_neg (show ¬ nI 16 = (12 : Int32) from by decide)]
  rw [if_neg (show ¬ nI 16 = (13 : Int32) from by decide)]
  rw [if_neg (show ¬ nI 16 = (14 : Int32) from by decide)]
  rw [if_neg (show ¬ nI 16 = (15 : Int32) from by decide)]
  rw [if_pos (show nI 16 = (16 : Int32) from rfl)]
  simp (disch := omega) only [pb_l2, pb_ll, nI_add, pb_mul, if_true, if_false, pb_bs, pb_b2n, hx, e1, e2]
theorem lb_17 {N L : Nat} {xs : Nat → Int32} {j : Nat} {h : ss_Hp} (hN : 150000 < N) (hL : L ≤ 3072) (hj : 6 * j + 6 ≤ L) (hi : inv_h h) (hv : xs (6 * j) &&& nI 31 = nI 17) : ∃ h', mm_law_b18 N L xs (some 0) (some 118) (nI (6 * j), h) = some (.inl (nI (6 * j + 6), h')) ∧ inv_h h' := by
  have hx : ∀ i, i < L → ss_xs L xs (nI i) = some (xs i) := fun i q => xs_at hL q
  have he : ¬ (Int32.ofNat L - (6 : Int32) < nI (6 * j)) := fun q => by have := (xs_end hL (by omega)).mp q; omega
  obtain ⟨r, e1, e2⟩ := jr_go (oc := mm_S_spare N (some 0) (xs (6 * j + 1)) (xs (6 * j + 2)) (xs (6 * j + 3)) h) (om := mm_M_spare N (some 118) (xs (6 * j + 1)) (xs (6 * j + 2)) (xs (6 * j + 3)) h) hi (fun T a fo x RS US I hc hm ha => jx_spare hc hm ha (by omega))
  refine ⟨h, ?_, hi⟩
  replace hv : xs (6 * j) &&& (31 : Int32) = nI 17 := hv
  unfold mm_law_b18 mm_law_j1132
  show (if Int32.ofNat L - (6 : Int32) < nI (6 * j) then _ else _) = _
  rw [if_neg he, hx (6 * j) (by omega), pb_bs, pb_bs, hv]
  rw [if_neg (show ¬ nI 17 = (0 : Int32) from by decide)]
  rw [if_neg (show ¬ nI 17 = (1 : Int32) from by decide)]
  rw [if_neg (show ¬ nI 17 = (2 : Int32) from by decide)]
  rw [if_neg (show ¬ nI 17 = (3 : Int32) from by decide)]
  rw [if_neg (show ¬ nI 17 = (4 : Int32) from by decide)]
  rw [if_neg (show ¬ nI 17 = (5 : Int32) from by decide)]
  rw [if_neg (show ¬ nI 17 = (6 : Int32) from by decide)]
  rw [if_neg (show ¬ nI 17 = (7 : Int32) from by decide)]
  rw [if_neg (show ¬ nI 17 = (8 : Int32) from by decide)]
  rw [if_neg (show ¬ nI 17 = (9 : Int32) from by decide)]
  rw [if_neg (show ¬ nI 17 = (10 : Int32) from by decide)]
  rw [if_neg (show ¬ nI 17 = (11 : Int32) from by decide)]
  rw [if_neg (show ¬ nI 17 = (12 : Int32) from by decide)]
  rw [if_neg (show ¬ nI 17 = (13 : Int32) from by decide)]
  rw [if_neg (show ¬ nI 17 = (14 : Int32) from by decide)]
  rw [if_neg (show ¬ nI 17 = (15 : Int32) from by decide)]
  rw [if_neg (show ¬ nI 17 = (16 : Int32) from by decide)]
  rw [if_pos (show nI 17 = (17 : Int32) from rfl)]
  simp (disch := omega) only [pb_l2, pb_ll, nI_add, pb_mul, if_true, if_false, pb_bs, pb_b2n, hx, e1, e2]
theorem lb_18 {N L : Nat} {xs : Nat → Int32} {j : Nat} {h : ss_Hp} (hN : 150000 < N) (hL : L ≤ 3072) (hj : 6 * j + 6 ≤ L) (hi : inv_h h) (hv : xs (6 * j) &&& nI 31 = nI 18) : ∃ h', mm_law_b18 N L xs (some 0) (some 118) (nI (6 * j), h) = some (.inl (nI (6 * j + 6), h')) ∧ inv_h h' := by
  have hx : ∀ i, i < L → ss_xs L xs (nI i) = some (xs i) := fun i q => xs_at hL q
  have he : ¬ (Int32.ofNat L - (6 : Int32) < nI (6 * j)) := fun q => by have := (xs_end hL (by omega)).mp q; omega
  obtain ⟨r, h', e1, e2, hi'⟩ := jf_go (y := xs (6 * j + 1)) (w := xs (6 * j + 2)) hi (show 5000 < N by omega)
  refine ⟨h', ?_, hi'⟩
  replace hv : xs (6 * j) &&& (31 : Int32) = nI 18 := hv
  unfold mm_law_b18 mm_law_j1132
  show (if Int32.ofNat L - (6 : Int32) < nI (6 * j) then _ else _) = _
  rw [if_neg he, hx (6 * j) (by omega), pb_bs, pb_bs, hv]
  rw [if_neg (show ¬ nI 18 = (0 : Int32) from by decide)]
  rw [if_neg (show ¬ nI 18 = (1 : Int32) from by decide)]
  rw [if_neg (show ¬ nI 18 = (2 : Int32) from by decide)]
  rw [if_neg (show ¬ nI 18 = (3 : Int32) from by decide)]
  rw [if_neg (show ¬ nI 18 = (4 : Int32) from by decide)]
  rw [if_neg (show ¬ nI 18 = (5 : Int32) from by decide)]
  rw [if_neg (show ¬ nI 18 = (6 : Int32) from by decide)]
  rw [if_neg (show ¬ nI 18 = (7 : Int32) from by decide)]
  rw [if_neg (show ¬ nI 18 = (8 : Int32) from by decide)]
  rw [if_neg (show ¬ nI 18 = (9 : Int32) from by decide)]
  rw [if_neg (show ¬ nI 18 = (10 : Int32) from by decide)]
  rw [if_neg (show ¬ nI 18 = (11 : Int32) from by decide)]
  rw [if_neg (show ¬ nI 18 = (12 : Int32) from by decide)]
  rw [if_neg (show ¬ nI 18 = (13 : Int32) from by decide)]
  rw [if_neg (show ¬ nI 18 = (14 : Int32) from by decide)]
  rw [if_neg (show ¬ nI 18 = (15 : Int32) from by decide)]
  rw [if_neg (show ¬ nI 18 = (16 : Int32) from by decide)]
  rw [if_neg (show ¬ nI 18 = (17 : Int32) from by decide)]
  rw [if_pos (show nI 18 = (18 : Int32) from rfl)]
  simp (disch := omega) only [pb_l2, pb_ll, nI_add, pb_mul, if_true, if_false, pb_bs, pb_b2n, hx, e1, e2]
theorem lb_19 {N L : Nat} {xs : Nat → Int32} {j : Nat} {h : ss_Hp} (hN : 150000 < N) (hL : L ≤ 3072) (hj : 6 * j + 6 ≤ L) (hi : inv_h h) (hv : xs (6 * j) &&& nI 31 = nI 19) : ∃ h', mm_law_b18 N L xs (some 0) (some 118) (nI (6 * j), h) = some (.inl (nI (6 * j + 6), h')) ∧ inv_h h' := by
  have hx : ∀ i, i < L → ss_xs L xs (nI i) = some (xs i) := fun i q => xs_at hL q
  have he : ¬ (Int32.ofNat L - (6 : Int32) < nI (6 * j)) := fun q => by have := (xs_end hL (by omega)).mp q; omega
  obtain ⟨r, h', h'', e1, e2, hi'⟩ := jo_go (oc := mm_S_way N (some 0) (xs (6 * j + 1)) (xs (6 * j + 2)) (xs (6 * j + 3)) h) (fm := mm_M_way N (some 118) (xs (6 * j + 1)) (xs (6 * j + 2)) (xs (6 * j + 3))) hi (fun T a fo x RS US I h2 hc hm ha hf => jx_way hc hm ha (by omega) (by omega))
  refine ⟨h'', ?_, hi'⟩
  replace hv : xs (6 * j) &&& (31 : Int32) = nI 19 := hv
  unfold mm_law_b18 mm_law_j1132
  show (if Int32.ofNat L - (6 : Int32) < nI (6 * j) then _ else _) = _
  rw [if_neg he, hx (6 * j) (by omega), pb_bs, pb_bs, hv]
  rw [if_neg (show ¬ nI 19 = (0 : Int32) from by decide)]
  rw [if_neg (show ¬ nI 19 = (1 : Int32) from by decide)]
  rw [if_neg (show ¬ nI 19 = (2 : Int32) from by decide)]
  rw [if_neg (show ¬ nI 19 = (3 : Int32) from by decide)]
  rw [if_neg (show ¬ nI 19 = (4 : Int32) from by decide)]
  rw [if_neg (show ¬ nI 19 = (5 : Int32) from by decide)]
  rw [if_neg (show ¬ nI 19 = (6 : Int32) from by decide)]
  rw [if_neg (show ¬ nI 19 = (7 : Int32) from by decide)]
  rw [if_neg (show ¬ nI 19 = (8 : Int32) from by decide)]
  rw [if_neg (show ¬ nI 19 = (9 : Int32) from by decide)]
  rw [if_neg (show ¬ nI 19 = (10 : Int32) from by decide)]
  rw [if_neg (show ¬ nI 19 = (11 : Int32) from by decide)]
  rw [if_neg (show ¬ nI 19 = (12 : Int32) from by decide)]
  rw [if_neg (show ¬ nI 19 = (13 : Int32) from by decide)]
  rw [if_neg (show ¬ nI 19 = (14 : Int32) from by decide)]
  rw [if_neg (show ¬ nI 19 = (15 : Int32) from by decide)]
  rw [if_neg (show ¬ nI 19 = (16 : Int32) from by decide)]
  rw [if_neg (show ¬ nI 19 = (17 : Int32) from by decide)]
  rw [if_neg (show ¬ nI 19 = (18 : Int32) from by decide)]
  rw [if_pos (show nI 19 = (19 : Int32) from rfl)]
  simp (disch := omega) only [pb_l2, pb_ll, nI_add, pb_mul, if_true, if_false, pb_bs, pb_b2n, hx, e1, e2]
theorem lb_20 {N L : Nat} {xs : Nat → Int32} {j : Nat} {h : ss_Hp} (hN : 150000 < N) (hL : L ≤ 3072) (hj : 6 * j + 6 ≤ L) (hi : inv_h h) (hv : xs (6 * j) &&& nI 31 = nI 20) : ∃ h', mm_law_b18 N L xs (some 0) (some 118) (nI (6 * j), h) = some (.inl (nI (6 * j + 6), h')) ∧ inv_h h' := by
  have hx : ∀ i, i < L → ss_xs L xs (nI i) = some (xs i) := fun i q => xs_at hL q
  have he : ¬ (Int32.ofNat L - (6 : Int32) < nI (6 * j)) := fun q => by have := (xs_end hL (by omega)).mp q; omega
  obtain ⟨r, h', h'', e1, e2, hi'⟩ := jo_go (oc := mm_S_pacts N (some 0) (xs (6 * j + 1)) (xs (6 * j + 2)) h) (fm := mm_M_pacts N (some 118) (xs (6 * j + 1)) (xs (6 * j + 2))) hi (fun T a fo x RS US I h2 hc hm ha hf => jx_pacts hc hm ha (by omega))
  refine ⟨h'', ?_, hi'⟩
  replace hv : xs (6 * j) &&& (31 : Int32) = nI 20 := hv
  unfold mm_law_b18 mm_law_j1132
  show (if Int32.ofNat L - (6 : Int32) < nI (6 * j) then _ else _) = _
  rw [if_neg he, hx (6 * j) (by omega), pb_bs, pb_bs, hv]
  rw [if_neg (show ¬ nI 20 = (0 : Int32) from by decide)]
  rw [if_neg (show ¬ nI 20 = (1 : Int32) from by decide)]
  rw [if_neg (show ¬ nI 20 = (2 : Int32) from by decide)]
  rw [if_neg (show ¬ nI 20 = (3 : Int32) from by decide)]
  rw [if_neg (show ¬ nI 20 = (4 : Int32) from by decide)]
  rw [if_neg (show ¬ nI 20 = (5 : Int32) from by decide)]
  rw [if_neg (show ¬ nI 20 = (6 : Int32) from by decide)]
  rw [if_neg (show ¬ nI 20 = (7 : Int32) from by decide)]
  rw [if_neg (show ¬ nI 20 = (8 : Int32) from by decide)]
  rw [if_neg (show ¬ nI 20 = (9 : Int32) from by decide)]
  rw [if_neg (show ¬ nI 20 = (10 : Int32) from by decide)]
  rw [if_neg (show ¬ nI 20 = (11 : Int32) from by decide)]
  rw [if_neg (show ¬ nI 20 = (12 : Int32) from by decide)]
  rw [if_neg (show ¬ nI 20 = (13 : Int32) from by decide)]
  rw [if_neg (show ¬ nI 20 = (14 : Int32) from by decide)]
  rw [if_neg (show ¬ nI 20 = (15 : Int32) from by decide)]
  rw [if_neg (show ¬ nI 20 = (16 : Int32) from by decide)]
  rw [if_neg (show ¬ nI 20 = (17 : Int32) from by decide)]
  rw [if_neg (show ¬ nI 20 = (18 : Int32) from by decide)]
  rw [if_neg (show ¬ nI 20 = (19 : Int32) from by decide)]
  rw [if_pos (show nI 20 = (20 : Int32) from rfl)]
  simp (disch := omega) only [pb_l2, pb_ll, nI_add, pb_mul, if_true, if_false, pb_bs, pb_b2n, hx, e1, e2]
theorem lb_21 {N L : Nat} {xs : Nat → Int32} {j : Nat} {h : ss_Hp} (hN : 150000 < N) (hL : L ≤ 3072) (hj : 6 * j + 6 ≤ L) (hi : inv_h h) (hv : xs (6 * j) &&& nI 31 = nI 21) : ∃ h', mm_law_b18 N L xs (some 0) (some 118) (nI (6 * j), h) = some (.inl (nI (6 * j + 6), h')) ∧ inv_h h' := by
  have hx : ∀ i, i < L → ss_xs L xs (nI i) = some (xs i) := fun i q => xs_at hL q
  have he : ¬ (Int32.ofNat L - (6 : Int32) < nI (6 * j)) := fun q => by have := (xs_end hL (by omega)).mp q; omega
  obtain ⟨r, h', h'', e1, e2, hi'⟩ := jo_go (oc := mm_S_thrownOn N (some 0) (xs (6 * j + 1)) (xs (6 * j + 2)) (xs (6 * j + 3)) h) (fm := mm_M_thrownOn N (some 118) (xs (6 * j + 1)) (xs (6 * j + 2)) (xs (6 * j + 3))) hi (fun T a fo x RS US I h2 hc hm ha hf => jx_thrownOn hc hm ha (by omega))
  refine ⟨h'', ?_, hi'⟩
  replace hv : xs (6 * j) &&& (31 : Int32) = nI 21 := hv
  unfold mm_law_b18 mm_law_j1132
  show (if Int32.ofNat L - (6 : Int32) < nI (6 * j) then _ else _) = _
  rw [if_neg he, hx (6 * j) (by omega), pb_bs, pb_bs, hv]
  rw [if_neg (show ¬ nI 21 = (0 : Int32) from by decide)]
  rw [if_neg (show ¬ nI 21 = (1 : Int32) from by decide)]
  rw [if_neg (show ¬ nI 21 = (2 : Int32) from by decide)]
  rw [if_neg (show ¬ nI 21 = (3 : Int32) from by decide)]
  rw [if_neg (show ¬ nI 21 = (4 : Int32) from by decide)]
  rw [if_neg (show ¬ nI 21 = (5 : Int32) from by decide)]
  rw [if_neg (show ¬ nI 21 = (6 : Int32) from by decide)]
  rw [if_neg (show ¬ nI 21 = (7 : Int32) from by decide)]
  rw [if_neg (show ¬ nI 21 = (8 : Int32) from by decide)]
  rw [if_neg (show ¬ nI 21 = (9 : Int32) from by decide)]
  rw [if_neg (show ¬ nI 21 = (10 : Int32) from by decide)]
  rw [if_neg (show ¬ nI 21 = (11 : Int32) from by decide)]
  rw [if_neg (show ¬ nI 21 = (12 : Int32) from by decide)]
  rw [if_neg (show ¬ nI 21 = (13 : Int32) from by decide)]
  rw [if_neg (show ¬ nI 21 = (14 : Int32) from by decide)]
  rw [if_neg (show ¬ nI 21 = (15 : Int32) from by decide)]
  rw [if_neg (show ¬ nI 21 = (16 : Int32) from by decide)]
  rw [if_neg (show ¬ nI 21 = (17 : Int32) from by decide)]
  rw [if_neg (show ¬ nI 21 = (18 : Int32) from by decide)]
  rw [if_neg (show ¬ nI 21 = (19 : Int32) from by decide)]
  rw [if_neg (show ¬ nI 21 = (20 : Int32) from by decide)]
  rw [if_pos (show nI 21 = (21 : Int32) from rfl)]
  simp (disch := omega) only [pb_l2, pb_ll, nI_add, pb_mul, if_true, if_false, pb_bs, pb_b2n, hx, e1, e2]
theorem lb_22 {N L : Nat} {xs : Nat → Int32} {j : Nat} {h : ss_Hp} (hN : 150000 < N) (hL : L ≤ 3072) (hj : 6 * j + 6 ≤ L) (hi : inv_h h) (hv : xs (6 * j) &&& nI 31 = nI 22) : ∃ h', mm_law_b18 N L xs (some 0) (some 118) (nI (6 * j), h) = some (.inl (nI (6 * j + 6), h')) ∧ inv_h h' := by
  have hx : ∀ i, i < L → ss_xs L xs (nI i) = some (xs i) := fun i q => xs_at hL q
  have he : ¬ (Int32.ofNat L - (6 : Int32) < nI (6 * j)) := fun q => by have := (xs_end hL (by omega)).mp q; omega
  obtain ⟨r, h', h'', e1, e2, hi'⟩ := jo_go (oc := mm_S_best N (some 0) (xs (6 * j + 1)) (xs (6 * j + 2)) (xs (6 * j + 3)) h) (fm := mm_M_best N (some 118) (xs (6 * j + 1)) (xs (6 * j + 2)) (xs (6 * j + 3))) hi (fun T a fo x RS US I h2 hc hm ha hf => jx_best hc hm ha (by omega))
  refine ⟨h'', ?_, hi'⟩
  replace hv : xs (6 * j) &&& (31 : Int32) = nI 22 := hv
  unfold mm_law_b18 mm_law_j1132
  show (if Int32.ofNat L - (6 : Int32) < nI (6 * j) then _ else _) = _
  rw [if_neg he, hx (6 * j) (by omega), pb_bs, pb_bs, hv]
  rw [if_neg (show ¬ nI 22 = (0 : Int32) from by decide)]
  rw [if_neg (show ¬ nI 22 = (1 : Int32) from by decide)]
  rw [if_neg (show ¬ nI 22 = (2 : Int32) from by decide)]
  rw [if_neg (show ¬ nI 22 = (3 : Int32) from by decide)]
  rw [if_neg (show ¬ nI 22 = (4 : Int32) from by decide)]
  rw [if_neg (show ¬ nI 22 = (5 : Int32) from by decide)]
  rw [if_neg (show ¬ nI 22 = (6 : Int32) from by decide)]
  rw [if_neg (show ¬ nI 22 = (7 : Int32) from by decide)]
  rw [if_neg (show ¬ nI 22 = (8 : Int32) from by decide)]
  rw [if_neg (show ¬ nI 22 = (9 : Int32) from by decide)]
  rw [if_neg (show ¬ nI 22 = (10 : Int32) from by decide)]
  rw [if_neg (show ¬ nI 22 = (11 : Int32) from by decide)]
  rw [if_neg (show ¬ nI 22 = (12 : Int32) from by decide)]
  rw [if_neg (show ¬ nI 22 = (13 : Int32) from by decide)]
  rw [if_neg (show ¬ nI 22 = (14 : Int32) from by decide)]
  rw [if_neg (show ¬ nI 22 = (15 : Int32) from by decide)]
  rw [if_neg (show ¬ nI 22 = (16 : Int32) from by decide)]
  rw [if_neg (show ¬ nI 22 = (17 : Int32) from by decide)]
  rw [if_neg (show ¬ nI 22 = (18 : Int32) from by decide)]
  rw [if_neg (show ¬ nI 22 = (19 : Int32) from by decide)]
  rw [if_neg (show ¬ nI 22 = (20 : Int32) from by decide)]
  rw [if_neg (show ¬ nI 22 = (21 : Int32) from by decide)]
  rw [if_pos (show nI 22 = (22 : Int32) from rfl)]
  simp (disch := omega) only [pb_l2, pb_ll, nI_add, pb_mul, if_true, if_false, pb_bs, pb_b2n, hx, e1, e2]
theorem lb_23 {N L : Nat} {xs : Nat → Int32} {j : Nat} {h : ss_Hp} (hN : 150000 < N) (hL : L ≤ 3072) (hj : 6 * j + 6 ≤ L) (hi : inv_h h) (hv : xs (6 * j) &&& nI 31 = nI 23) : ∃ h', mm_law_b18 N L xs (some 0) (some 118) (nI (6 * j), h) = some (.inl (nI (6 * j + 6), h')) ∧ inv_h h' := by
  have hx : ∀ i, i < L → ss_xs L xs (nI i) = some (xs i) := fun i q => xs_at hL q
  have he : ¬ (Int32.ofNat L - (6 : Int32) < nI (6 * j)) := fun q => by have := (xs_end hL (by omega)).mp q; omega
  obtain ⟨r, h', h'', e1, e2, hi'⟩ := jo_go (oc := mm_S_might N (some 0) (xs (6 * j + 1)) (xs (6 * j + 2)) h) (fm := mm_M_might N (some 118) (xs (6 * j + 1)) (xs (6 * j + 2))) hi (fun T a fo x RS US I h2 hc hm ha hf => jx_might hc hm ha (by omega))
  refine ⟨h'', ?_, hi'⟩
  replace hv : xs (6 * j) &&& (31 : Int32) = nI 23 := hv
  unfold mm_law_b18 mm_law_j1132
  show (if Int32.ofNat L - (6 : Int32) < nI (6 * j) then _ else _) = _
  rw [if_neg he, hx (6 * j) (by omega), pb_bs, pb_bs, hv]
  rw [if_neg (show ¬ nI 23 = (0 : Int32) from by decide)]
  rw [if_neg (show ¬ nI 23 = (1 : Int32) from by decide)]
  rw [if_neg (show ¬ nI 23 = (2 : Int32) from by decide)]
  rw [if_neg (show ¬ nI 23 = (3 : Int32) from by decide)]
  rw [if_neg (show ¬ nI 23 = (4 : Int32) from by decide)]
  rw [if_neg (show ¬ nI 23 = (5 : Int32) from by decide)]
  rw [if_neg (show ¬ nI 23 = (6 : Int32) from by decide)]
  rw [if_neg (show ¬ nI 23 = (7 : Int32) from by decide)]
  rw [if_neg (show ¬ nI 23 = (8 : Int32) from by decide)]
  rw [if_neg (show ¬ nI 23 = (9 : Int32) from by decide)]
  rw [if_neg (show ¬ nI 23 = (10 : Int32) from by decide)]
  rw [if_neg (show ¬ nI 23 = (11 : Int32) from by decide)]
  rw [if_neg (show ¬ nI 23 = (12 : Int32) from by decide)]
  rw [if_neg (show ¬ nI 23 = (13 : Int32) from by decide)]
  rw [if_neg (show ¬ nI 23 = (14 : Int32) from by decide)]
  rw [if_neg (show ¬ nI 23 = (15 : Int32) from by decide)]
  rw [if_neg (show ¬ nI 23 = (16 : Int32) from by decide)]
  rw [if_neg (show ¬ nI 23 = (17 : Int32) from by decide)]
  rw [if_neg (show ¬ nI 23 = (18 : Int32) from by decide)]
  rw [if_neg (show ¬ nI 23 = (19 : Int32) from by decide)]
  rw [if_neg (show ¬ nI 23 = (20 : Int32) from by decide)]
  rw [if_neg (show ¬ nI 23 = (21 : Int32) from by decide)]
  rw [if_neg (show ¬ nI 23 = (22 : Int32) from by decide)]
  rw [if_pos (show nI 23 = (23 : Int32) from rfl)]
  simp (disch := omega) only [pb_l2, pb_ll, nI_add, pb_mul, if_true, if_false, pb_bs, pb_b2n, hx, e1, e2]
theorem lb_24 {N L : Nat} {xs : Nat → Int32} {j : Nat} {h : ss_Hp} (hN : 150000 < N) (hL : L ≤ 3072) (hj : 6 * j + 6 ≤ L) (hi : inv_h h) (hv : xs (6 * j) &&& nI 31 = nI 24) : ∃ h', mm_law_b18 N L xs (some 0) (some 118) (nI (6 * j), h) = some (.inl (nI (6 * j + 6), h')) ∧ inv_h h' := by
  have hx : ∀ i, i < L → ss_xs L xs (nI i) = some (xs i) := fun i q => xs_at hL q
  have he : ¬ (Int32.ofNat L - (6 : Int32) < nI (6 * j)) := fun q => by have := (xs_end hL (by omega)).mp q; omega
  obtain ⟨r, h', h'', e1, e2, hi'⟩ := jo_go (oc := mm_S_note N (some 0) (xs (6 * j + 1)) (xs (6 * j + 2)) (xs (6 * j + 3)) h) (fm := mm_M_note N (some 118) (xs (6 * j + 1)) (xs (6 * j + 2)) (xs (6 * j + 3))) hi (fun T a fo x RS US I h2 hc hm ha hf => jx_note hc hm ha (by omega))
  refine ⟨h'', ?_, hi'⟩
  replace hv : xs (6 * j) &&& (31 : Int32) = nI 24 := hv
  unfold mm_law_b18 mm_law_j1132
  show (if Int32.ofNat L - (6 : Int32) < nI (6 * j) then _ else _) = _
  rw [if_neg he, hx (6 * j) (by omega), pb_bs, pb_bs, hv]
  rw [if_neg (show ¬ nI 24 = (0 : Int32) from by decide)]
  rw [if_neg (show ¬ nI 24 = (1 : Int32) from by decide)]
  rw [if_neg (show ¬ nI 24 = (2 : Int32) from by decide)]
  rw [if_neg (show ¬ nI 24 = (3 : Int32) from by decide)]
  rw [if_neg (show ¬ nI 24 = (4 : Int32) from by decide)]
  rw [if_neg (show ¬ nI 24 = (5 : Int32) from by decide)]
  rw [if_neg (show ¬ nI 24 = (6 : Int32) from by decide)]
  rw [if_neg (show ¬ nI 24 = (7 : Int32) from by decide)]
  rw [if_neg (show ¬ nI 24 = (8 : Int32) from by decide)]
  rw [if_neg (show ¬ nI 24 = (9 : Int32) from by decide)]
  rw [if_neg (show ¬ nI 24 = (10 : Int32) from by decide)]
  rw [if_neg (show ¬ nI 24 = (11 : Int32) from by decide)]
  rw [if_neg (show ¬ nI 24 = (12 : Int32) from by decide)]
  rw [if_neg (show ¬ nI 24 = (13 : Int32) from by decide)]
  rw [if_neg (show ¬ nI 24 = (14 : Int32) from by decide)]
  rw [if_neg (show ¬ nI 24 = (15 : Int32) from by decide)]
  rw [if_neg (show ¬ nI 24 = (16 : Int32) from by decide)]
  rw [if_neg (show ¬ nI 24 = (17 : Int32) from by decide)]
  rw [if_neg (show ¬ nI 24 = (18 : Int32) from by decide)]
  rw [if_neg (show ¬ nI 24 = (19 : Int32) from by decide)]
  rw [if_neg (show ¬ nI 24 = (20 : Int32) from by decide)]
  rw [if_neg (show ¬ nI 24 = (21 : Int32) from by decide)]
  rw [if_neg (show ¬ nI 24 = (22 : Int32) from by decide)]
  rw [if_neg (show ¬ nI 24 = (23 : Int32) from by decide)]
  rw [if_pos (show nI 24 = (24 : Int32) from rfl)]
  simp (disch := omega) only [pb_l2, pb_ll, nI_add, pb_mul, if_true, if_false, pb_bs, pb_b2n, hx, e1, e2]
theorem lb_25 {N L : Nat} {xs : Nat → Int32} {j : Nat} {h : ss_Hp} (hN : 150000 < N) (hL : L ≤ 3072) (hj : 6 * j + 6 ≤ L) (hi : inv_h h) (hv : xs (6 * j) &&& nI 31 = nI 25) : ∃ h', mm_law_b18 N L xs (some 0) (some 118) (nI (6 * j), h) = some (.inl (nI (6 * j + 6), h')) ∧ inv_h h' := by
  have hx : ∀ i, i < L → ss_xs L xs (nI i) = some (xs i) := fun i q => xs_at hL q
  have he : ¬ (Int32.ofNat L - (6 : Int32) < nI (6 * j)) := fun q => by have := (xs_end hL (by omega)).mp q; omega
  obtain ⟨r, h', h'', e1, e2, hi'⟩ := jo_go (oc := mm_S_ruled N (some 0) (xs (6 * j + 1)) h) (fm := mm_M_ruled N (some 118) (xs (6 * j + 1))) hi (fun T a fo x RS US I h2 hc hm ha hf => jx_ruled hc hm ha (by omega))
  refine ⟨h'', ?_, hi'⟩
  replace hv : xs (6 * j) &&& (31 : Int32) = nI 25 := hv
  unfold mm_law_b18 mm_law_j1132
  show (if Int32.ofNat L - (6 : Int32) < nI (6 * j) then _ else _) = _
  rw [if_neg he, hx (6 * j) (by omega), pb_bs, pb_bs, hv]
  rw [if_neg (show ¬ nI 25 = (0 : Int32) from by decide)]
  rw [if_neg (show ¬ nI 25 = (1 : Int32) from by decide)]
  rw [if_neg (show ¬ nI 25 = (2 : Int32) from by decide)]
  rw [if_neg (show ¬ nI 25 = (3 : Int32) from by decide)]
  rw [if_neg (show ¬ nI 25 = (4 : Int32) from by decide)]
  rw [if_neg (show ¬ nI 25 = (5 : Int32) from by decide)]
  rw [if_neg (show ¬ nI 25 = (6 : Int32) from by decide)]
  rw [if_neg (show ¬ nI 25 = (7 : Int32) from by decide)]
  rw [if_neg (show ¬ nI 25 = (8 : Int32) from by decide)]
  rw [if_neg (show ¬ nI 25 = (9 : Int32) from by decide)]
  rw [if_neg (show ¬ nI 25 = (10 : Int32) from by decide)]
  rw [if_neg (show ¬ nI 25 = (11 : Int32) from by decide)]
  rw [if_neg (show ¬ nI 25 = (12 : Int32) from by decide)]
  rw [if_neg (show ¬ nI 25 = (13 : Int32) from by decide)]
  rw [if_neg (show ¬ nI 25 = (14 : Int32) from by decide)]
  rw [if_neg (show ¬ nI 25 = (15 : Int32) from by decide)]
  rw [if_neg (show ¬ nI 25 = (16 : Int32) from by decide)]
  rw [if_neg (show ¬ nI 25 = (17 : Int32) from by decide)]
  rw [if_neg (show ¬ nI 25 = (18 : Int32) from by decide)]
  rw [if_neg (show ¬ nI 25 = (19 : Int32) from by decide)]
  rw [if_neg (show ¬ nI 25 = (20 : Int32) from by decide)]
  rw [if_neg (show ¬ nI 25 = (21 : Int32) from by decide)]
  rw [if_neg (show ¬ nI 25 = (22 : Int32) from by decide)]
  rw [if_neg (show ¬ nI 25 = (23 : Int32) from by decide)]
  rw [if_neg (show ¬ nI 25 = (24 : Int32) from by decide)]
  rw [if_pos (show nI 25 = (25 : Int32) from rfl)]
  simp (disch := omega) only [pb_l2, pb_ll, nI_add, pb_mul, if_true, if_false, pb_bs, pb_b2n, hx, e1, e2]
theorem lb_26 {N L : Nat} {xs : Nat → Int32} {j : Nat} {h : ss_Hp} (hN : 150000 < N) (hL : L ≤ 3072) (hj : 6 * j + 6 ≤ L) (hi : inv_h h) (hv : xs (6 * j) &&& nI 31 = nI 26) : ∃ h', mm_law_b18 N L xs (some 0) (some 118) (nI (6 * j), h) = some (.inl (nI (6 * j + 6), h')) ∧ inv_h h' := by
  have hx : ∀ i, i < L → ss_xs L xs (nI i) = some (xs i) := fun i q => xs_at hL q
  have he : ¬ (Int32.ofNat L - (6 : Int32) < nI (6 * j)) := fun q => by have := (xs_end hL (by omega)).mp q; omega
  obtain ⟨r, h', h'', e1, e2, hi'⟩ := jo_go (oc := mm_S_look N (some 0) (xs (6 * j + 1)) (xs (6 * j + 2)) h) (fm := mm_M_look N (some 118) (xs (6 * j + 1)) (xs (6 * j + 2))) hi (fun T a fo x RS US I h2 hc hm ha hf => jx_look hc hm ha (by omega))
  refine ⟨h'', ?_, hi'⟩
  replace hv : xs (6 * j) &&& (31 : Int32) = nI 26 := hv
  unfold mm_law_b18 mm_law_j1132
  show (if Int32.ofNat L - (6 : Int32) < nI (6 * j) then _ else _) = _
  rw [if_neg he, hx (6 * j) (by omega), pb_bs, pb_bs, hv]
  rw [if_neg (show ¬ nI 26 = (0 : Int32) from by decide)]
  rw [if_neg (show ¬ nI 26 = (1 : Int32) from by decide)]
  rw [if_neg (show ¬ nI 26 = (2 : Int32) from by decide)]
  rw [if_neg (show ¬ nI 26 = (3 : Int32) from by decide)]
  rw [if_neg (show ¬ nI 26 = (4 : Int32) from by decide)]
  rw [if_neg (show ¬ nI 26 = (5 : Int32) from by decide)]
  rw [if_neg (show ¬ nI 26 = (6 : Int32) from by decide)]
  rw [if_neg (show ¬ nI 26 = (7 : Int32) from by decide)]
  rw [if_neg (show ¬ nI 26 = (8 : Int32) from by decide)]
  rw [if_neg (show ¬ nI 26 = (9 : Int32) from by decide)]
  rw [if_neg (show ¬ nI 26 = (10 : Int32) from by decide)]
  rw [if_neg (show ¬ nI 26 = (11 : Int32) from by decide)]
  rw [if_neg (show ¬ nI 26 = (12 : Int32) from by decide)]
  rw [if_neg (show ¬ nI 26 = (13 : Int32) from by decide)]
  rw [if_neg (show ¬ nI 26 = (14 : Int32) from by decide)]
  rw [if_neg (show ¬ nI 26 = (15 : Int32) from by decide)]
  rw [if_neg (show ¬ nI 26 = (16 : Int32) from by decide)]
  rw [if_neg (show ¬ nI 26 = (17 : Int32) from by decide)]
  rw [if_neg (show ¬ nI 26 = (18 : Int32) from by decide)]
  rw [if_neg (show ¬ nI 26 = (19 : Int32) from by decide)]
  rw [if_neg (show ¬ nI 26 = (20 : Int32) from by decide)]
  rw [if_neg (show ¬ nI 26 = (21 : Int32) from by decide)]
  rw [if_neg (show ¬ nI 26 = (22 : Int32) from by decide)]
  rw [if_neg (show ¬ nI 26 = (23 : Int32) from by decide)]
  rw [if_neg (show ¬ nI 26 = (24 : Int32) from by decide)]
  rw [if_neg (show ¬ nI 26 = (25 : Int32) from by decide)]
  rw [if_pos (show nI 26 = (26 : Int32) from rfl)]
  simp (disch := omega) only [pb_l2, pb_ll, nI_add, pb_mul, if_true, if_false, pb_bs, pb_b2n, hx, e1, e2]
theorem lb_27 {N L : Nat} {xs : Nat → Int32} {j : Nat} {h : ss_Hp} (hN : 150000 < N) (hL : L ≤ 3072) (hj : 6 * j + 6 ≤ L) (hi : inv_h h) (hv : xs (6 * j) &&& nI 31 = nI 27) : ∃ h', mm_law_b18 N L xs (some 0) (some 118) (nI (6 * j), h) = some (.inl (nI (6 * j + 6), h')) ∧ inv_h h' := by
  have hx : ∀ i, i < L → ss_xs L xs (nI i) = some (xs i) := fun i q => xs_at hL q
  have he : ¬ (Int32.ofNat L - (6 : Int32) < nI (6 * j)) := fun q => by have := (xs_end hL (by omega)).mp q; omega
  obtain ⟨r, h', h'', e1, e2, hi'⟩ := jo_go (oc := mm_S_seed N (some 0) (xs (6 * j + 1)) h) (fm := mm_M_seed N (some 118) (xs (6 * j + 1))) hi (fun T a fo x RS US I h2 hc hm ha hf => jx_seed hc hm ha (by omega))
  refine ⟨h'', ?_, hi'⟩
  replace hv : xs (6 * j) &&& (31 : Int32) = nI 27 := hv
  unfold mm_law_b18 mm_law_j1132
  show (if Int32.ofNat L - (6 : Int32) < nI (6 * j) then _ else _) = _
  rw [if_neg he, hx (6 * j) (by omega), pb_bs, pb_bs, hv]
  rw [if_neg (show ¬ nI 27 = (0 : Int32) from by decide)]
  rw [if_neg (show ¬ nI 27 = (1 : Int32) from by decide)]
  rw [if_neg (show ¬ nI 27 = (2 : Int32) from by decide)]
  rw [if_neg (show ¬ nI 27 = (3 : Int32) from by decide)]
  rw [if_neg (show ¬ nI 27 = (4 : Int32) from by decide)]
  rw [if_neg (show ¬ nI 27 = (5 : Int32) from by decide)]
  rw [if_neg (show ¬ nI 27 = (6 : Int32) from by decide)]
  rw [if_neg (show ¬ nI 27 = (7 : Int32) from by decide)]
  rw [if_neg (show ¬ nI 27 = (8 : Int32) from by decide)]
  rw [if_neg (show ¬ nI 27 = (9 : Int32) from by decide)]
  rw [if_neg (show ¬ nI 27 = (10 : Int32) from by decide)]
  rw [if_neg (show ¬ nI 27 = (11 : Int32) from by decide)]
  rw [if_neg (show ¬ nI 27 = (12 : Int32) from by decide)]
  rw [if_neg (show ¬ nI 27 = (13 : Int32) from by decide)]
  rw [if_neg (show ¬ nI 27 = (14 : Int32) from by decide)]
  rw [if_neg (show ¬ nI 27 = (15 : Int32) from by decide)]
  rw [if_neg (show ¬ nI 27 = (16 : Int32) from by decide)]
  rw [if_neg (show ¬ nI 27 = (17 : Int32) from by decide)]
  rw [if_neg (show ¬ nI 27 = (18 : Int32) from by decide)]
  rw [if_neg (show ¬ nI 27 = (19 : Int32) from by decide)]
  rw [if_neg (show ¬ nI 27 = (20 : Int32) from by decide)]
  rw [if_neg (show ¬ nI 27 = (21 : Int32) from by decide)]
  rw [if_neg (show ¬ nI 27 = (22 : Int32) from by decide)]
  rw [if_neg (show ¬ nI 27 = (23 : Int32) from by decide)]
  rw [if_neg (show ¬ nI 27 = (24 : Int32) from by decide)]
  rw [if_neg (show ¬ nI 27 = (25 : Int32) from by decide)]
  rw [if_neg (show ¬ nI 27 = (26 : Int32) from by decide)]
  rw [if_pos (show nI 27 = (27 : Int32) from rfl)]
  simp (disch := omega) only [pb_l2, pb_ll, nI_add, pb_mul, if_true, if_false, pb_bs, pb_b2n, hx, e1, e2]
theorem lb_28 {N L : Nat} {xs : Nat → Int32} {j : Nat} {h : ss_Hp} (hN : 150000 < N) (hL : L ≤ 3072) (hj : 6 * j + 6 ≤ L) (hi : inv_h h) (hv : xs (6 * j) &&& nI 31 = nI 28) : ∃ h', mm_law_b18 N L xs (some 0) (some 118) (nI (6 * j), h) = some (.inl (nI (6 * j + 6), h')) ∧ inv_h h' := by
  have hx : ∀ i, i < L → ss_xs L xs (nI i) = some (xs i) := fun i q => xs_at hL q
  have he : ¬ (Int32.ofNat L - (6 : Int32) < nI (6 * j)) := fun q => by have := (xs_end hL (by omega)).mp q; omega
  obtain ⟨r, h', h'', e1, e2, hi'⟩ := jo_go (oc := mm_S_storms N (some 0) (xs (6 * j + 1)) (xs (6 * j + 2)) (xs (6 * j + 3)) (xs (6 * j + 4)) h) (fm := mm_M_storms N (some 118) (xs (6 * j + 1)) (xs (6 * j + 2)) (xs (6 * j + 3)) (xs (6 * j + 4))) hi (fun T a fo x RS US I h2 hc hm ha hf => jx_storms hc hm ha (by omega))
  refine ⟨h'', ?_, hi'⟩
  replace hv : xs (6 * j) &&& (31 : Int32) = nI 28 := hv
  unfold mm_law_b18 mm_law_j1132
  show (if Int32.ofNat L - (6 : Int32) < nI (6 * j) then _ else _) = _
  rw [if_neg he, hx (6 * j) (by omega), pb_bs, pb_bs, hv]
  rw [if_neg (show ¬ nI 28 = (0 : Int32) from by decide)]
  rw [if_neg (show ¬ nI 28 = (1 : Int32) from by decide)]
  rw [if_neg (show ¬ nI 28 = (2 : Int32) from by decide)]
  rw [if_neg (show ¬ nI 28 = (3 : Int32) from by decide)]
  rw [if_neg (show ¬ nI 28 = (4 : Int32) from by decide)]
  rw [if_neg (show ¬ nI 28 = (5 : Int32) from by decide)]
  rw [if_neg (show ¬ nI 28 = (6 : Int32) from by decide)]
  rw [if_neg (show ¬ nI 28 = (7 : Int32) from by decide)]
  rw [if_neg (show ¬ nI 28 = (8 : Int32) from by decide)]
  rw [if_neg (show ¬ nI 28 = (9 : Int32) from by decide)]
  rw [if_neg (show ¬ nI 28 = (10 : Int32) from by decide)]
  rw [if_neg (show ¬ nI 28 = (11 : Int32) from by decide)]
  rw [if_neg (show ¬ nI 28 = (12 : Int32) from by decide)]
  rw [if_neg (show ¬ nI 28 = (13 : Int32) from by decide)]
  rw [if_neg (show ¬ nI 28 = (14 : Int32) from by decide)]
  rw [if_neg (show ¬ nI 28 = (15 : Int32) from by decide)]
  rw [if_neg (show ¬ nI 28 = (16 : Int32) from by decide)]
  rw [if_neg (show ¬ nI 28 = (17 : Int32) from by decide)]
  rw [if_neg (show ¬ nI 28 = (18 : Int32) from by decide)]
  rw [if_neg (show ¬ nI 28 = (19 : Int32) from by decide)]
  rw [if_neg (show ¬ nI 28 = (20 : Int32) from by decide)]
  rw [if_neg (show ¬ nI 28 = (21 : Int32) from by decide)]
  rw [if_neg (show ¬ nI 28 = (22 : Int32) from by decide)]
  rw [if_neg (show ¬ nI 28 = (23 : Int32) from by decide)]
  rw [if_neg (show ¬ nI 28 = (24 : Int32) from by decide)]
  rw [if_neg (show ¬ nI 28 = (25 : Int32) from by decide)]
  rw [if_neg (show ¬ nI 28 = (26 : Int32) from by decide)]
  rw [if_neg (show ¬ nI 28 = (27 : Int32) from by decide)]
  rw [if_pos (show nI 28 = (28 : Int32) from rfl)]
  simp (disch := omega) only [pb_l2, pb_ll, nI_add, pb_mul, if_true, if_false, pb_bs, pb_b2n, hx, e1, e2]
theorem lb_29 {N L : Nat} {xs : Nat → Int32} {j : Nat} {h : ss_Hp} (hN : 150000 < N) (hL : L ≤ 3072) (hj : 6 * j + 6 ≤ L) (hi : inv_h h) (hv : xs (6 * j) &&& nI 31 = nI 29) : ∃ h', mm_law_b18 N L xs (some 0) (some 118) (nI (6 * j), h) = some (.inl (nI (6 * j + 6), h')) ∧ inv_h h' := by
  have hx : ∀ i, i < L → ss_xs L xs (nI i) = some (xs i) := fun i q => xs_at hL q
  have he : ¬ (Int32.ofNat L - (6 : Int32) < nI (6 * j)) := fun q => by have := (xs_end hL (by omega)).mp q; omega
  obtain ⟨r, e1, e2⟩ := jr_go (oc := mm_S_count N (some 0) (xs (6 * j + 1)) h) (om := mm_M_count N (some 118) (xs (6 * j + 1)) h) hi (fun T a fo x RS US I hc hm ha => jx_count hc hm ha (by omega))
  refine ⟨h, ?_, hi⟩
  replace hv : xs (6 * j) &&& (31 : Int32) = nI 29 := hv
  unfold mm_law_b18 mm_law_j1132
  show (if Int32.ofNat L - (6 : Int32) < nI (6 * j) then _ else _) = _
  rw [if_neg he, hx (6 * j) (by omega), pb_bs, pb_bs, hv]
  rw [if_neg (show ¬ nI 29 = (0 : Int32) from by decide)]
  rw [if_neg (show ¬ nI 29 = (1 : Int32) from by decide)]
  rw [if_neg (show ¬ nI 29 = (2 : Int32) from by decide)]
  rw [if_neg (show ¬ nI 29 = (3 : Int32) from by decide)]
  rw [if_neg (show ¬ nI 29 = (4 : Int32) from by decide)]
  rw [if_neg (show ¬ nI 29 = (5 : Int32) from by decide)]
  rw [if_neg (show ¬ nI 29 = (6 : Int32) from by decide)]
  rw [if_neg (show ¬ nI 29 = (7 : Int32) from by decide)]
  rw [if_neg (show ¬ nI 29 = (8 : Int32) from by decide)]
  rw [if_neg (show ¬ nI 29 = (9 : Int32) from by decide)]
  rw [if_neg (show ¬ nI 29 = (10 : Int32) from by decide)]
  rw [if_neg (show ¬ nI 29 = (11 : Int32) from by decide)]
  rw [if_neg (show ¬ nI 29 = (12 : Int32) from by decide)]
  rw [if_neg (show ¬ nI 29 = (13 : Int32) from by decide)]
  rw [if_neg (show ¬ nI 29 = (14 : Int32) from by decide)]
  rw [if_neg (show ¬ nI 29 = (15 : Int32) from by decide)]
  rw [if_neg (show ¬ nI 29 = (16 : Int32) from by decide)]
  rw [if_neg (show ¬ nI 29 = (17 : Int32) from by decide)]
  rw [if_neg (show ¬ nI 29 = (18 : Int32) from by decide)]
  rw [if_neg (show ¬ nI 29 = (19 : Int32) from by decide)]
  rw [if_neg (show ¬ nI 29 = (20 : Int32) from by decide)]
  rw [if_neg (show ¬ nI 29 = (21 : Int32) from by decide)]
  rw [if_neg (show ¬ nI 29 = (22 : Int32) from by decide)]
  rw [if_neg (show ¬ nI 29 = (23 : Int32) from by decide)]
  rw [if_neg (show ¬ nI 29 = (24 : Int32) from by decide)]
  rw [if_neg (show ¬ nI 29 = (25 : Int32) from by decide)]
  rw [if_neg (show ¬ nI 29 = (26 : Int32) from by decide)]
  rw [if_neg (show ¬ nI 29 = (27 : Int32) from by decide)]
  rw [if_neg (show ¬ nI 29 = (28 : Int32) from by decide)]
  rw [if_pos (show nI 29 = (29 : Int32) from rfl)]
  simp (disch := omega) only [pb_l2, pb_ll, nI_add, pb_mul, if_true, if_false, pb_bs, pb_b2n, hx, e1, e2]
theorem lb_30 {N L : Nat} {xs : Nat → Int32} {j : Nat} {h : ss_Hp} (hN : 150000 < N) (hL : L ≤ 3072) (hj : 6 * j + 6 ≤ L) (hi : inv_h h) (hv : xs (6 * j) &&& nI 31 = nI 30) : ∃ h', mm_law_b18 N L xs (some 0) (some 118) (nI (6 * j), h) = some (.inl (nI (6 * j + 6), h')) ∧ inv_h h' := by
  have hx : ∀ i, i < L → ss_xs L xs (nI i) = some (xs i) := fun i q => xs_at hL q
  have he : ¬ (Int32.ofNat L - (6 : Int32) < nI (6 * j)) := fun q => by have := (xs_end hL (by omega)).mp q; omega
  obtain ⟨r, h', h'', e1, e2, hi'⟩ := jo_go (oc := mm_S_image N (some 0) (xs (6 * j + 1)) h) (fm := mm_M_image N (some 118) (xs (6 * j + 1))) hi (fun T a fo x RS US I h2 hc hm ha hf => jx_image hc hm ha (by omega) hf)
  refine ⟨h'', ?_, hi'⟩
  replace hv : xs (6 * j) &&& (31 : Int32) = nI 30 := hv
  unfold mm_law_b18 mm_law_j1132
  show (if Int32.ofNat L - (6 : Int32) < nI (6 * j) then _ else _) = _
  rw [if_neg he, hx (6 * j) (by omega), pb_bs, pb_bs, hv]
  rw [if_neg (show ¬ nI 30 = (0 : Int32) from by decide)]
  rw [if_neg (show ¬ nI 30 = (1 : Int32) from by decide)]
  rw [if_neg (show ¬ nI 30 = (2 : Int32) from by decide)]
  rw [if_neg (show ¬ nI 30 = (3 : Int32) from by decide)]
  rw [if_neg (show ¬ nI 30 = (4 : Int32) from by decide)]
  rw [if_neg (show ¬ nI 30 = (5 : Int32) from by decide)]
  rw [if_neg (show ¬ nI 30 = (6 : Int32) from by decide)]
  rw [if_neg (show ¬ nI 30 = (7 : Int32) from by decide)]
  rw [if_neg (show ¬ nI 30 = (8 : Int32) from by decide)]
  rw [if_neg (show ¬ nI 30 = (9 : Int32) from by decide)]
  rw [if_neg (show ¬ nI 30 = (10 : Int32) from by decide)]
  rw [if_neg (show ¬ nI 30 = (11 : Int32) from by decide)]
  rw [if_neg (show ¬ nI 30 = (12 : Int32) from by decide)]
  rw [if_neg (show ¬ nI 30 = (13 : Int32) from by decide)]
  rw [if_neg (show ¬ nI 30 = (14 : Int32) from by decide)]
  rw [if_neg (show ¬ nI 30 = (15 : Int32) from by decide)]
  rw [if_neg (show ¬ nI 30 = (16 : Int32) from by decide)]
  rw [if_neg (show ¬ nI 30 = (17 : Int32) from by decide)]
  rw [if_neg (show ¬ nI 30 = (18 : Int32) from by decide)]
  rw [if_neg (show ¬ nI 30 = (19 : Int32) from by decide)]
  rw [if_neg (show ¬ nI 30 = (20 : Int32) from by decide)]
  rw [if_neg (show ¬ nI 30 = (21 : Int32) from by decide)]
  rw [if_neg (show ¬ nI 30 = (22 : Int32) from by decide)]
  rw [if_neg (show ¬ nI 30 = (23 : Int32) from by decide)]
  rw [if_neg (show ¬ nI 30 = (24 : Int32) from by decide)]
  rw [if_neg (show ¬ nI 30 = (25 : Int32) from by decide)]
  rw [if_neg (show ¬ nI 30 = (26 : Int32) from by decide)]
  rw [if_neg (show ¬ nI 30 = (27 : Int32) from by decide)]
  rw [if_neg (show ¬ nI 30 = (28 : Int32) from by decide)]
  rw [if_neg (show ¬ nI 30 = (29 : Int32) from by decide)]
  rw [if_pos (show nI 30 = (30 : Int32) from rfl)]
  simp (disch := omega) only [pb_l2, pb_ll, nI_add, pb_mul, if_true, if_false, pb_bs, pb_b2n, hx, e1, e2]
theorem lb_31 {N L : Nat} {xs : Nat → Int32} {j : Nat} {h : ss_Hp} (hN : 150000 < N) (hL : L ≤ 3072) (hj : 6 * j + 6 ≤ L) (hi : inv_h h) (hv : xs (6 * j) &&& nI 31 = nI 31) : ∃ h', mm_law_b18 N L xs (some 0) (some 118) (nI (6 * j), h) = some (.inl (nI (6 * j + 6), h')) ∧ inv_h h' := by
  have hx : ∀ i, i < L → ss_xs L xs (nI i) = some (xs i) := fun i q => xs_at hL q
  have he : ¬ (Int32.ofNat L - (6 : Int32) < nI (6 * j)) := fun q => by have := (xs_end hL (by omega)).mp q; omega
  obtain ⟨r, h', h'', e1, e2, hi'⟩ := jo_go (oc := mm_S_back N (some 0) (xs (6 * j + 1)) h) (fm := mm_M_back N (some 118) (xs (6 * j + 1))) hi (fun T a fo x RS US I h2 hc hm ha hf => jx_back hc hm ha (by omega))
  refine ⟨h'', ?_, hi'⟩
  replace hv : xs (6 * j) &&& (31 : Int32) = nI 31 := hv
  unfold mm_law_b18 mm_law_j1132
  show (if Int32.ofNat L - (6 : Int32) < nI (6 * j) then _ else _) = _
  rw [if_neg he, hx (6 * j) (by omega), pb_bs, pb_bs, hv]
  rw [if_neg (show ¬ nI 31 = (0 : Int32) from by decide)]
  rw [if_neg (show ¬ nI 31 = (1 : Int32) from by decide)]
  rw [if_neg (show ¬ nI 31 = (2 : Int32) from by decide)]
  rw [if_neg (show ¬ nI 31 = (3 : Int32) from by decide)]
  rw [if_neg (show ¬ nI 31 = (4 : Int32) from by decide)]
  rw [if_neg (show ¬ nI 31 = (5 : Int32) from by decide)]
  rw [if_neg (show ¬ nI 31 = (6 : Int32) from by decide)]
  rw [if_neg (show ¬ nI 31 = (7 : Int32) from by decide)]
  rw [if_neg (show ¬ nI 31 = (8 : Int32) from by decide)]
  rw [if_neg (show ¬ nI 31 = (9 : Int32) from by decide)]
  rw [if_neg (show ¬ nI 31 = (10 : Int32) from by decide)]
  rw [if_neg (show ¬ nI 31 = (11 : Int32) from by decide)]
  rw [if_neg (show ¬ nI 31 = (12 : Int32) from by decide)]
  rw [if_neg (show ¬ nI 31 = (13 : Int32) from by decide)]
  rw [if_neg (show ¬ nI 31 = (14 : Int32) from by decide)]
  rw [if_neg (show ¬ nI 31 = (15 : Int32) from by decide)]
  rw [if_neg (show ¬ nI 31 = (16 : Int32) from by decide)]
  rw [if_neg (show ¬ nI 31 = (17 : Int32) from by decide)]
  rw [if_neg (show ¬ nI 31 = (18 : Int32) from by decide)]
  rw [if_neg (show ¬ nI 31 = (19 : Int32) from by decide)]
  rw [if_neg (show ¬ nI 31 = (20 : Int32) from by decide)]
  rw [if_neg (show ¬ nI 31 = (21 : Int32) from by decide)]
  rw [if_neg (show ¬ nI 31 = (22 : Int32) from by decide)]
  rw [if_neg (show ¬ nI 31 = (23 : Int32) from by decide)]
  rw [if_neg (show ¬ nI 31 = (24 : Int32) from by decide)]
  rw [if_neg (show ¬ nI 31 = (25 : Int32) from by decide)]
  rw [if_neg (show ¬ nI 31 = (26 : Int32) from by decide)]
  rw [if_neg (show ¬ nI 31 = (27 : Int32) from by decide)]
  rw [if_neg (show ¬ nI 31 = (28 : Int32) from by decide)]
  rw [if_neg (show ¬ nI 31 = (29 : Int32) from by decide)]
  rw [if_neg (show ¬ nI 31 = (30 : Int32) from by decide)]
  rw [if_pos (show nI 31 = (31 : Int32) from rfl)]
  simp (disch := omega) only [pb_l2, pb_ll, nI_add, pb_mul, if_true, if_false, pb_bs, pb_b2n, hx, e1, e2]
theorem lb_o {N L : Nat} {xs : Nat → Int32} {j : Nat} {h : ss_Hp} (hN : 150000 < N) (hL : L ≤ 3072) (hj : 6 * j + 6 ≤ L) (hi : inv_h h) (hv : ∀ t, t < 32 → xs (6 * j) &&& nI 31 ≠ nI t) : ∃ h', mm_law_b18 N L xs (some 0) (some 118) (nI (6 * j), h) = some (.inl (nI (6 * j + 6), h')) ∧ inv_h h' := by
  have hx : ∀ i, i < L → ss_xs L xs (nI i) = some (xs i) := fun i q => xs_at hL q
  have he : ¬ (Int32.ofNat L - (6 : Int32) < nI (6 * j)) := fun q => by have := (xs_end hL (by omega)).mp q; omega
  refine ⟨h, ?_, hi⟩
  unfold mm_law_b18 mm_law_j1132
  show (if Int32.ofNat L - (6 : Int32) < nI (6 * j) then _ else _) = _
  rw [if_neg he, hx (6 * j) (by omega), pb_bs, pb_bs]
  rw [if_neg (show ¬ xs (6 * j) &&& (31 : Int32) = (0 : Int32) from hv 0 (by omega))]
  rw [if_neg (show ¬ xs (6 * j) &&& (31 : Int32) = (1 : Int32) from hv 1 (by omega))]
  rw [if_neg (show ¬ xs (6 * j) &&& (31 : Int32) = (2 : Int32) from hv 2 (by omega))]
  rw [if_neg (show ¬ xs (6 * j) &&& (31 : Int32) = (3 : Int32) from hv 3 (by omega))]
  rw [if_neg (show ¬ xs (6 * j) &&& (31 : Int32) = (4 : Int32) from hv 4 (by omega))]
  rw [if_neg (show ¬ xs (6 * j) &&& (31 : Int32) = (5 : Int32) from hv 5 (by omega))]
  rw [if_neg (show ¬ xs (6 * j) &&& (31 : Int32) = (6 : Int32) from hv 6 (by omega))]
  rw [if_neg (show ¬ xs (6 * j) &&& (31 : Int32) = (7 : Int32) from hv 7 (by omega))]
  rw [if_neg (show ¬ xs (6 * j) &&& (31 : Int32) = (8 : Int32) from hv 8 (by omega))]
  rw [if_neg (show ¬ xs (6 * j) &&& (31 : Int32) = (9 : Int32) from hv 9 (by omega))]
  rw [if_neg (show ¬ xs (6 * j) &&& (31 : Int32) = (10 : Int32) from hv 10 (by omega))]
  rw [if_neg (show ¬ xs (6 * j) &&& (31 : Int32) = (11 : Int32) from hv 11 (by omega))]
  rw [if_neg (show ¬ xs (6 * j) &&& (31 : Int32) = (12 : Int32) from hv 12 (by omega))]
  rw [if_neg (show ¬ xs (6 * j) &&& (31 : Int32) = (13 : Int32) from hv 13 (by omega))]
  rw [if_neg (show ¬ xs (6 * j) &&& (31 : Int32) = (14 : Int32) from hv 14 (by omega))]
  rw [if_neg (show ¬ xs (6 * j) &&& (31 : Int32) = (15 : Int32) from hv 15 (by omega))]
  rw [if_neg (show ¬ xs (6 * j) &&& (31 : Int32) = (16 : Int32) from hv 16 (by omega))]
  rw [if_neg (show ¬ xs (6 * j) &&& (31 : Int32) = (17 : Int32) from hv 17 (by omega))]
  rw [if_neg (show ¬ xs (6 * j) &&& (31 : Int32) = (18 : Int32) from hv 18 (by omega))]
  rw [if_neg (show ¬ xs (6 * j) &&& (31 : Int32) = (19 : Int32) from hv 19 (by omega))]
  rw [if_neg (show ¬ xs (6 * j) &&& (31 : Int32) = (20 : Int32) from hv 20 (by omega))]
  rw [if_neg (show ¬ xs (6 * j) &&& (31 : Int32) = (21 : Int32) from hv 21 (by omega))]
  rw [if_neg (show ¬ xs (6 * j) &&& (31 : Int32) = (22 : Int32) from hv 22 (by omega))]
  rw [if_neg (show ¬ xs (6 * j) &&& (31 : Int32) = (23 : Int32) from hv 23 (by omega))]
  rw [if_neg (show ¬ xs (6 * j) &&& (31 : Int32) = (24 : Int32) from hv 24 (by omega))]
  rw [if_neg (show ¬ xs (6 * j) &&& (31 : Int32) = (25 : Int32) from hv 25 (by omega))]
  rw [if_neg (show ¬ xs (6 * j) &&& (31 : Int32) = (26 : Int32) from hv 26 (by omega))]
  rw [if_neg (show ¬ xs (6 * j) &&& (31 : Int32) = (27 : Int32) from hv 27 (by omega))]
  rw [if_neg (show ¬ xs (6 * j) &&& (31 : Int32) = (28 : Int32) from hv 28 (by omega))]
  rw [if_neg (show ¬ xs (6 * j) &&& (31 : Int32) = (29 : Int32) from hv 29 (by omega))]
  rw [if_neg (show ¬ xs (6 * j) &&& (31 : Int32) = (30 : Int32) from hv 30 (by omega))]
  rw [if_neg (show ¬ xs (6 * j) &&& (31 : Int32) = (31 : Int32) from hv 31 (by omega))]
  simp only [pb_l2, pb_ll, nI_add, pb_mul, if_true, if_false, pb_bs, pb_b2n]
theorem lb_all {N L : Nat} {xs : Nat → Int32} {j : Nat} {h : ss_Hp} (hN : 150000 < N) (hL : L ≤ 3072) (hj : 6 * j + 6 ≤ L) (hi : inv_h h) : ∃ h', mm_law_b18 N L xs (some 0) (some 118) (nI (6 * j), h) = some (.inl (nI (6 * j + 6), h')) ∧ inv_h h' := by
  by_cases c0 : xs (6 * j) &&& nI 31 = nI 0
  · exact lb_0 hN hL hj hi c0
  by_cases c1 : xs (6 * j) &&& nI 31 = nI 1
  · exact lb_1 hN hL hj hi c1
  by_cases c2 : xs (6 * j) &&& nI 31 = nI 2
  · exact lb_2 hN hL hj hi c2
  by_cases c3 : xs (6 * j) &&& nI 31 = nI 3
  · exact lb_3 hN hL hj hi c3
  by_cases c4 : xs (6 * j) &&& nI 31 = nI 4
  · exact lb_4 hN hL hj hi c4
  by_cases c5 : xs (6 * j) &&& nI 31 = nI 5
  · exact lb_5 hN hL hj hi c5
  by_cases c6 : xs (6 * j) &&& nI 31 = nI 6
  · exact lb_6 hN hL hj hi c6
  by_cases c7 : xs (6 * j) &&& nI 31 = nI 7
  · exact lb_7 hN hL hj hi c7
  by_cases c8 : xs (6 * j) &&& nI 31 = nI 8
  · exact lb_8 hN hL hj hi c8
  by_cases c9 : xs (6 * j) &&& nI 31 = nI 9
  · exact lb_9 hN hL hj hi c9
  by_cases c10 : xs (6 * j) &&& nI 31 = nI 10
  · exact lb_10 hN hL hj hi c10
  by_cases c11 : xs (6 * j) &&& nI 31 = nI 11
  · exact lb_11 hN hL hj hi c11
  by_cases c12 : xs (6 * j) &&& nI 31 = nI 12
  · exact lb_12 hN hL hj hi c12
  by_cases c13 : xs (6 * j) &&& nI 31 = nI 13
  · exact lb_13 hN hL hj hi c13
  by_cases c14 : xs (6 * j) &&& nI 31 = nI 14
  · exact lb_14 hN hL hj hi c14
  by_cases c15 : xs (6 * j) &&& nI 31 = nI 15
  · exact lb_15 hN hL hj hi c15
  by_cases c16 : xs (6 * j) &&& nI 31 = nI 16
  · exact lb_16 hN hL hj hi c16
  by_cases c17 : xs (6 * j) &&& nI 31 = nI 17
  · exact lb_17 hN hL hj hi c17
  by_cases c18 : xs (6 * j) &&& nI 31 = nI 18
  · exact lb_18 hN hL hj hi c18
  by_cases c19 : xs (6 * j) &&& nI 31 = nI 19
  · exact lb_19 hN hL hj hi c19
  by_cases c20 : xs (6 * j) &&& nI 31 = nI 20
  · exact lb_20 hN hL hj hi c20
  by_cases c21 : xs (6 * j) &&& nI 31 = nI 21
  · exact lb_21 hN hL hj hi c21
  by_cases c22 : xs (6 * j) &&& nI 31 = nI 22
  · exact lb_22 hN hL hj hi c22
  by_cases c23 : xs (6 * j) &&& nI 31 = nI 23
  · exact lb_23 hN hL hj hi c23
  by_cases c24 : xs (6 * j) &&& nI 31 = nI 24
  · exact lb_24 hN hL hj hi c24
  by_cases c25 : xs (6 * j) &&& nI 31 = nI 25
  · exact lb_25 hN hL hj hi c25
  by_cases c26 : xs (6 * j) &&& nI 31 = nI 26
  · exact lb_26 hN hL hj hi c26
  by_cases c27 : xs (6 * j) &&& nI 31 = nI 27
  · exact lb_27 hN hL hj hi c27
  by_cases c28 : xs (6 * j) &&& nI 31 = nI 28
  · exact lb_28 hN hL hj hi c28
  by_cases c29 : xs (6 * j) &&& nI 31 = nI 29
  · exact lb_29 hN hL hj hi c29
  by_cases c30 : xs (6 * j) &&& nI 31 = nI 30
  · exact lb_30 hN hL hj hi c30
  by_cases c31 : xs (6 * j) &&& nI 31 = nI 31
  · exact lb_31 hN hL hj hi c31
  refine lb_o hN hL hj hi (fun t ht => ?_)
  match t, ht with
  | 0, _ => exact c0
  | 1, _ => exact c1
  | 2, _ => exact c2
  | 3, _ => exact c3
  | 4, _ => exact c4
  | 5, _ => exact c5
  | 6, _ => exact c6
  | 7, _ => exact c7
  | 8, _ => exact c8
  | 9, _ => exact c9
  | 10, _ => exact c10
  | 11, _ => exact c11
  | 12, _ => exact c12
  | 13, _ => exact c13
  | 14, _ => exact c14
  | 15, _ => exact c15
  | 16, _ => exact c16
  | 17, _ => exact c17
  | 18, _ => exact c18
  | 19, _ => exact c19
  | 20, _ => exact c20
  | 21, _ => exact c21
  | 22, _ => exact c22
  | 23, _ => exact c23
  | 24, _ => exact c24
  | 25, _ => exact c25
  | 26, _ => exact c26
  | 27, _ => exact c27
  | 28, _ => exact c28
  | 29, _ => exact c29
  | 30, _ => exact c30
  | 31, _ => exact c31
  | n + 32, ht => exact absurd ht (by omega)
theorem pp_law (L : Nat) (xs : Nat → Int32) (hL : L ≤ 3072) : ∃ (N : Nat) (hh : ss_Hp), mm_law N L xs ss_h0 = some hh := by
  obtain ⟨N, h, hN, e0, e1, c, m, a, f⟩ := in_ok
  have hi : inv_h h := ⟨_, _, _, _, _, _, _, c, m, a, f⟩
  have key := pb_for (body := mm_law_b18 N L xs (some 0) (some 118)) (L / 6) (fun j s => ∃ h, s = (nI (6 * j), h) ∧ inv_h h) (fun _ => True) (N := N) (s := (nI 0, h)) (by omega) ⟨h, rfl, hi⟩ (fun j s hj hs => ?_) (fun s hs => ?_)
  · obtain ⟨hh, e, -⟩ := key
    refine ⟨N, hh, ?_⟩
    unfold mm_law
    unfold in_h at e1
    unfold in_r at e0
    obtain ⟨r1, h2, q1, e1⟩ := ss_bind2 e1
    obtain ⟨h3, q2, e1⟩ := ss_bind e1
    obtain ⟨r4, h5, q3, e1⟩ := ss_bind2 e1
    obtain ⟨h6, q4, e1⟩ := ss_bind e1
    cases Option.some.inj e1
    have w1 : r1 = some 0 := by
      have : ss_no ss_h0 11 1 0 10 = some (some 0, (ss_no ss_h0 11 1 0 10).get!.2) := rfl
      rw [q1] at this
      exact congrArg Prod.fst (Option.some.inj this)
    rw [q1, pb_b2n, q2, pb_bs] at e0
    have e0 := Option.some.inj e0
    have w4 : r4 = some 118 := by
      rw [← e0]
      unfold ss_no at q3
      exact (congrArg Prod.fst (Option.some.inj q3)).symm
    subst w1
    subst w4
    rw [q1, pb_b2n, q2, pb_bs, q3, pb_b2n, q4, pb_bs]
    show (ss_lp (mm_law_b18 N L xs (some 0) (some 118)) N (nI 0, h)).bind _ = _
    rw [e]
    rfl
  · obtain ⟨h, rfl, hi⟩ := hs
    obtain ⟨h', e, hi'⟩ := lb_all (xs := xs) hN hL (show 6 * j + 6 ≤ L by omega) hi
    exact Or.inl ⟨_, e, h', by rw [Nat.mul_add], hi'⟩
  · obtain ⟨h, rfl, hi⟩ := hs
    refine ⟨h, ?_, trivial⟩
    unfold mm_law_b18
    have he : (Int32.ofNat L - nI 6 < nI (6 * (L / 6))) = True := eq_true ((xs_end hL (by omega)).mpr (by omega))
    simp only [pb_l2, he, if_true]
