/-! ===== notes held against the rules ===== -/
def nD' (a : List Int32) (i : Nat) : Nat := (pv a (93 + 3 * i)).toNatClampNeg
def nS' (a : List Int32) (i : Nat) : Nat := (pv a (94 + 3 * i)).toNatClampNeg
def nOK (a : List Int32) (Q t : Nat) (b : List Int32) : Prop := ∀ i, i < Q → pv a (93 + 3 * i) = nI t → pv b (14 + nS' a i) = pv a (95 + 3 * i)
def nR (a : List Int32) (k Q : Nat) : Prop := Q ≤ 10 ∧ pv a 123 = nI Q ∧ ∀ i, i < Q → (nD' a i ≤ 60 ∧ pv a (93 + 3 * i) = nI (nD' a i)) ∧ nS' a i < k ∧ pv a (94 + 3 * i) = nI (nS' a i)
theorem nR_of {a : List Int32} {k m d : Nat} (h : sd_ok a k m d) : ∃ Q, nR a k Q := by
  obtain ⟨Q, q1, q2, q3⟩ := h.2.2.2.2.2.2.1
  have hk := h.1.2.1.1
  refine ⟨Q, q1, q2, fun i hi => ?_⟩
  obtain ⟨⟨t, t1, t2⟩, s, s1, s2⟩ := q3 i hi
  have e1 : nD' a i = t := by unfold nD'; rw [t2, nI_clamp (by omega)]
  have e2 : nS' a i = s := by unfold nS'; rw [s2, nI_clamp (by omega)]
  rw [e1, e2]
  exact ⟨⟨t1, t2⟩, s1, s2⟩
theorem sa_R_first {a : List Int32} {k m d : Nat} (h : sd_ok a k m d) (ht : ¬ pv a 0 ≤ nI 0) : sa_R (sa_first a) k m 0 := by
  obtain ⟨⟨g1, ⟨g2, g3⟩, ⟨g4, g5⟩, ⟨g6, g7⟩, g8, g9, g10⟩, h2, h3, h4, h5, h6, h7, ⟨h8, h8'⟩, h9, h10⟩ := h
  have hp := fun j => sa_first_pv (a := a) (j := j) g1
  have e : ∀ j, j < 10 ∨ 30 ≤ j → pv (sa_first a) j = pv a j := fun j hj => by rw [hp, if_pos hj]
  refine ⟨⟨sa_first_len g1, ⟨g2, by rw [e _ (by omega)]; exact g3⟩, ⟨g4, by rw [e _ (by omega)]; exact g5⟩, ⟨by omega, by rw [hp, if_neg (by omega), if_pos (by omega)]⟩, fun s hs => ?_, fun s hs => by rw [e _ (by omega)]; exact g9 s hs, fun i hi => by rw [e _ (by omega)]; exact g10 i hi⟩, fun s hs => ?_, fun i hi => by rw [e _ (by omega)]; exact h3 i hi, ?_, ?_, 0, by omega, by rw [hp, if_neg (by omega), if_pos (by omega)]⟩
  · rw [hp, if_neg (by omega), if_neg (by omega), show 22 + s + 32 = 54 + s by omega]
    rcases h8' s hs with q | q
    · left
      rw [q]
      exact pb_m1
    · exact Or.inr q
  · rw [hp, if_neg (by omega), if_neg (by omega), show 14 + s + 32 = 46 + s by omega]
    obtain ⟨q, q1, q2, q3⟩ := h8 s hs
    exact ⟨q, by omega, q2, q3⟩
  · rw [e _ (by omega)]
    rcases h10 with ⟨q, -⟩ | ⟨q, -, -⟩
    · exact q
    · rw [q] at ht
      exact absurd (Int32.le_refl _) ht
  · rw [e _ (by omega)]
    rcases h10 with ⟨-, q⟩ | ⟨q, -, -⟩
    · exact q
    · rw [q] at ht
      exact absurd (Int32.le_refl _) ht
theorem cb_notes {h0 h : ss_Hp} {T : List Nat} {a : List Int32} {fo x : Int32} {RS : List (List ru_C)} {US : List (List Int32)} {I : Nat → Option (List Int32 × Int32 × Int32)} {Z : Nat → List Int32} {k Q i : Nat} (hc : cb_h h0 h T a fo x RS US I Z) (hn : nR a k Q) (hi : i < Q) : ss_ai h (some 36) 20 (nI i) = some (pv a (93 + 3 * i)) ∧ ss_ai h (some 37) 20 (nI i) = some (pv a (94 + 3 * i)) ∧ ss_ai h (some 38) 20 (nI i) = some (pv a (95 + 3 * i)) := by
  obtain ⟨n, g, rc, ti, tb, vt, ri, cd, sx, rl, wi, wv, gi, gs, gw, nd, ns, nw, il, ai, yv, yr, yi, ys, yw, yt, yh, yf, yo, yk, fr, fg, pl, pc, pg, rfl, F, hg, z⟩ := hc
  obtain ⟨Fn, Frc, ⟨Ft1, Ft2, Ft3, Ft4⟩, Fr, Fl, ⟨Fw, ⟨v, Fv, Fq⟩, Fg, Fs, Fwl, Fno⟩, Fi, ⟨nx, Fa, Fu⟩, Fy, Ff⟩ := F
  obtain ⟨N1, N2, N3, N4⟩ := Fno
  obtain ⟨n1, n2, n3⟩ := hn
  obtain ⟨e1, e2, e3⟩ := N4 Q n1 n2 i hi
  exact ⟨by rw [pk_a36 (by omega) (by omega), e1], by rw [pk_a37 (by omega) (by omega), e2], by rw [pk_a38 (by omega) (by omega), e3]⟩
def lmN (a : List Int32) (n : Nat) : Nat → Nat
  | 0 => n
  | i + 1 => max (lmN a n i) (nD' a i)
theorem lmN_s {a : List Int32} {k Q n : Nat} (h : nR a k Q) (hn : n ≤ 60) : ∀ i, i ≤ Q → n ≤ lmN a n i ∧ lmN a n i ≤ 60 ∧ ∀ j, j < i → nD' a j ≤ lmN a n i := by
  intro i
  induction i with
  | zero => intro _; exact ⟨Nat.le_refl _, hn, fun j hj => by omega⟩
  | succ i ih =>
    intro hi
    obtain ⟨g1, g2, g3⟩ := ih (by omega)
    have := (h.2.2 i (by omega)).1.1
    rw [lmN]
    refine ⟨by omega, by omega, fun j hj => ?_⟩
    by_cases e : j = i
    · rw [e]; omega
    · have := g3 j (by omega); omega
theorem cb_lastNoted {N : Nat} {h0 h : ss_Hp} {T : List Nat} {a : List Int32} {fo x : Int32} {RS : List (List ru_C)} {US : List (List Int32)} {I : Nat → Option (List Int32 × Int32 × Int32)} {Z : Nat → List Int32} {k Q n : Nat} (hc : cb_h h0 h T a fo x RS US I Z) (hq : nR a k Q) (hn : n ≤ 60) (hN : 5000 < N) : mm_F_lastNoted N (some 111) (nI n) h = some (nI (lmN a n Q)) := by
  obtain ⟨v, ⟨⟨bV, bI, bT, bF, bD, bS, bH⟩, ⟨bR0, bR1, bR2, bR3, bR4⟩, ⟨bFo, bX, bNo⟩, ⟨bG0, bG1, bG2, bG3⟩, bOwn, bStr, bBes, bSn, bWl, bNd, bCl⟩⟩ := cb_r hc
  rw [hq.2.1] at bNo
  have hQ := hq.1
  have hk := cb_ck hc
  have l : ss_lp (mm_F_lastNoted_b4 N (some 111) h) N (nI n, nI 0) = some (nI (lmN a n Q)) := by
    refine pb_lp (fun i => (nI (lmN a n i), nI i)) Q (by omega) (fun i hi => ?_) ?_
    · have hlt : ¬ nI Q ≤ nI i := nI_ge hi (by omega)
      obtain ⟨e1, -, -⟩ := cb_notes hc hq hi
      obtain ⟨g1, g2, g3⟩ := lmN_s hq hn i (by omega)
      have t := (hq.2.2 i hi).1
      rw [t.2] at e1
      unfold mm_F_lastNoted_b4
      rw [lmN]
      by_cases c : lmN a n i < nD' a i
      · have c' : nI (lmN a n i) < nI (nD' a i) := nI_lt c (by omega)
        rw [show max (lmN a n i) (nD' a i) = nD' a i by omega]
        simp (disch := omega) only [pb_its, pb_l2, pb_ll, nI_add, pb_mul, if_true, if_false, pb_bs, pb_b2n, pb_bz0, pb_bz1, pb_10, pb_01, pb_i31, ck_is0 hk, ck_r0_0 hk, ck_r0_1 hk, ck_r0_2 hk, ck_r0_3 hk, ck_r0_4 hk, ck_r0_5 hk, ck_r0_6 hk, ck_r0_7 hk, ck_r0_8 hk, ck_r0_9 hk, ck_is1 hk, ck_r1_0 hk, ck_is3 hk, ck_r3_0 hk, ck_r3_1 hk, ck_is20 hk, ck_r20_0 hk, ck_r20_1 hk, ck_r20_2 hk, ck_is24 hk, ck_r24_1 hk, ck_r24_2 hk, ck_r24_3 hk, ck_r24_4 hk, ck_is33 hk, ck_r33_0 hk, ck_r33_1 hk, ck_is40 hk, ck_r40_0 hk, ck_is102 hk, ck_r102_0 hk, ck_r102_1 hk, ck_r102_2 hk, ck_r102_3 hk, ck_r102_4 hk, ck_r102_5 hk, ck_is103 hk, ck_r103_0 hk, ck_r103_1 hk, ck_is111 hk, ck_r111_0 hk, ck_r111_1 hk, ck_r111_2 hk, ck_r111_3 hk, ck_r111_4 hk, ck_is114 hk, ck_r114_0 hk, ck_r114_1 hk, ck_r114_2 hk, ck_r114_3 hk, ck_r114_4 hk, bV, bI, bT, bF, bD, bS, bH, bR0, bR1, bR2, bR3, bR4, bFo, bX, bNo, bG0, bG1, bG2, bG3, hlt, e1, c']
      · have c' : ¬ nI (lmN a n i) < nI (nD' a i) := nI_nlt (by omega) (by omega)
        rw [show max (lmN a n i) (nD' a i) = lmN a n i by omega]
        simp (disch := omega) only [pb_its, pb_l2, pb_ll, nI_add, pb_mul, if_true, if_false, pb_bs, pb_b2n, pb_bz0, pb_bz1, pb_10, pb_01, pb_i31, ck_is0 hk, ck_r0_0 hk, ck_r0_1 hk, ck_r0_2 hk, ck_r0_3 hk, ck_r0_4 hk, ck_r0_5 hk, ck_r0_6 hk, ck_r0_7 hk, ck_r0_8 hk, ck_r0_9 hk, ck_is1 hk, ck_r1_0 hk, ck_is3 hk, ck_r3_0 hk, ck_r3_1 hk, ck_is20 hk, ck_r20_0 hk, ck_r20_1 hk, ck_r20_2 hk, ck_is24 hk, ck_r24_1 hk, ck_r24_2 hk, ck_r24_3 hk, ck_r24_4 hk, ck_is33 hk, ck_r33_0 hk, ck_r33_1 hk, ck_is40 hk, ck_r40_0 hk, ck_is102 hk, ck_r102_0 hk, ck_r102_1 hk, ck_r102_2 hk, ck_r102_3 hk, ck_r102_4 hk, ck_r102_5 hk, ck_is103 hk, ck_r103_0 hk, ck_r103_1 hk, ck_is111 hk, ck_r111_0 hk, ck_r111_1 hk, ck_r111_2 hk, ck_r111_3 hk, ck_r111_4 hk, ck_is114 hk, ck_r114_0 hk, ck_r114_1 hk, ck_r114_2 hk, ck_r114_3 hk, ck_r114_4 hk, bV, bI, bT, bF, bD, bS, bH, bR0, bR1, bR2, bR3, bR4, bFo, bX, bNo, bG0, bG1, bG2, bG3, hlt, e1, c']
    · unfold mm_F_lastNoted_b4
      simp (disch := omega) only [pb_its, pb_l2, pb_ll, nI_add, pb_mul, if_true, if_false, pb_bs, pb_b2n, pb_bz0, pb_bz1, pb_10, pb_01, pb_i31, ck_is0 hk, ck_r0_0 hk, ck_r0_1 hk, ck_r0_2 hk, ck_r0_3 hk, ck_r0_4 hk, ck_r0_5 hk, ck_r0_6 hk, ck_r0_7 hk, ck_r0_8 hk, ck_r0_9 hk, ck_is1 hk, ck_r1_0 hk, ck_is3 hk, ck_r3_0 hk, ck_r3_1 hk, ck_is20 hk, ck_r20_0 hk, ck_r20_1 hk, ck_r20_2 hk, ck_is24 hk, ck_r24_1 hk, ck_r24_2 hk, ck_r24_3 hk, ck_r24_4 hk, ck_is33 hk, ck_r33_0 hk, ck_r33_1 hk, ck_is40 hk, ck_r40_0 hk, ck_is102 hk, ck_r102_0 hk, ck_r102_1 hk, ck_r102_2 hk, ck_r102_3 hk, ck_r102_4 hk, ck_r102_5 hk, ck_is103 hk, ck_r103_0 hk, ck_r103_1 hk, ck_is111 hk, ck_r111_0 hk, ck_r111_1 hk, ck_r111_2 hk, ck_r111_3 hk, ck_r111_4 hk, ck_is114 hk, ck_r114_0 hk, ck_r114_1 hk, ck_r114_2 hk, ck_r114_3 hk, ck_r114_4 hk, bV, bI, bT, bF, bD, bS, bH, bR0, bR1, bR2, bR3, bR4, bFo, bX, bNo, bG0, bG1, bG2, bG3, nI_le (Nat.le_refl Q) (by omega : Q < 2 ^ 31)]
  unfold mm_F_lastNoted
  simp (disch := omega) only [pb_its, pb_l2, pb_ll, nI_add, pb_mul, if_true, if_false, pb_bs, pb_b2n, pb_bz0, pb_bz1, pb_10, pb_01, pb_i31, ck_is0 hk, ck_r0_0 hk, ck_r0_1 hk, ck_r0_2 hk, ck_r0_3 hk, ck_r0_4 hk, ck_r0_5 hk, ck_r0_6 hk, ck_r0_7 hk, ck_r0_8 hk, ck_r0_9 hk, ck_is1 hk, ck_r1_0 hk, ck_is3 hk, ck_r3_0 hk, ck_r3_1 hk, ck_is20 hk, ck_r20_0 hk, ck_r20_1 hk, ck_r20_2 hk, ck_is24 hk, ck_r24_1 hk, ck_r24_2 hk, ck_r24_3 hk, ck_r24_4 hk, ck_is33 hk, ck_r33_0 hk, ck_r33_1 hk, ck_is40 hk, ck_r40_0 hk, ck_is102 hk, ck_r102_0 hk, ck_r102_1 hk, ck_r102_2 hk, ck_r102_3 hk, ck_r102_4 hk, ck_r102_5 hk, ck_is103 hk, ck_r103_0 hk, ck_r103_1 hk, ck_is111 hk, ck_r111_0 hk, ck_r111_1 hk, ck_r111_2 hk, ck_r111_3 hk, ck_r111_4 hk, ck_is114 hk, ck_r114_0 hk, ck_r114_1 hk, ck_r114_2 hk, ck_r114_3 hk, ck_r114_4 hk, l]
theorem cw_noted {N : Nat} {h0 h : ss_Hp} {T : List Nat} {a : List Int32} {fo x : Int32} {RS : List (List ru_C)} {US : List (List Int32)} {I : Nat → Option (List Int32 × Int32 × Int32)} {Z : Nat → List Int32} {ro : Option (List ru_C)} {b : List Int32} {bu : Int32} {th fa : List Int32} {k Q t : Nat} (hc : cw_h h0 h T a fo x RS US I Z ro b bu th fa) (hq : nR a k Q) (hk8 : k ≤ 8) (ht : t ≤ 1000) (hN : 5000 < N) : mm_F_isAsNoted N (some 111) (nI t) h = some (pI (nOK a Q t b) (nI 1) (nI 0)) := by
  obtain ⟨v, ⟨⟨bV, bI, bT, bF, bD, bS, bH⟩, ⟨bR0, bR1, bR2, bR3, bR4⟩, ⟨bFo, bX, bNo⟩, ⟨bG0, bG1, bG2, bG3⟩, bOwn, bStr, bBes, bSn, bWl, bNd, bCl⟩⟩ := cb_r (cw_cb hc)
  rw [hq.2.1] at bNo
  have hQ := hq.1
  have hk := cw_ck hc
  have step : ∀ i, i < Q → mm_F_isAsNoted_b2 N (some 111) (nI t) h (nI i) = some (pI (pv a (93 + 3 * i) = nI t ∧ ¬ pv b (14 + nS' a i) = pv a (95 + 3 * i)) (.inr (.inr ())) (.inl (nI (i + 1)))) := by
    intro i hi
    have hlt : ¬ nI Q ≤ nI i := nI_ge hi (by omega)
    obtain ⟨e1, e2, e3⟩ := cb_notes (cw_cb hc) hq hi
    obtain ⟨s1, s2⟩ := (hq.2.2 i hi).2
    rw [s2] at e2
    have sn := cw_snow hc (show nS' a i < 8 by omega)
    unfold mm_F_isAsNoted_b2 mm_F_isAsNoted_j60
    by_cases c1 : pv a (93 + 3 * i) = nI t
    · by_cases c2 : pv b (14 + nS' a i) = pv a (95 + 3 * i)
      · rw [pI_f (fun q => q.2 c2)]
        simp (disch := omega) only [pb_its, pb_l2, pb_ll, nI_add, pb_mul, if_true, if_false, pb_bs, pb_b2n, pb_bz0, pb_bz1, pb_10, pb_01, pb_i31, ck_is0 hk, ck_r0_0 hk, ck_r0_1 hk, ck_r0_2 hk, ck_r0_3 hk, ck_r0_4 hk, ck_r0_5 hk, ck_r0_6 hk, ck_r0_7 hk, ck_r0_8 hk, ck_r0_9 hk, ck_is1 hk, ck_r1_0 hk, ck_is3 hk, ck_r3_0 hk, ck_r3_1 hk, ck_is20 hk, ck_r20_0 hk, ck_r20_1 hk, ck_r20_2 hk, ck_is24 hk, ck_r24_1 hk, ck_r24_2 hk, ck_r24_3 hk, ck_r24_4 hk, ck_is33 hk, ck_r33_0 hk, ck_r33_1 hk, ck_is40 hk, ck_r40_0 hk, ck_is102 hk, ck_r102_0 hk, ck_r102_1 hk, ck_r102_2 hk, ck_r102_3 hk, ck_r102_4 hk, ck_r102_5 hk, ck_is103 hk, ck_r103_0 hk, ck_r103_1 hk, ck_is111 hk, ck_r111_0 hk, ck_r111_1 hk, ck_r111_2 hk, ck_r111_3 hk, ck_r111_4 hk, ck_is114 hk, ck_r114_0 hk, ck_r114_1 hk, ck_r114_2 hk, ck_r114_3 hk, ck_r114_4 hk, bV, bI, bT, bF, bD, bS, bH, bR0, bR1, bR2, bR3, bR4, bFo, bX, bNo, bG0, bG1, bG2, bG3, hlt, e1, c1, e2, sn, e3, c2]
      · rw [pI_t ⟨c1, c2⟩]
        simp (disch := omega) only [pb_its, pb_l2, pb_ll, nI_add, pb_mul, if_true, if_false, pb_bs, pb_b2n, pb_bz0, pb_bz1, pb_10, pb_01, pb_i31, ck_is0 hk, ck_r0_0 hk, ck_r0_1 hk, ck_r0_2 hk, ck_r0_3 hk, ck_r0_4 hk, ck_r0_5 hk, ck_r0_6 hk, ck_r0_7 hk, ck_r0_8 hk, ck_r0_9 hk, ck_is1 hk, ck_r1_0 hk, ck_is3 hk, ck_r3_0 hk, ck_r3_1 hk, ck_is20 hk, ck_r20_0 hk, ck_r20_1 hk, ck_r20_2 hk, ck_is24 hk, ck_r24_1 hk, ck_r24_2 hk, ck_r24_3 hk, ck_r24_4 hk, ck_is33 hk, ck_r33_0 hk, ck_r33_1 hk, ck_is40 hk, ck_r40_0 hk, ck_is102 hk, ck_r102_0 hk, ck_r102_1 hk, ck_r102_2 hk, ck_r102_3 hk, ck_r102_4 hk, ck_r102_5 hk, ck_is103 hk, ck_r103_0 hk, ck_r103_1 hk, ck_is111 hk, ck_r111_0 hk, ck_r111_1 hk, ck_r111_2 hk, ck_r111_3 hk, ck_r111_4 hk, ck_is114 hk, ck_r114_0 hk, ck_r114_1 hk, ck_r114_2 hk, ck_r114_3 hk, ck_r114_4 hk, bV, bI, bT, bF, bD, bS, bH, bR0, bR1, bR2, bR3, bR4, bFo, bX, bNo, bG0, bG1, bG2, bG3, hlt, e1, c1, e2, sn, e3, c2]
    · rw [pI_f (fun q => c1 q.1)]
      simp (disch := omega) only [pb_its, pb_l2, pb_ll, nI_add, pb_mul, if_true, if_false, pb_bs, pb_b2n, pb_bz0, pb_bz1, pb_10, pb_01, pb_i31, ck_is0 hk, ck_r0_0 hk, ck_r0_1 hk, ck_r0_2 hk, ck_r0_3 hk, ck_r0_4 hk, ck_r0_5 hk, ck_r0_6 hk, ck_r0_7 hk, ck_r0_8 hk, ck_r0_9 hk, ck_is1 hk, ck_r1_0 hk, ck_is3 hk, ck_r3_0 hk, ck_r3_1 hk, ck_is20 hk, ck_r20_0 hk, ck_r20_1 hk, ck_r20_2 hk, ck_is24 hk, ck_r24_1 hk, ck_r24_2 hk, ck_r24_3 hk, ck_r24_4 hk, ck_is33 hk, ck_r33_0 hk, ck_r33_1 hk, ck_is40 hk, ck_r40_0 hk, ck_is102 hk, ck_r102_0 hk, ck_r102_1 hk, ck_r102_2 hk, ck_r102_3 hk, ck_r102_4 hk, ck_r102_5 hk, ck_is103 hk, ck_r103_0 hk, ck_r103_1 hk, ck_is111 hk, ck_r111_0 hk, ck_r111_1 hk, ck_r111_2 hk, ck_r111_3 hk, ck_r111_4 hk, ck_is114 hk, ck_r114_0 hk, ck_r114_1 hk, ck_r114_2 hk, ck_r114_3 hk, ck_r114_4 hk, bV, bI, bT, bF, bD, bS, bH, bR0, bR1, bR2, bR3, bR4, bFo, bX, bNo, bG0, bG1, bG2, bG3, hlt, e1, c1]
  unfold mm_F_isAsNoted
  rcases ex_least (fun i => pv a (93 + 3 * i) = nI t ∧ ¬ pv b (14 + nS' a i) = pv a (95 + 3 * i)) Q with hno | ⟨i, i1, i2, i3⟩
  · have e : ss_lp (mm_F_isAsNoted_b2 N (some 111) (nI t) h) N (nI 0) = some (.inl ()) := by
      refine pb_lp (fun i => nI i) Q (by omega) (fun i hi => ?_) ?_
      · rw [step i hi, pI_f (hno i hi)]
      · unfold mm_F_isAsNoted_b2
        simp (disch := omega) only [pb_its, pb_l2, pb_ll, nI_add, pb_mul, if_true, if_false, pb_bs, pb_b2n, pb_bz0, pb_bz1, pb_10, pb_01, pb_i31, ck_is0 hk, ck_r0_0 hk, ck_r0_1 hk, ck_r0_2 hk, ck_r0_3 hk, ck_r0_4 hk, ck_r0_5 hk, ck_r0_6 hk, ck_r0_7 hk, ck_r0_8 hk, ck_r0_9 hk, ck_is1 hk, ck_r1_0 hk, ck_is3 hk, ck_r3_0 hk, ck_r3_1 hk, ck_is20 hk, ck_r20_0 hk, ck_r20_1 hk, ck_r20_2 hk, ck_is24 hk, ck_r24_1 hk, ck_r24_2 hk, ck_r24_3 hk, ck_r24_4 hk, ck_is33 hk, ck_r33_0 hk, ck_r33_1 hk, ck_is40 hk, ck_r40_0 hk, ck_is102 hk, ck_r102_0 hk, ck_r102_1 hk, ck_r102_2 hk, ck_r102_3 hk, ck_r102_4 hk, ck_r102_5 hk, ck_is103 hk, ck_r103_0 hk, ck_r103_1 hk, ck_is111 hk, ck_r111_0 hk, ck_r111_1 hk, ck_r111_2 hk, ck_r111_3 hk, ck_r111_4 hk, ck_is114 hk, ck_r114_0 hk, ck_r114_1 hk, ck_r114_2 hk, ck_r114_3 hk, ck_r114_4 hk, bV, bI, bT, bF, bD, bS, bH, bR0, bR1, bR2, bR3, bR4, bFo, bX, bNo, bG0, bG1, bG2, bG3, nI_le (Nat.le_refl Q) (by omega : Q < 2 ^ 31)]
    rw [pI_t (show nOK a Q t b from fun i hi h1 => Classical.not_not.mp (fun h2 => hno i hi ⟨h1, h2⟩))]
    simp (disch := omega) only [pb_its, pb_l2, pb_ll, nI_add, pb_mul, if_true, if_false, pb_bs, pb_b2n, pb_bz0, pb_bz1, pb_10, pb_01, pb_i31, ck_is0 hk, ck_r0_0 hk, ck_r0_1 hk, ck_r0_2 hk, ck_r0_3 hk, ck_r0_4 hk, ck_r0_5 hk, ck_r0_6 hk, ck_r0_7 hk, ck_r0_8 hk, ck_r0_9 hk, ck_is1 hk, ck_r1_0 hk, ck_is3 hk, ck_r3_0 hk, ck_r3_1 hk, ck_is20 hk, ck_r20_0 hk, ck_r20_1 hk, ck_r20_2 hk, ck_is24 hk, ck_r24_1 hk, ck_r24_2 hk, ck_r24_3 hk, ck_r24_4 hk, ck_is33 hk, ck_r33_0 hk, ck_r33_1 hk, ck_is40 hk, ck_r40_0 hk, ck_is102 hk, ck_r102_0 hk, ck_r102_1 hk, ck_r102_2 hk, ck_r102_3 hk, ck_r102_4 hk, ck_r102_5 hk, ck_is103 hk, ck_r103_0 hk, ck_r103_1 hk, ck_is111 hk, ck_r111_0 hk, ck_r111_1 hk, ck_r111_2 hk, ck_r111_3 hk, ck_r111_4 hk, ck_is114 hk, ck_r114_0 hk, ck_r114_1 hk, ck_r114_2 hk, ck_r114_3 hk, ck_r114_4 hk, e]
  · have e : ss_lp (mm_F_isAsNoted_b2 N (some 111) (nI t) h) N (nI 0) = some (.inr ()) := by
      refine pb_lp (fun i => nI i) i (by omega) (fun j hj => ?_) ?_
      · rw [step j (by omega), pI_f (i3 j hj)]
      · rw [step i i1, pI_t i2]
    rw [pI_f (show ¬ nOK a Q t b from fun p => i2.2 (p i i1 i2.1))]
    simp (disch := omega) only [pb_its, pb_l2, pb_ll, nI_add, pb_mul, if_true, if_false, pb_bs, pb_b2n, pb_bz0, pb_bz1, pb_10, pb_01, pb_i31, ck_is0 hk, ck_r0_0 hk, ck_r0_1 hk, ck_r0_2 hk, ck_r0_3 hk, ck_r0_4 hk, ck_r0_5 hk, ck_r0_6 hk, ck_r0_7 hk, ck_r0_8 hk, ck_r0_9 hk, ck_is1 hk, ck_r1_0 hk, ck_is3 hk, ck_r3_0 hk, ck_r3_1 hk, ck_is20 hk, ck_r20_0 hk, ck_r20_1 hk, ck_r20_2 hk, ck_is24 hk, ck_r24_1 hk, ck_r24_2 hk, ck_r24_3 hk, ck_r24_4 hk, ck_is33 hk, ck_r33_0 hk, ck_r33_1 hk, ck_is40 hk, ck_r40_0 hk, ck_is102 hk, ck_r102_0 hk, ck_r102_1 hk, ck_r102_2 hk, ck_r102_3 hk, ck_r102_4 hk, ck_r102_5 hk, ck_is103 hk, ck_r103_0 hk, ck_r103_1 hk, ck_is111 hk, ck_r111_0 hk, ck_r111_1 hk, ck_r111_2 hk, ck_r111_3 hk, ck_r111_4 hk, ck_is114 hk, ck_r114_0 hk, ck_r114_1 hk, ck_r114_2 hk, ck_r114_3 hk, ck_r114_4 hk, e]
theorem mb_noted {N : Nat} {h0 h : ss_Hp} {T : List Nat} {a : List Int32} {fo x : Int32} {RS : List (List ru_C)} {US : List (List Int32)} {I : Nat → Option (List Int32 × Int32 × Int32)} {fo2 : Int32} {b th2 fa2 kp2 : List Int32} {dx2 : Int64} {Z : Nat → List Int32} {k Q t : Nat} (hc : mb_h h0 h T a fo x RS US I fo2 b th2 fa2 kp2 dx2 Z) (hl : b.length = 124) (e0 : ∀ j, 30 ≤ j → pv b j = pv a j) (hq : nR a k Q) (hk8 : k ≤ 8) (ht : t ≤ 1000) (hN : 5000 < N) : mm_M_areNotesSo N (some 118) (nI t) h = some (pI (nOK a Q t b) (nI 1) (nI 0)) := by
  have hQ := hq.1
  have hk := mb_mk hc
  have sa := fun i (hi : i < 124) => mb_said hc hl hi
  have s123 := sa 123 (by omega)
  rw [e0 123 (by omega), hq.2.1] at s123
  have step : ∀ i, i < Q → mm_M_areNotesSo_b2 N (some 118) (nI t) h (nI (3 * i)) = some (pI (pv a (93 + 3 * i) = nI t ∧ ¬ pv b (14 + nS' a i) = pv a (95 + 3 * i)) (.inr (.inr ())) (.inl (nI (3 * (i + 1))))) := by
    intro i hi
    have hlt : ¬ nI (3 * Q) ≤ nI (3 * i) := nI_ge (by omega) (by omega)
    have e1 := sa (93 + 3 * i) (by omega)
    rw [e0 _ (by omega)] at e1
    have e2 := sa (93 + 3 * i + 1) (by omega)
    obtain ⟨s1, s2⟩ := (hq.2.2 i hi).2
    rw [e0 _ (by omega), show 93 + 3 * i + 1 = 94 + 3 * i by omega, s2, show 94 + 3 * i = 93 + 3 * i + 1 by omega] at e2
    have e3 := sa (93 + 3 * i + 2) (by omega)
    rw [e0 _ (by omega)] at e3
    have e95 : pv a (93 + 3 * i + 2) = pv a (95 + 3 * i) := by rw [show 93 + 3 * i + 2 = 95 + 3 * i by omega]
    rw [e95] at e3
    have sn := sa (14 + nS' a i) (by omega)
    have e33 : 3 * i + 3 = 3 * (i + 1) := by omega
    unfold mm_M_areNotesSo_b2 mm_M_areNotesSo_j63
    by_cases c1 : pv a (93 + 3 * i) = nI t
    · by_cases c2 : pv b (14 + nS' a i) = pv a (95 + 3 * i)
      · rw [pI_f (fun q => q.2 c2)]
        simp (disch := omega) only [pb_its, pb_l2, pb_ll, nI_add, pb_mul, if_true, if_false, pb_bs, pb_b2n, pb_bz0, pb_bz1, pb_10, pb_01, pb_i31, mk_is hk, mk_g0 hk, mk_g1 hk, mk_g2 hk, mk_g3 hk, mk_g4 hk, mk_g5 hk, mk_g6 hk, mk_g7 hk, mk_g8 hk, mk_g9 hk, mk_g10 hk, mk_g11 hk, mk_g12 hk, mk_g13 hk, mk_g14 hk, mk_g15 hk, mk_g16 hk, mk_g17 hk, mk_g18 hk, mk_g19 hk, mk_g20 hk, mk_g21 hk, mk_g22 hk, s123, hlt, e1, c1, e2, sn, e3, c2, e33]
      · rw [pI_t ⟨c1, c2⟩]
        simp (disch := omega) only [pb_its, pb_l2, pb_ll, nI_add, pb_mul, if_true, if_false, pb_bs, pb_b2n, pb_bz0, pb_bz1, pb_10, pb_01, pb_i31, mk_is hk, mk_g0 hk, mk_g1 hk, mk_g2 hk, mk_g3 hk, mk_g4 hk, mk_g5 hk, mk_g6 hk, mk_g7 hk, mk_g8 hk, mk_g9 hk, mk_g10 hk, mk_g11 hk, mk_g12 hk, mk_g13 hk, mk_g14 hk, mk_g15 hk, mk_g16 hk, mk_g17 hk, mk_g18 hk, mk_g19 hk, mk_g20 hk, mk_g21 hk, mk_g22 hk, s123, hlt, e1, c1, e2, sn, e3, c2]
    · rw [pI_f (fun q => c1 q.1)]
      simp (disch := omega) only [pb_its, pb_l2, pb_ll, nI_add, pb_mul, if_true, if_false, pb_bs, pb_b2n, pb_bz0, pb_bz1, pb_10, pb_01, pb_i31, mk_is hk, mk_g0 hk, mk_g1 hk, mk_g2 hk, mk_g3 hk, mk_g4 hk, mk_g5 hk, mk_g6 hk, mk_g7 hk, mk_g8 hk, mk_g9 hk, mk_g10 hk, mk_g11 hk, mk_g12 hk, mk_g13 hk, mk_g14 hk, mk_g15 hk, mk_g16 hk, mk_g17 hk, mk_g18 hk, mk_g19 hk, mk_g20 hk, mk_g21 hk, mk_g22 hk, s123, hlt, e1, c1, e33]
  unfold mm_M_areNotesSo
  rcases ex_least (fun i => pv a (93 + 3 * i) = nI t ∧ ¬ pv b (14 + nS' a i) = pv a (95 + 3 * i)) Q with hno | ⟨i, i1, i2, i3⟩
  · have e : ss_lp (mm_M_areNotesSo_b2 N (some 118) (nI t) h) N (nI 0) = some (.inl ()) := by
      refine pb_lp (fun i => nI (3 * i)) Q (by omega) (fun i hi => ?_) ?_
      · rw [step i hi, pI_f (hno i hi)]
      · unfold mm_M_areNotesSo_b2
        simp (disch := omega) only [pb_its, pb_l2, pb_ll, nI_add, pb_mul, if_true, if_false, pb_bs, pb_b2n, pb_bz0, pb_bz1, pb_10, pb_01, pb_i31, mk_is hk, mk_g0 hk, mk_g1 hk, mk_g2 hk, mk_g3 hk, mk_g4 hk, mk_g5 hk, mk_g6 hk, mk_g7 hk, mk_g8 hk, mk_g9 hk, mk_g10 hk, mk_g11 hk, mk_g12 hk, mk_g13 hk, mk_g14 hk, mk_g15 hk, mk_g16 hk, mk_g17 hk, mk_g18 hk, mk_g19 hk, mk_g20 hk, mk_g21 hk, mk_g22 hk, s123, nI_le (Nat.le_refl (3 * Q)) (by omega : 3 * Q < 2 ^ 31)]
    rw [pI_t (show nOK a Q t b from fun i hi h1 => Classical.not_not.mp (fun h2 => hno i hi ⟨h1, h2⟩))]
    simp (disch := omega) only [pb_its, pb_l2, pb_ll, nI_add, pb_mul, if_true, if_false, pb_bs, pb_b2n, pb_bz0, pb_bz1, pb_10, pb_01, pb_i31, mk_is hk, mk_g0 hk, mk_g1 hk, mk_g2 hk, mk_g3 hk, mk_g4 hk, mk_g5 hk, mk_g6 hk, mk_g7 hk, mk_g8 hk, mk_g9 hk, mk_g10 hk, mk_g11 hk, mk_g12 hk, mk_g13 hk, mk_g14 hk, mk_g15 hk, mk_g16 hk, mk_g17 hk, mk_g18 hk, mk_g19 hk, mk_g20 hk, mk_g21 hk, mk_g22 hk, e]
  · have e : ss_lp (mm_M_areNotesSo_b2 N (some 118) (nI t) h) N (nI 0) = some (.inr ()) := by
      refine pb_lp (fun i => nI (3 * i)) i (by omega) (fun j hj => ?_) ?_
      · rw [step j (by omega), pI_f (i3 j hj)]
      · rw [step i i1, pI_t i2]
    rw [pI_f (show ¬ nOK a Q t b from fun p => i2.2 (p i i1 i2.1))]
    simp (disch := omega) only [pb_its, pb_l2, pb_ll, nI_add, pb_mul, if_true, if_false, pb_bs, pb_b2n, pb_bz0, pb_bz1, pb_10, pb_01, pb_i31, mk_is hk, mk_g0 hk, mk_g1 hk, mk_g2 hk, mk_g3 hk, mk_g4 hk, mk_g5 hk, mk_g6 hk, mk_g7 hk, mk_g8 hk, mk_g9 hk, mk_g10 hk, mk_g11 hk, mk_g12 hk, mk_g13 hk, mk_g14 hk, mk_g15 hk, mk_g16 hk, mk_g17 hk, mk_g18 hk, mk_g19 hk, mk_g20 hk, mk_g21 hk, mk_g22 hk, e]
def rrG (g : Nat) : Int32 := nI g - nI 1
theorem rrG_s {g L : Nat} (hg : g ≤ L) (hL : L ≤ 6) : rrG g = -nI 1 ∨ ∃ r, r < L ∧ rrG g = nI r := by
  unfold rrG
  rcases Nat.eq_zero_or_pos g with c | c
  · left
    rw [c]
    decide
  · right
    exact ⟨g - 1, by omega, pb_subn c⟩
def dG (a : List Int32) (RS : List (List ru_C)) (k m g t : Nat) : List Int32 := dN (ro_of (rrG g) RS) k m (sa_first a) t
def fG (a : List Int32) (RS : List (List ru_C)) (k m Q g : Nat) : Prop := ∀ t, t ≤ 60 → nOK a Q t (dG a RS k m g t)
theorem fG_last {a : List Int32} {RS : List (List ru_C)} {k m Q g n : Nat} (hq : nR a k Q) (hn : n ≤ 60) : fG a RS k m Q g ↔ ∀ t, t ≤ lmN a n Q → nOK a Q t (dG a RS k m g t) := by
  obtain ⟨g1, g2, g3⟩ := lmN_s hq hn Q (Nat.le_refl Q)
  constructor
  · intro h t ht
    exact h t (by omega)
  · intro h t ht i hi hd
    by_cases c : t ≤ lmN a n Q
    · exact h t c i hi hd
    · have e := (hq.2.2 i hi).1.2
      rw [hd] at e
      have := (nI_eq (by omega) (by have := (hq.2.2 i hi).1.1; omega)).mp e
      have := g3 i hi
      omega
def rowIs (L : List Int32) (b : List Int32) (g : Nat) : Prop := ∀ s, s < 8 → pv L (g * 8 + s) = pv b (14 + s)
theorem cb_agrees {N : Nat} {h0 h : ss_Hp} {T : List Nat} {a : List Int32} {fo x : Int32} {RS : List (List ru_C)} {US : List (List Int32)} {I : Nat → Option (List Int32 × Int32 × Int32)} {Z : Nat → List Int32} {k m d Q g n : Nat} (hc : cb_h h0 h T a fo x RS US I Z) (hs : sd_ok a k m d) (ht : ¬ pv a 0 ≤ nI 0) (hq : nR a k Q) (h6 : RS.length ≤ 6) (hg : g ≤ RS.length) (hn : n ≤ 60) (hN : 5000 < N) : ∃ h' Z', mm_F_agrees N (some 111) (nI g) (nI n) h = some (pI (fG a RS k m Q g) (nI 1) (nI 0), h') ∧ cb_h h0 h' T a fo x RS US I Z' ∧ Z' 1 = Z 1 ∧ (∀ p, p < g * 8 → pv (Z' 0) p = pv (Z 0) p) ∧ (fG a RS k m Q g → rowIs (Z' 0) (dG a RS k m g n) g) := by
  have hk := cb_ck hc
  have hk8 := hs.1.2.1.1
  have hF := sa_R_first hs ht
  obtain ⟨v, ⟨⟨bV, bI, bT, bF, bD, bS, bH⟩, ⟨bR0, bR1, bR2, bR3, bR4⟩, ⟨bFo, bX, bNo⟩, ⟨bG0, bG1, bG2, bG3⟩, bOwn, bStr, bBes, bSn, bWl, bNd, bCl⟩⟩ := cb_r hc
  have eg : nI g - nI 1 = rrG g := rfl
  obtain ⟨r, er, rr⟩ := cb_ruleAt (N := N) (u := rrG g) hc (rrG_s hg h6) h6
  obtain ⟨h1, e1, w1⟩ := cb_first (N := N) hc hs.1.1 ht bV rr (by omega)
  have ln := cb_lastNoted (N := N) (n := n) (cw_cb w1) hq hn hN
  obtain ⟨g1, g2, g3⟩ := lmN_s hq hn Q (Nat.le_refl Q)
  have hD : ∀ t, t ≤ 100 → sa_R (dG a RS k m g t) k m (0 + t) := fun t ht => dN_R hF t (by omega)
  have step : ∀ t h' Z' th fa, t ≤ lmN a n Q → cw_h h0 h' T a fo x RS US I Z' (ro_of (rrG g) RS) (dG a RS k m g t) (pv (dG a RS k m g t) 13) th fa → (¬ nOK a Q t (dG a RS k m g t) → mm_F_agrees_b33 N (some 111) (nI g) (nI n) (nI (lmN a n Q)) (nI t, h') = some (.inr (.inr h'))) ∧ (nOK a Q t (dG a RS k m g t) → ∃ h2 Z2 th fa, mm_F_agrees_b33 N (some 111) (nI g) (nI n) (nI (lmN a n Q)) (nI t, h') = some (.inl (nI (t + 1), h2)) ∧ cw_h h0 h2 T a fo x RS US I Z2 (ro_of (rrG g) RS) (dG a RS k m g (t + 1)) (pv (dG a RS k m g (t + 1)) 13) th fa ∧ Z2 1 = Z' 1 ∧ (∀ p, p < g * 8 → pv (Z2 0) p = pv (Z' 0) p) ∧ (t = n → rowIs (Z2 0) (dG a RS k m g n) g) ∧ (t ≠ n → Z2 0 = Z' 0)) := by
    intro t h' Z' th fa htl w
    have ckw := cw_ck w
    have n1 : ¬ nI (lmN a n Q) < nI t := nI_nlt (by omega) (by omega)
    have nt := cw_noted (N := N) (t := t) w hq hk8 (by omega) hN
    constructor
    · intro c
      rw [pI_f c] at nt
      unfold mm_F_agrees_b33
      simp (disch := omega) only [pb_its, pb_l2, pb_ll, nI_add, pb_mul, if_true, if_false, pb_bs, pb_b2n, pb_bz0, pb_bz1, pb_10, pb_01, pb_i31, n1, nt]
    · intro c
      rw [pI_t c] at nt
      by_cases e : t = n
      · subst e
        obtain ⟨h2, c1, c2⟩ := cw_rows w (show g < 61 by omega)
        have ck2 := cw_ck c2
        have hlen := (cb_len (cw_cb w)).1
        obtain ⟨h3, p1, p2⟩ := cw_pass (N := N) c2 rfl (hD t (by omega)) (by omega) (by omega)
        refine ⟨h3, _, _, _, ?_, p2, zs_ne _ _ (by omega), fun p hp => ?_, fun _ s hs => ?_, fun h => absurd rfl h⟩
        · unfold mm_F_agrees_b33 mm_F_agrees_j80
          simp (disch := omega) only [pb_its, pb_l2, pb_ll, nI_add, pb_mul, if_true, if_false, pb_bs, pb_b2n, pb_bz0, pb_bz1, pb_10, pb_01, pb_i31, n1, nt, ck_is0 ckw, ck_r0_0 ckw, ck_r0_1 ckw, ck_r0_2 ckw, ck_r0_3 ckw, ck_r0_4 ckw, ck_r0_5 ckw, ck_r0_6 ckw, ck_r0_7 ckw, ck_r0_8 ckw, ck_r0_9 ckw, ck_is1 ckw, ck_r1_0 ckw, ck_is3 ckw, ck_r3_0 ckw, ck_r3_1 ckw, ck_is20 ckw, ck_r20_0 ckw, ck_r20_1 ckw, ck_r20_2 ckw, ck_is24 ckw, ck_r24_1 ckw, ck_r24_2 ckw, ck_r24_3 ckw, ck_r24_4 ckw, ck_is33 ckw, ck_r33_0 ckw, ck_r33_1 ckw, ck_is40 ckw, ck_r40_0 ckw, ck_is102 ckw, ck_r102_0 ckw, ck_r102_1 ckw, ck_r102_2 ckw, ck_r102_3 ckw, ck_r102_4 ckw, ck_r102_5 ckw, ck_is103 ckw, ck_r103_0 ckw, ck_r103_1 ckw, ck_is111 ckw, ck_r111_0 ckw, ck_r111_1 ckw, ck_r111_2 ckw, ck_r111_3 ckw, ck_r111_4 ckw, ck_is114 ckw, ck_r114_0 ckw, ck_r114_1 ckw, ck_r114_2 ckw, ck_r114_3 ckw, ck_r114_4 ckw, c1, ck_r111_2 ck2, p1]
        · rw [zs_eq, cpl_pv 8 (by omega), if_neg (by omega)]
        · rw [zs_eq, cpl_pv 8 (by omega), if_pos (by omega), sl_pv (by omega)]
          congr 1
          omega
      · have e' : ¬ nI t = nI n := fun q => e ((nI_eq (by omega) (by omega)).mp q)
        obtain ⟨h3, p1, p2⟩ := cw_pass (N := N) w rfl (hD t (by omega)) (by omega) (by omega)
        refine ⟨h3, _, _, _, ?_, p2, rfl, fun _ _ => rfl, fun h => absurd h e, fun _ => rfl⟩
        unfold mm_F_agrees_b33 mm_F_agrees_j80
        simp (disch := omega) only [pb_its, pb_l2, pb_ll, nI_add, pb_mul, if_true, if_false, pb_bs, pb_b2n, pb_bz0, pb_bz1, pb_10, pb_01, pb_i31, n1, nt, e', ck_is0 ckw, ck_r0_0 ckw, ck_r0_1 ckw, ck_r0_2 ckw, ck_r0_3 ckw, ck_r0_4 ckw, ck_r0_5 ckw, ck_r0_6 ckw, ck_r0_7 ckw, ck_r0_8 ckw, ck_r0_9 ckw, ck_is1 ckw, ck_r1_0 ckw, ck_is3 ckw, ck_r3_0 ckw, ck_r3_1 ckw, ck_is20 ckw, ck_r20_0 ckw, ck_r20_1 ckw, ck_r20_2 ckw, ck_is24 ckw, ck_r24_1 ckw, ck_r24_2 ckw, ck_r24_3 ckw, ck_r24_4 ckw, ck_is33 ckw, ck_r33_0 ckw, ck_r33_1 ckw, ck_is40 ckw, ck_r40_0 ckw, ck_is102 ckw, ck_r102_0 ckw, ck_r102_1 ckw, ck_r102_2 ckw, ck_r102_3 ckw, ck_r102_4 ckw, ck_r102_5 ckw, ck_is103 ckw, ck_r103_0 ckw, ck_r103_1 ckw, ck_is111 ckw, ck_r111_0 ckw, ck_r111_1 ckw, ck_r111_2 ckw, ck_r111_3 ckw, ck_r111_4 ckw, ck_is114 ckw, ck_r114_0 ckw, ck_r114_1 ckw, ck_r114_2 ckw, ck_r114_3 ckw, ck_r114_4 ckw, p1]
  rcases ex_least (fun t => ¬ nOK a Q t (dG a RS k m g t)) (lmN a n Q + 1) with hno | ⟨t, t1, t2, t3⟩
  · have fg : fG a RS k m Q g := (fG_last hq hn).mpr (fun t ht => Classical.not_not.mp (hno t (by omega)))
    have key := pb_for (body := mm_F_agrees_b33 N (some 111) (nI g) (nI n) (nI (lmN a n Q))) (lmN a n Q + 1) (fun t s => ∃ h' Z' th fa, s = (nI t, h') ∧ cw_h h0 h' T a fo x RS US I Z' (ro_of (rrG g) RS) (dG a RS k m g t) (pv (dG a RS k m g t) 13) th fa ∧ Z' 1 = Z 1 ∧ (∀ p, p < g * 8 → pv (Z' 0) p = pv (Z 0) p) ∧ (n < t → rowIs (Z' 0) (dG a RS k m g n) g)) (fun e => ∃ h' Z', e = .inl h' ∧ cb_h h0 h' T a fo x RS US I Z' ∧ Z' 1 = Z 1 ∧ (∀ p, p < g * 8 → pv (Z' 0) p = pv (Z 0) p) ∧ rowIs (Z' 0) (dG a RS k m g n) g) (N := N) (s := (nI 0, h1)) (by omega) ⟨h1, Z, _, _, rfl, w1, rfl, fun _ _ => rfl, fun h => by omega⟩ (by
      rintro t s ht ⟨h', Z', th, fa, rfl, w, z1, z0, rw0⟩
      left
      obtain ⟨h2, Z2, th2, fa2, p1, p2, p3, p4, p5, p6⟩ := (step t h' Z' th fa (by omega) w).2 (Classical.not_not.mp (hno t ht))
      refine ⟨_, p1, h2, Z2, th2, fa2, rfl, p2, p3.trans z1, fun p hp => (p4 p hp).trans (z0 p hp), fun h => ?_⟩
      by_cases e : t = n
      · exact p5 e
      · rw [p6 e]
        exact rw0 (by omega)) (by
      rintro s ⟨h', Z', th, fa, rfl, w, z1, z0, rw0⟩
      refine ⟨_, ?_, h', Z', rfl, cw_cb w, z1, z0, rw0 (by omega)⟩
      unfold mm_F_agrees_b33
      have n1 : nI (lmN a n Q) < nI (lmN a n Q + 1) := nI_lt (by omega) (by omega)
      simp (disch := omega) only [pb_its, pb_l2, pb_ll, nI_add, pb_mul, if_true, if_false, pb_bs, pb_b2n, pb_bz0, pb_bz1, pb_10, pb_01, pb_i31, n1])
    obtain ⟨_, l1, h3, Z3, rfl, c3, z1, z0, r3⟩ := key
    refine ⟨h3, Z3, ?_, c3, z1, z0, fun _ => r3⟩
    rw [pI_t fg]
    unfold mm_F_agrees
    simp (disch := omega) only [pb_its, pb_l2, pb_ll, nI_add, pb_mul, if_true, if_false, pb_bs, pb_b2n, pb_bz0, pb_bz1, pb_10, pb_01, pb_i31, ck_is0 hk, ck_r0_0 hk, ck_r0_1 hk, ck_r0_2 hk, ck_r0_3 hk, ck_r0_4 hk, ck_r0_5 hk, ck_r0_6 hk, ck_r0_7 hk, ck_r0_8 hk, ck_r0_9 hk, ck_is1 hk, ck_r1_0 hk, ck_is3 hk, ck_r3_0 hk, ck_r3_1 hk, ck_is20 hk, ck_r20_0 hk, ck_r20_1 hk, ck_r20_2 hk, ck_is24 hk, ck_r24_1 hk, ck_r24_2 hk, ck_r24_3 hk, ck_r24_4 hk, ck_is33 hk, ck_r33_0 hk, ck_r33_1 hk, ck_is40 hk, ck_r40_0 hk, ck_is102 hk, ck_r102_0 hk, ck_r102_1 hk, ck_r102_2 hk, ck_r102_3 hk, ck_r102_4 hk, ck_r102_5 hk, ck_is103 hk, ck_r103_0 hk, ck_r103_1 hk, ck_is111 hk, ck_r111_0 hk, ck_r111_1 hk, ck_r111_2 hk, ck_r111_3 hk, ck_r111_4 hk, ck_is114 hk, ck_r114_0 hk, ck_r114_1 hk, ck_r114_2 hk, ck_r114_3 hk, ck_r114_4 hk, bV, bI, bT, bF, bD, bS, bH, bR0, bR1, bR2, bR3, bR4, bFo, bX, bNo, bG0, bG1, bG2, bG3, eg, er, e1, ln, l1]
  · have fg : ¬ fG a RS k m Q g := fun f => t2 (((fG_last hq hn).mp f) t (by omega))
    have key := pb_for (body := mm_F_agrees_b33 N (some 111) (nI g) (nI n) (nI (lmN a n Q))) t (fun t s => ∃ h' Z' th fa, s = (nI t, h') ∧ cw_h h0 h' T a fo x RS US I Z' (ro_of (rrG g) RS) (dG a RS k m g t) (pv (dG a RS k m g t) 13) th fa ∧ Z' 1 = Z 1 ∧ (∀ p, p < g * 8 → pv (Z' 0) p = pv (Z 0) p)) (fun e => ∃ h' Z', e = .inr h' ∧ cb_h h0 h' T a fo x RS US I Z' ∧ Z' 1 = Z 1 ∧ (∀ p, p < g * 8 → pv (Z' 0) p = pv (Z 0) p)) (N := N) (s := (nI 0, h1)) (by omega) ⟨h1, Z, _, _, rfl, w1, rfl, fun _ _ => rfl⟩ (by
      rintro t' s ht ⟨h', Z', th, fa, rfl, w, z1, z0⟩
      left
      obtain ⟨h2, Z2, th2, fa2, p1, p2, p3, p4, p5, p6⟩ := (step t' h' Z' th fa (by omega) w).2 (Classical.not_not.mp (t3 t' ht))
      exact ⟨_, p1, h2, Z2, th2, fa2, rfl, p2, p3.trans z1, fun p hp => (p4 p hp).trans (z0 p hp)⟩) (by
      rintro s ⟨h', Z', th, fa, rfl, w, z1, z0⟩
      exact ⟨_, (step t h' Z' th fa (by omega) w).1 t2, h', Z', rfl, cw_cb w, z1, z0⟩)
    obtain ⟨_, l1, h3, Z3, rfl, c3, z1, z0⟩ := key
    refine ⟨h3, Z3, ?_, c3, z1, z0, fun f => absurd f fg⟩
    rw [pI_f fg]
    unfold mm_F_agrees
    simp (disch := omega) only [pb_its, pb_l2, pb_ll, nI_add, pb_mul, if_true, if_false, pb_bs, pb_b2n, pb_bz0, pb_bz1, pb_10, pb_01, pb_i31, ck_is0 hk, ck_r0_0 hk, ck_r0_1 hk, ck_r0_2 hk, ck_r0_3 hk, ck_r0_4 hk, ck_r0_5 hk, ck_r0_6 hk, ck_r0_7 hk, ck_r0_8 hk, ck_r0_9 hk, ck_is1 hk, ck_r1_0 hk, ck_is3 hk, ck_r3_0 hk, ck_r3_1 hk, ck_is20 hk, ck_r20_0 hk, ck_r20_1 hk, ck_r20_2 hk, ck_is24 hk, ck_r24_1 hk, ck_r24_2 hk, ck_r24_3 hk, ck_r24_4 hk, ck_is33 hk, ck_r33_0 hk, ck_r33_1 hk, ck_is40 hk, ck_r40_0 hk, ck_is102 hk, ck_r102_0 hk, ck_r102_1 hk, ck_r102_2 hk, ck_r102_3 hk, ck_r102_4 hk, ck_r102_5 hk, ck_is103 hk, ck_r103_0 hk, ck_r103_1 hk, ck_is111 hk, ck_r111_0 hk, ck_r111_1 hk, ck_r111_2 hk, ck_r111_3 hk, ck_r111_4 hk, ck_is114 hk, ck_r114_0 hk, ck_r114_1 hk, ck_r114_2 hk, ck_r114_3 hk, ck_r114_4 hk, bV, bI, bT, bF, bD, bS, bH, bR0, bR1, bR2, bR3, bR4, bFo, bX, bNo, bG0, bG1, bG2, bG3, eg, er, e1, ln, l1]
theorem vp_b0 : vp_nar .boolean (nI 0) = nI 0 := by decide
theorem vp_b1 : vp_nar .boolean (nI 1) = nI 1 := by decide
def pG (a : List Int32) (RS : List (List ru_C)) (k m Q g : Nat) : Prop := g ≤ RS.length ∧ fG a RS k m Q g
theorem cb_judge {N : Nat} {h0 h : ss_Hp} {T : List Nat} {a : List Int32} {fo x : Int32} {RS : List (List ru_C)} {US : List (List Int32)} {I : Nat → Option (List Int32 × Int32 × Int32)} {Z : Nat → List Int32} {k m d Q n : Nat} (hc : cb_h h0 h T a fo x RS US I Z) (hs : sd_ok a k m d) (ht : ¬ pv a 0 ≤ nI 0) (hq : nR a k Q) (h6 : RS.length ≤ 6) (hn : n ≤ 60) (hN : 5000 < N) : ∃ h' Z', mm_F_judge N (some 111) (nI RS.length) (nI n) h = some h' ∧ cb_h h0 h' T a fo x RS US I Z' ∧ (∀ g, g < 7 → pv (Z' 1) g = pI (pG a RS k m Q g) (nI 1) (nI 0)) ∧ ∀ g, g < 7 → pG a RS k m Q g → rowIs (Z' 0) (dG a RS k m g n) g := by
  have hk := cb_ck hc
  have key := pb_for (body := mm_F_judge_b2 N (some 111) (nI RS.length) (nI n)) 7 (fun g s => ∃ h' Z', s = (nI g, h') ∧ cb_h h0 h' T a fo x RS US I Z' ∧ (∀ j, j < g → pv (Z' 1) j = pI (pG a RS k m Q j) (nI 1) (nI 0)) ∧ ∀ j, j < g → pG a RS k m Q j → rowIs (Z' 0) (dG a RS k m j n) j) (fun e => ∃ Z', cb_h h0 e T a fo x RS US I Z' ∧ (∀ j, j < 7 → pv (Z' 1) j = pI (pG a RS k m Q j) (nI 1) (nI 0)) ∧ ∀ j, j < 7 → pG a RS k m Q j → rowIs (Z' 0) (dG a RS k m j n) j) (N := N) (s := (nI 0, h)) (by omega) ⟨h, Z, rfl, hc, fun j hj => by omega, fun j hj => by omega⟩ (by
    rintro g s hg ⟨h', Z', rfl, c, r1, r2⟩
    left
    have ck := cb_ck c
    have hlt : ¬ nI 7 ≤ nI g := nI_ge hg (by omega)
    by_cases cg : RS.length < g
    · have cg' : nI RS.length < nI g := nI_lt cg (by omega)
      have np : ¬ pG a RS k m Q g := fun p => by have := p.1; omega
      obtain ⟨h3, e3, c3⟩ := cb_y1 (i := g) (y := nI 0) c hg
      have hl := (cb_len c).2.1
      refine ⟨(nI (g + 1), h3), ?_, h3, _, rfl, c3, fun j hj => ?_, fun j hj p => ?_⟩
      · unfold mm_F_judge_b2 mm_F_judge_j31 mm_F_judge_j32
        simp (disch := omega) only [pb_its, pb_l2, pb_ll, nI_add, pb_mul, if_true, if_false, pb_bs, pb_b2n, pb_bz0, pb_bz1, pb_10, pb_01, pb_i31, ck_is0 ck, ck_r0_0 ck, ck_r0_1 ck, ck_r0_2 ck, ck_r0_3 ck, ck_r0_4 ck, ck_r0_5 ck, ck_r0_6 ck, ck_r0_7 ck, ck_r0_8 ck, ck_r0_9 ck, ck_is1 ck, ck_r1_0 ck, ck_is3 ck, ck_r3_0 ck, ck_r3_1 ck, ck_is20 ck, ck_r20_0 ck, ck_r20_1 ck, ck_r20_2 ck, ck_is24 ck, ck_r24_1 ck, ck_r24_2 ck, ck_r24_3 ck, ck_r24_4 ck, ck_is33 ck, ck_r33_0 ck, ck_r33_1 ck, ck_is40 ck, ck_r40_0 ck, ck_is102 ck, ck_r102_0 ck, ck_r102_1 ck, ck_r102_2 ck, ck_r102_3 ck, ck_r102_4 ck, ck_r102_5 ck, ck_is103 ck, ck_r103_0 ck, ck_r103_1 ck, ck_is111 ck, ck_r111_0 ck, ck_r111_1 ck, ck_r111_2 ck, ck_r111_3 ck, ck_r111_4 ck, ck_is114 ck, ck_r114_0 ck, ck_r114_1 ck, ck_r114_2 ck, ck_r114_3 ck, ck_r114_4 ck, hlt, cg', vp_b0, e3]
      · rw [zs_eq, pv_set (by omega)]
        by_cases e : j = g
        · rw [if_pos e, e, pI_f np]
        · rw [if_neg e]
          exact r1 j (by omega)
      · rw [zs_ne _ _ (by omega)]
        by_cases e : j = g
        · rw [e] at p
          exact absurd p np
        · exact r2 j (by omega) p
    · have cg' : ¬ nI RS.length < nI g := nI_nlt (by omega) (by omega)
      obtain ⟨h2, Z2, e2, c2, z1, z0, r3⟩ := cb_agrees (N := N) (g := g) (n := n) c hs ht hq h6 (by omega) hn hN
      have hl := (cb_len c2).2.1
      have hpg : pG a RS k m Q g ↔ fG a RS k m Q g := ⟨fun p => p.2, fun p => ⟨by omega, p⟩⟩
      by_cases cf : fG a RS k m Q g
      · rw [pI_t cf] at e2
        obtain ⟨h3, e3, c3⟩ := cb_y1 (i := g) (y := nI 1) c2 hg
        refine ⟨(nI (g + 1), h3), ?_, h3, _, rfl, c3, fun j hj => ?_, fun j hj p => ?_⟩
        · unfold mm_F_judge_b2 mm_F_judge_j32
          simp (disch := omega) only [pb_its, pb_l2, pb_ll, nI_add, pb_mul, if_true, if_false, pb_bs, pb_b2n, pb_bz0, pb_bz1, pb_10, pb_01, pb_i31, ck_is0 ck, ck_r0_0 ck, ck_r0_1 ck, ck_r0_2 ck, ck_r0_3 ck, ck_r0_4 ck, ck_r0_5 ck, ck_r0_6 ck, ck_r0_7 ck, ck_r0_8 ck, ck_r0_9 ck, ck_is1 ck, ck_r1_0 ck, ck_is3 ck, ck_r3_0 ck, ck_r3_1 ck, ck_is20 ck, ck_r20_0 ck, ck_r20_1 ck, ck_r20_2 ck, ck_is24 ck, ck_r24_1 ck, ck_r24_2 ck, ck_r24_3 ck, ck_r24_4 ck, ck_is33 ck, ck_r33_0 ck, ck_r33_1 ck, ck_is40 ck, ck_r40_0 ck, ck_is102 ck, ck_r102_0 ck, ck_r102_1 ck, ck_r102_2 ck, ck_r102_3 ck, ck_r102_4 ck, ck_r102_5 ck, ck_is103 ck, ck_r103_0 ck, ck_r103_1 ck, ck_is111 ck, ck_r111_0 ck, ck_r111_1 ck, ck_r111_2 ck, ck_r111_3 ck, ck_r111_4 ck, ck_is114 ck, ck_r114_0 ck, ck_r114_1 ck, ck_r114_2 ck, ck_r114_3 ck, ck_r114_4 ck, hlt, cg', e2, vp_b1, e3]
        · rw [zs_eq, pv_set (by omega)]
          by_cases e : j = g
          · rw [if_pos e, e, pI_t (hpg.mpr cf)]
          · rw [if_neg e, z1]
            exact r1 j (by omega)
        · rw [zs_ne _ _ (by omega)]
          by_cases e : j = g
          · rw [e]
            exact r3 cf
          · intro s hs
            rw [z0 _ (by omega)]
            exact r2 j (by omega) p s hs
      · rw [pI_f cf] at e2
        obtain ⟨h3, e3, c3⟩ := cb_y1 (i := g) (y := nI 0) c2 hg
        refine ⟨(nI (g + 1), h3), ?_, h3, _, rfl, c3, fun j hj => ?_, fun j hj p => ?_⟩
        · unfold mm_F_judge_b2 mm_F_judge_j31 mm_F_judge_j32
          simp (disch := omega) only [pb_its, pb_l2, pb_ll, nI_add, pb_mul, if_true, if_false, pb_bs, pb_b2n, pb_bz0, pb_bz1, pb_10, pb_01, pb_i31, ck_is0 ck, ck_r0_0 ck, ck_r0_1 ck, ck_r0_2 ck, ck_r0_3 ck, ck_r0_4 ck, ck_r0_5 ck, ck_r0_6 ck, ck_r0_7 ck, ck_r0_8 ck, ck_r0_9 ck, ck_is1 ck, ck_r1_0 ck, ck_is3 ck, ck_r3_0 ck, ck_r3_1 ck, ck_is20 ck, ck_r20_0 ck, ck_r20_1 ck, ck_r20_2 ck, ck_is24 ck, ck_r24_1 ck, ck_r24_2 ck, ck_r24_3 ck, ck_r24_4 ck, ck_is33 ck, ck_r33_0 ck, ck_r33_1 ck, ck_is40 ck, ck_r40_0 ck, ck_is102 ck, ck_r102_0 ck, ck_r102_1 ck, ck_r102_2 ck, ck_r102_3 ck, ck_r102_4 ck, ck_r102_5 ck, ck_is103 ck, ck_r103_0 ck, ck_r103_1 ck, ck_is111 ck, ck_r111_0 ck, ck_r111_1 ck, ck_r111_2 ck, ck_r111_3 ck, ck_r111_4 ck, ck_is114 ck, ck_r114_0 ck, ck_r114_1 ck, ck_r114_2 ck, ck_r114_3 ck, ck_r114_4 ck, hlt, cg', e2, vp_b0, e3]
        · rw [zs_eq, pv_set (by omega)]
          by_cases e : j = g
          · rw [if_pos e, e, pI_f (fun p => cf (hpg.mp p))]
          · rw [if_neg e, z1]
            exact r1 j (by omega)
        · rw [zs_ne _ _ (by omega)]
          by_cases e : j = g
          · rw [e] at p
            exact absurd (hpg.mp p) cf
          · intro s hs
            rw [z0 _ (by omega)]
            exact r2 j (by omega) p s hs) (by
    rintro s ⟨h', Z', rfl, c, r1, r2⟩
    refine ⟨h', ?_, Z', c, r1, r2⟩
    unfold mm_F_judge_b2
    simp (disch := omega) only [pb_its, pb_l2, pb_ll, nI_add, pb_mul, if_true, if_false, pb_bs, pb_b2n, pb_bz0, pb_bz1, pb_10, pb_01, pb_i31, nI_le (Nat.le_refl 7) (by omega : 7 < 2 ^ 31)])
  obtain ⟨h', l1, Z', l2, l3, l4⟩ := key
  refine ⟨h', Z', ?_, l2, l3, l4⟩
  unfold mm_F_judge
  simp (disch := omega) only [pb_its, pb_l2, pb_ll, nI_add, pb_mul, if_true, if_false, pb_bs, pb_b2n, pb_bz0, pb_bz1, pb_10, pb_01, pb_i31, ck_is0 hk, ck_r0_0 hk, ck_r0_1 hk, ck_r0_2 hk, ck_r0_3 hk, ck_r0_4 hk, ck_r0_5 hk, ck_r0_6 hk, ck_r0_7 hk, ck_r0_8 hk, ck_r0_9 hk, ck_is1 hk, ck_r1_0 hk, ck_is3 hk, ck_r3_0 hk, ck_r3_1 hk, ck_is20 hk, ck_r20_0 hk, ck_r20_1 hk, ck_r20_2 hk, ck_is24 hk, ck_r24_1 hk, ck_r24_2 hk, ck_r24_3 hk, ck_r24_4 hk, ck_is33 hk, ck_r33_0 hk, ck_r33_1 hk, ck_is40 hk, ck_r40_0 hk, ck_is102 hk, ck_r102_0 hk, ck_r102_1 hk, ck_r102_2 hk, ck_r102_3 hk, ck_r102_4 hk, ck_r102_5 hk, ck_is103 hk, ck_r103_0 hk, ck_r103_1 hk, ck_is111 hk, ck_r111_0 hk, ck_r111_1 hk, ck_r111_2 hk, ck_r111_3 hk, ck_r111_4 hk, ck_is114 hk, ck_r114_0 hk, ck_r114_1 hk, ck_r114_2 hk, ck_r114_3 hk, ck_r114_4 hk, l1]
/-! the model -/
theorem mb_begins {N : Nat} {h0 h : ss_Hp} {T : List Nat} {a : List Int32} {fo x : Int32} {RS : List (List ru_C)} {US : List (List Int32)} {I : Nat → Option (List Int32 × Int32 × Int32)} {fo2 : Int32} {b th2 fa2 kp2 : List Int32} {dx2 : Int64} {Z : Nat → List Int32} (hc : mb_h h0 h T a fo x RS US I fo2 b th2 fa2 kp2 dx2 Z) (hl : b.length = 124) (hla : a.length = 124) (e : ∀ j, j < 10 ∨ 30 ≤ j → pv b j = pv a j) (hN : 5000 < N) : ∃ h', mm_M_begins N (some 118) h = some h' ∧ mb_h h0 h' T a fo x RS US I fo2 (sa_first a) th2 fa2 kp2 dx2 Z := by
  have hk := mb_mk hc
  have k1 := pb_for (body := mm_M_begins_b3 N (some 118)) 4 (fun i s => ∃ h' b', s = (nI (10 + i), h') ∧ mb_h h0 h' T a fo x RS US I fo2 b' th2 fa2 kp2 dx2 Z ∧ b'.length = 124 ∧ (∀ j, j < 10 ∨ 30 ≤ j → pv b' j = pv a j) ∧ ∀ j, j < i → pv b' (10 + j) = nI 0) (fun ex => ∃ b', mb_h h0 ex T a fo x RS US I fo2 b' th2 fa2 kp2 dx2 Z ∧ b'.length = 124 ∧ (∀ j, j < 10 ∨ 30 ≤ j → pv b' j = pv a j) ∧ ∀ j, j < 4 → pv b' (10 + j) = nI 0) (N := N) (s := (nI 10, h)) (by omega) ⟨h, b, rfl, hc, hl, e, fun j hj => by omega⟩ (by
    rintro i s hi ⟨h', b', rfl, w, l, r1, r2⟩
    left
    have ck := mb_mk w
    have hlt : ¬ nI 14 ≤ nI (10 + i) := nI_ge (by omega) (by omega)
    obtain ⟨h3, e3, c3⟩ := mb_set (i := 10 + i) (y := nI 0) w l (by omega)
    refine ⟨(nI (10 + (i + 1)), h3), ?_, h3, _, rfl, c3, by rw [List.length_set]; exact l, fun j hj => by rw [pv_ne (by omega)]; exact r1 j hj, fun j hj => ?_⟩
    · unfold mm_M_begins_b3
      simp (disch := omega) only [pb_its, pb_l2, pb_ll, nI_add, pb_mul, if_true, if_false, pb_bs, pb_b2n, pb_bz0, pb_bz1, pb_10, pb_01, pb_i31, mk_is ck, mk_g0 ck, mk_g1 ck, mk_g2 ck, mk_g3 ck, mk_g4 ck, mk_g5 ck, mk_g6 ck, mk_g7 ck, mk_g8 ck, mk_g9 ck, mk_g10 ck, mk_g11 ck, mk_g12 ck, mk_g13 ck, mk_g14 ck, mk_g15 ck, mk_g16 ck, mk_g17 ck, mk_g18 ck, mk_g19 ck, mk_g20 ck, mk_g21 ck, mk_g22 ck, hlt, e3]
      rfl
    · rw [pv_set (by omega)]
      by_cases e : 10 + j = 10 + i
      · rw [if_pos e]
      · rw [if_neg e]
        exact r2 j (by omega)) (by
    rintro s ⟨h', b', rfl, w, r⟩
    refine ⟨h', ?_, b', w, r⟩
    unfold mm_M_begins_b3
    have n1 : nI 14 ≤ nI (10 + 4) := nI_le (by omega) (by omega)
    simp (disch := omega) only [pb_its, pb_l2, pb_ll, nI_add, pb_mul, if_true, if_false, pb_bs, pb_b2n, pb_bz0, pb_bz1, pb_10, pb_01, pb_i31, n1])
  obtain ⟨h1, l1, b1, w1, bl1, r1, r2⟩ := k1
  have k2 := pb_for (body := mm_M_begins_b24 N (some 118)) 8 (fun i s => ∃ h' b', s = (nI i, h') ∧ mb_h h0 h' T a fo x RS US I fo2 b' th2 fa2 kp2 dx2 Z ∧ b'.length = 124 ∧ (∀ j, j < 10 ∨ 30 ≤ j → pv b' j = pv a j) ∧ (∀ j, j < 4 → pv b' (10 + j) = nI 0) ∧ ∀ j, j < i → pv b' (14 + j) = pv a (46 + j) ∧ pv b' (22 + j) = pv a (54 + j)) (fun ex => ∃ b', mb_h h0 ex T a fo x RS US I fo2 b' th2 fa2 kp2 dx2 Z ∧ b'.length = 124 ∧ (∀ j, j < 10 ∨ 30 ≤ j → pv b' j = pv a j) ∧ (∀ j, j < 4 → pv b' (10 + j) = nI 0) ∧ ∀ j, j < 8 → pv b' (14 + j) = pv a (46 + j) ∧ pv b' (22 + j) = pv a (54 + j)) (N := N) (s := (nI 0, h1)) (by omega) ⟨h1, b1, rfl, w1, bl1, r1, r2, fun j hj => by omega⟩ (by
    rintro i s hi ⟨h', b', rfl, w, l, r1, r2, r3⟩
    left
    have ck := mb_mk w
    have hlt : ¬ nI 8 ≤ nI i := nI_ge hi (by omega)
    have s1 := mb_said w l (show 46 + i < 124 by omega)
    rw [r1 _ (by omega)] at s1
    obtain ⟨h3, e3, c3⟩ := mb_set (i := 14 + i) (y := pv a (46 + i)) w l (by omega)
    have l3 : (b'.set (14 + i) (pv a (46 + i))).length = 124 := by rw [List.length_set]; exact l
    have s2 := mb_said c3 l3 (show 54 + i < 124 by omega)
    rw [pv_ne (by omega), r1 _ (by omega)] at s2
    obtain ⟨h4, e4, c4⟩ := mb_set (i := 22 + i) (y := pv a (54 + i)) c3 l3 (by omega)
    have ck3 := mb_mk c3
    refine ⟨(nI (i + 1), h4), ?_, h4, _, rfl, c4, by rw [List.length_set]; exact l3, fun j hj => by rw [pv_ne (by omega), pv_ne (by omega)]; exact r1 j hj, fun j hj => by rw [pv_ne (by omega), pv_ne (by omega)]; exact r2 j hj, fun j hj => ?_⟩
    · unfold mm_M_begins_b24
      simp (disch := omega) only [pb_its, pb_l2, pb_ll, nI_add, pb_mul, if_true, if_false, pb_bs, pb_b2n, pb_bz0, pb_bz1, pb_10, pb_01, pb_i31, mk_is ck, mk_g0 ck, mk_g1 ck, mk_g2 ck, mk_g3 ck, mk_g4 ck, mk_g5 ck, mk_g6 ck, mk_g7 ck, mk_g8 ck, mk_g9 ck, mk_g10 ck, mk_g11 ck, mk_g12 ck, mk_g13 ck, mk_g14 ck, mk_g15 ck, mk_g16 ck, mk_g17 ck, mk_g18 ck, mk_g19 ck, mk_g20 ck, mk_g21 ck, mk_g22 ck, hlt, s1, e3, mk_g9 ck3, s2, e4]
    · by_cases e : j = i
      · subst e
        rw [pv_ne (by omega), pv_eq (by omega), pv_eq (by omega)]
        exact ⟨rfl, rfl⟩
      · rw [pv_ne (by omega), pv_ne (by omega), pv_ne (by omega), pv_ne (by omega)]
        exact r3 j (by omega)) (by
    rintro s ⟨h', b', rfl, w, r⟩
    refine ⟨h', ?_, b', w, r⟩
    unfold mm_M_begins_b24
    simp (disch := omega) only [pb_its, pb_l2, pb_ll, nI_add, pb_mul, if_true, if_false, pb_bs, pb_b2n, pb_bz0, pb_bz1, pb_10, pb_01, pb_i31, nI_le (Nat.le_refl 8) (by omega : 8 < 2 ^ 31)])
  obtain ⟨h2, l2, b2, w2, bl2, q1, q2, q3⟩ := k2
  have eb : b2 = sa_first a := pv_ext (by rw [bl2, sa_first_len hla]) (fun j hj => by
    rw [sa_first_pv hla]
    by_cases c : j < 10 ∨ 30 ≤ j
    · rw [if_pos c, q1 j c]
    · rw [if_neg c]
      by_cases c1 : j < 14
      · rw [if_pos c1, ← q2 (j - 10) (by omega)]
        congr 1
        omega
      · rw [if_neg c1]
        by_cases c2 : j < 22
        · have := (q3 (j - 14) (by omega)).1
          rw [show 14 + (j - 14) = j by omega, show 46 + (j - 14) = j + 32 by omega] at this
          exact this
        · have := (q3 (j - 22) (by omega)).2
          rw [show 22 + (j - 22) = j by omega, show 54 + (j - 22) = j + 32 by omega] at this
          exact this)
  rw [eb] at w2
  refine ⟨h2, ?_, w2⟩
  unfold mm_M_begins
  simp (disch := omega) only [pb_its, pb_l2, pb_ll, nI_add, pb_mul, if_true, if_false, pb_bs, pb_b2n, pb_bz0, pb_bz1, pb_10, pb_01, pb_i31, mk_is hk, mk_g0 hk, mk_g1 hk, mk_g2 hk, mk_g3 hk, mk_g4 hk, mk_g5 hk, mk_g6 hk, mk_g7 hk, mk_g8 hk, mk_g9 hk, mk_g10 hk, mk_g11 hk, mk_g12 hk, mk_g13 hk, mk_g14 hk, mk_g15 hk, mk_g16 hk, mk_g17 hk, mk_g18 hk, mk_g19 hk, mk_g20 hk, mk_g21 hk, mk_g22 hk, l1, l2]
theorem mb_fits {N : Nat} {h0 h : ss_Hp} {T : List Nat} {a : List Int32} {fo x : Int32} {RS : List (List ru_C)} {US : List (List Int32)} {I : Nat → Option (List Int32 × Int32 × Int32)} {th2 fa2 kp2 : List Int32} {dx2 : Int64} {Z : Nat → List Int32} {k m d Q n : Nat} (hc : mb_h h0 h T a fo x RS US I fo a th2 fa2 kp2 dx2 Z) (hs : sd_ok a k m d) (ht : ¬ pv a 0 ≤ nI 0) (hq : nR a k Q) (h6 : RS.length ≤ 6) (hn : n ≤ 60) (hN : 5000 < N) : ∃ h' th fa Z', mm_M_fillsFits N (some 118) (nI n) h = some h' ∧ mb_h h0 h' T a fo x RS US I fo a th fa (sl a 10 20) dx2 Z' ∧ (∀ g, g ≤ RS.length → pv (Z' 3) g = pI (fG a RS k m Q g) (nI 1) (nI 0)) ∧ ∀ g, g ≤ RS.length → rowIs (Z' 4) (dG a RS k m g n) g := by
  have hk := mb_mk hc
  have hk8 := hs.1.2.1.1
  have hl := hs.1.1
  have hF := sa_R_first hs ht
  have eF : ∀ j, j < 10 ∨ 30 ≤ j → pv (sa_first a) j = pv a j := fun j hj => by rw [sa_first_pv hl, if_pos hj]
  obtain ⟨q1, q2, q3, q4, q5⟩ := mb_gi hc
  obtain ⟨h1, e1, c1⟩ := mb_keeps (N := N) hc hl (by omega)
  have key := pb_for (body := mm_M_fillsFits_b11 N (some 118) (nI n) fo) (RS.length + 1) (fun g s => ∃ h' f' b' th fa Z', s = (nI g, h') ∧ mb_h h0 h' T a fo x RS US I f' b' th fa (sl a 10 20) dx2 Z' ∧ b'.length = 124 ∧ (∀ j, j < 10 ∨ 30 ≤ j → pv b' j = pv a j) ∧ (∀ j, j < g → pv (Z' 3) j = pI (fG a RS k m Q j) (nI 1) (nI 0)) ∧ ∀ j, j < g → rowIs (Z' 4) (dG a RS k m j n) j) (fun ex => ∃ f' b' th fa Z', mb_h h0 ex T a fo x RS US I f' b' th fa (sl a 10 20) dx2 Z' ∧ b'.length = 124 ∧ (∀ j, j < 10 ∨ 30 ≤ j → pv b' j = pv a j) ∧ (∀ j, j < RS.length + 1 → pv (Z' 3) j = pI (fG a RS k m Q j) (nI 1) (nI 0)) ∧ ∀ j, j < RS.length + 1 → rowIs (Z' 4) (dG a RS k m j n) j) (N := N) (s := (nI 0, h1)) (by omega) ⟨h1, fo, a, _, _, Z, rfl, c1, hl, fun _ _ => rfl, fun j hj => by omega, fun j hj => by omega⟩ (by
    rintro g s hg ⟨h', f', b', th, fa, Z', rfl, w, bl, r0, r1, r2⟩
    left
    have ck := mb_mk w
    have gi := (mb_gi w).2.1
    have hlt : ¬ nI RS.length < nI g := nI_nlt (by omega) (by omega)
    obtain ⟨h3, e3, c3⟩ := mb_setfo (y := rrG g) w
    obtain ⟨h4, e4, c4⟩ := mb_begins (N := N) c3 bl hl r0 hN
    have eg : nI g - nI 1 = rrG g := rfl
    have hD : ∀ t, t ≤ 100 → sa_R (dG a RS k m g t) k m (0 + t) := fun t ht => dN_R hF t (by omega)
    have eD : ∀ t, t ≤ 100 → ∀ j, j < 10 ∨ 30 ≤ j → pv (dG a RS k m g t) j = pv a j := fun t ht j hj => by
      unfold dG
      rw [dN_pv hF (by omega) t (by omega), eF j hj]
    have days := pb_for (body := mm_M_fillsFits_b36 N (some 118) (nI n) fo (nI g)) 61 (fun t s => ∃ h' th fa Z2, s = (pI (∀ t', t' < t → nOK a Q t' (dG a RS k m g t')) (nI 1) (nI 0), nI t, h') ∧ mb_h h0 h' T a fo x RS US I (rrG g) (dG a RS k m g t) th fa (sl a 10 20) dx2 Z2 ∧ Z2 3 = Z' 3 ∧ (∀ p, p < 8 * g → pv (Z2 4) p = pv (Z' 4) p) ∧ (n < t → rowIs (Z2 4) (dG a RS k m g n) g)) (fun ex => ∃ h' th fa Z2, ex = (pI (fG a RS k m Q g) (nI 1) (nI 0), h') ∧ mb_h h0 h' T a fo x RS US I (rrG g) (dG a RS k m g 61) th fa (sl a 10 20) dx2 Z2 ∧ Z2 3 = Z' 3 ∧ (∀ p, p < 8 * g → pv (Z2 4) p = pv (Z' 4) p) ∧ rowIs (Z2 4) (dG a RS k m g n) g) (N := N) (s := (nI 1, nI 0, h4)) (by omega) ⟨h4, th, fa, Z', by rw [pI_t (fun t' ht' => by omega)], c4, rfl, fun _ _ => rfl, fun h => by omega⟩ (by
      rintro t s htt ⟨h', th, fa, Z2, rfl, w, z3, z4, rw0⟩
      left
      have ckw := mb_mk w
      have hR := hD t (by omega)
      have n1 : ¬ nI 60 < nI t := nI_nlt (by omega) (by omega)
      have nt := mb_noted (N := N) (t := t) w hR.1.1 (fun j hj => eD t (by omega) j (by omega)) hq hk8 (by omega) hN
      have hlen := (mb_len w).2.2.2.2.2
      have row : ∀ s0 : Int32, ∃ h5 Z5, ss_lp (mm_M_fillsFits_b67 N (some 118) (nI n) fo (nI g) s0 (nI t)) N (nI 0, h') = some h5 ∧ mb_h h0 h5 T a fo x RS US I (rrG g) (dG a RS k m g t) th fa (sl a 10 20) dx2 Z5 ∧ Z5 3 = Z2 3 ∧ (∀ p, p < 8 * g → pv (Z5 4) p = pv (Z2 4) p) ∧ (n < t + 1 → rowIs (Z5 4) (dG a RS k m g n) g) := by
        intro s0
        by_cases e : t = n
        · subst e
          have kk := pb_for (body := mm_M_fillsFits_b67 N (some 118) (nI t) fo (nI g) s0 (nI t)) 8 (fun i s => ∃ h5 Z5, s = (nI i, h5) ∧ mb_h h0 h5 T a fo x RS US I (rrG g) (dG a RS k m g t) th fa (sl a 10 20) dx2 Z5 ∧ Z5 3 = Z2 3 ∧ (∀ p, p < 8 * g → pv (Z5 4) p = pv (Z2 4) p) ∧ ∀ s, s < i → pv (Z5 4) (g * 8 + s) = pv (dG a RS k m g t) (14 + s)) (fun h5 => ∃ Z5, mb_h h0 h5 T a fo x RS US I (rrG g) (dG a RS k m g t) th fa (sl a 10 20) dx2 Z5 ∧ Z5 3 = Z2 3 ∧ (∀ p, p < 8 * g → pv (Z5 4) p = pv (Z2 4) p) ∧ rowIs (Z5 4) (dG a RS k m g t) g) (N := N) (s := (nI 0, h')) (by omega) ⟨h', Z2, rfl, w, rfl, fun _ _ => rfl, fun s hs => by omega⟩ (by
            rintro i s hi ⟨h5, Z5, rfl, w5, y3, y4, yr⟩
            left
            have ck5 := mb_mk w5
            have hl5 := (mb_len w5).2.2.2.2.2
            have hlt : ¬ nI 8 ≤ nI i := nI_ge hi (by omega)
            have sn := mb_said w5 hR.1.1 (show 14 + i < 124 by omega)
            obtain ⟨h6, e6, c6⟩ := mb_y4 (i := 8 * g + i) (y := pv (dG a RS k m g t) (14 + i)) w5 (by omega)
            refine ⟨(nI (i + 1), h6), ?_, h6, _, rfl, c6, (zs_ne _ _ (by omega)).trans y3, fun p hp => ?_, fun s hs => ?_⟩
            · unfold mm_M_fillsFits_b67
              simp (disch := omega) only [pb_its, pb_l2, pb_ll, nI_add, pb_mul, if_true, if_false, pb_bs, pb_b2n, pb_bz0, pb_bz1, pb_10, pb_01, pb_i31, mk_is ck5, mk_g0 ck5, mk_g1 ck5, mk_g2 ck5, mk_g3 ck5, mk_g4 ck5, mk_g5 ck5, mk_g6 ck5, mk_g7 ck5, mk_g8 ck5, mk_g9 ck5, mk_g10 ck5, mk_g11 ck5, mk_g12 ck5, mk_g13 ck5, mk_g14 ck5, mk_g15 ck5, mk_g16 ck5, mk_g17 ck5, mk_g18 ck5, mk_g19 ck5, mk_g20 ck5, mk_g21 ck5, mk_g22 ck5, hlt, sn, e6]
            · rw [zs_eq, pv_ne (by omega)]
              exact y4 p hp
            · rw [zs_eq, pv_set (by omega)]
              by_cases e : g * 8 + s = 8 * g + i
              · rw [if_pos e, show s = i by omega]
              · rw [if_neg e]
                exact yr s (by omega)) (by
            rintro s ⟨h5, Z5, rfl, w5, y3, y4, yr⟩
            refine ⟨h5, ?_, Z5, w5, y3, y4, yr⟩
            unfold mm_M_fillsFits_b67
            simp (disch := omega) only [pb_its, pb_l2, pb_ll, nI_add, pb_mul, if_true, if_false, pb_bs, pb_b2n, pb_bz0, pb_bz1, pb_10, pb_01, pb_i31, nI_le (Nat.le_refl 8) (by omega : 8 < 2 ^ 31)])
          obtain ⟨h5, l5, Z5, w5, y3, y4, y5⟩ := kk
          exact ⟨h5, Z5, l5, w5, y3, y4, fun _ => y5⟩
        · have e' : ¬ nI t = nI n := fun q => e ((nI_eq (by omega) (by omega)).mp q)
          refine ⟨h', Z2, ?_, w, rfl, fun _ _ => rfl, fun h => rw0 (by omega)⟩
          refine pb_mono 1 N _ _ (pb_stop ?_) (by omega)
          unfold mm_M_fillsFits_b67
          have n8 : ¬ nI 8 ≤ nI 0 := nI_ge (by omega) (by omega)
          simp (disch := omega) only [pb_its, pb_l2, pb_ll, nI_add, pb_mul, if_true, if_false, pb_bs, pb_b2n, pb_bz0, pb_bz1, pb_10, pb_01, pb_i31, n8, e']
      have nxt : pI (∀ t', t' < t + 1 → nOK a Q t' (dG a RS k m g t')) (nI 1) (nI 0) = pI ((∀ t', t' < t → nOK a Q t' (dG a RS k m g t')) ∧ nOK a Q t (dG a RS k m g t)) (nI 1) (nI 0) := by
        congr 1
        apply propext
        constructor
        · intro h
          exact ⟨fun t' ht' => h t' (by omega), h t (by omega)⟩
        · rintro ⟨h1, h2⟩ t' ht'
          by_cases e : t' = t
          · rw [e]; exact h2
          · exact h1 t' (by omega)
      rw [nxt]
      by_cases c1 : ∀ t', t' < t → nOK a Q t' (dG a RS k m g t')
      · by_cases c2 : nOK a Q t (dG a RS k m g t)
        · obtain ⟨h5, Z5, l5, w5, y3, y4, yr⟩ := row (nI 1)
          obtain ⟨h6, e6, w6⟩ := mb_pass (N := N) w5 hR (rrG_s (by omega) h6) h6 (by omega)
          rw [pI_t c2] at nt
          rw [pI_t (And.intro c1 c2), pI_t c1]
          refine ⟨(nI 1, nI (t + 1), h6), ?_, h6, _, _, Z5, rfl, w6, y3.trans z3, fun p hp => (y4 p hp).trans (z4 p hp), yr⟩
          unfold mm_M_fillsFits_b36 mm_M_fillsFits_j62
          simp (disch := omega) only [pb_its, pb_l2, pb_ll, nI_add, pb_mul, if_true, if_false, pb_bs, pb_b2n, pb_bz0, pb_bz1, pb_10, pb_01, pb_i31, n1, nt, l5, e6]
        · obtain ⟨h5, Z5, l5, w5, y3, y4, yr⟩ := row (nI 0)
          obtain ⟨h6, e6, w6⟩ := mb_pass (N := N) w5 hR (rrG_s (by omega) h6) h6 (by omega)
          rw [pI_f c2] at nt
          rw [pI_f (show ¬ ((∀ t', t' < t → nOK a Q t' (dG a RS k m g t')) ∧ nOK a Q t (dG a RS k m g t)) from fun q => c2 q.2), pI_t c1]
          refine ⟨(nI 0, nI (t + 1), h6), ?_, h6, _, _, Z5, rfl, w6, y3.trans z3, fun p hp => (y4 p hp).trans (z4 p hp), yr⟩
          unfold mm_M_fillsFits_b36 mm_M_fillsFits_j61 mm_M_fillsFits_j62
          simp (disch := omega) only [pb_its, pb_l2, pb_ll, nI_add, pb_mul, if_true, if_false, pb_bs, pb_b2n, pb_bz0, pb_bz1, pb_10, pb_01, pb_i31, n1, nt, l5, e6]
      · obtain ⟨h5, Z5, l5, w5, y3, y4, yr⟩ := row (nI 0)
        obtain ⟨h6, e6, w6⟩ := mb_pass (N := N) w5 hR (rrG_s (by omega) h6) h6 (by omega)
        rw [pI_f (show ¬ ((∀ t', t' < t → nOK a Q t' (dG a RS k m g t')) ∧ nOK a Q t (dG a RS k m g t)) from fun q => c1 q.1), pI_f c1]
        refine ⟨(nI 0, nI (t + 1), h6), ?_, h6, _, _, Z5, rfl, w6, y3.trans z3, fun p hp => (y4 p hp).trans (z4 p hp), yr⟩
        unfold mm_M_fillsFits_b36 mm_M_fillsFits_j61 mm_M_fillsFits_j62
        simp (disch := omega) only [pb_its, pb_l2, pb_ll, nI_add, pb_mul, if_true, if_false, pb_bs, pb_b2n, pb_bz0, pb_bz1, pb_10, pb_01, pb_i31, n1, l5, e6]) (by
      rintro s ⟨h', th, fa, Z2, rfl, w, z3, z4, rw0⟩
      have ef : (∀ t', t' < 61 → nOK a Q t' (dG a RS k m g t')) = fG a RS k m Q g := propext ⟨fun h t ht => h t (by omega), fun h t ht => h t (by omega)⟩
      rw [ef]
      refine ⟨_, ?_, h', th, fa, Z2, rfl, w, z3, z4, rw0 (by omega)⟩
      unfold mm_M_fillsFits_b36
      have n1 : nI 60 < nI 61 := nI_lt (by omega) (by omega)
      simp (disch := omega) only [pb_its, pb_l2, pb_ll, nI_add, pb_mul, if_true, if_false, pb_bs, pb_b2n, pb_bz0, pb_bz1, pb_10, pb_01, pb_i31, n1])
    obtain ⟨_, l5, h5, th5, fa5, Z5, rfl, w5, z3, z4, r5⟩ := days
    have ck5 := mb_mk w5
    have hl5 := (mb_len w5).2.2.2.2.1
    obtain ⟨h6', e6, c6⟩ := mb_y3 (i := g) (y := pI (fG a RS k m Q g) (nI 1) (nI 0)) w5 (by omega)
    have vb : vp_nar .boolean (pI (fG a RS k m Q g) (nI 1) (nI 0)) = pI (fG a RS k m Q g) (nI 1) (nI 0) := by
      by_cases c : fG a RS k m Q g
      · rw [pI_t c, vp_b1]
      · rw [pI_f c, vp_b0]
    refine ⟨(nI (g + 1), h6'), ?_, h6', _, _, _, _, _, rfl, c6, (hD 61 (by omega)).1.1, eD 61 (by omega), fun j hj => ?_, fun j hj => ?_⟩
    · unfold mm_M_fillsFits_b11
      simp (disch := omega) only [pb_its, pb_l2, pb_ll, nI_add, pb_mul, if_true, if_false, pb_bs, pb_b2n, pb_bz0, pb_bz1, pb_10, pb_01, pb_i31, gi, hlt, eg, e3, e4, l5, mk_is ck5, mk_g0 ck5, mk_g1 ck5, mk_g2 ck5, mk_g3 ck5, mk_g4 ck5, mk_g5 ck5, mk_g6 ck5, mk_g7 ck5, mk_g8 ck5, mk_g9 ck5, mk_g10 ck5, mk_g11 ck5, mk_g12 ck5, mk_g13 ck5, mk_g14 ck5, mk_g15 ck5, mk_g16 ck5, mk_g17 ck5, mk_g18 ck5, mk_g19 ck5, mk_g20 ck5, mk_g21 ck5, mk_g22 ck5, vb, e6]
    · rw [zs_eq, pv_set (by omega)]
      by_cases e : j = g
      · rw [if_pos e, e]
      · rw [if_neg e, z3]
        exact r1 j (by omega)
    · rw [zs_ne _ _ (by omega)]
      by_cases e : j = g
      · rw [e]
        exact r5
      · intro s hs
        rw [z4 _ (by omega)]
        exact r2 j (by omega) s hs) (by
    rintro s ⟨h', f', b', th, fa, Z', rfl, w, r⟩
    have gi := (mb_gi w).2.1
    refine ⟨h', ?_, f', b', th, fa, Z', w, r⟩
    unfold mm_M_fillsFits_b11
    have n1 : nI RS.length < nI (RS.length + 1) := nI_lt (by omega) (by omega)
    simp (disch := omega) only [pb_its, pb_l2, pb_ll, nI_add, pb_mul, if_true, if_false, pb_bs, pb_b2n, pb_bz0, pb_bz1, pb_10, pb_01, pb_i31, gi, n1])
  obtain ⟨h2, l2, f', b', th', fa', Z', w2, bl, r0, r1, r2⟩ := key
  obtain ⟨h3, e3, c3⟩ := mb_setfo (y := fo) w2
  obtain ⟨h4, e4, c4⟩ := mb_lays (N := N) c3 bl (by omega)
  rw [sa_back hl bl r0] at c4
  refine ⟨h4, th', fa', Z', ?_, c4, fun g hg => r1 g (by omega), fun g hg => r2 g (by omega)⟩
  unfold mm_M_fillsFits
  simp (disch := omega) only [pb_its, pb_l2, pb_ll, nI_add, pb_mul, if_true, if_false, pb_bs, pb_b2n, pb_bz0, pb_bz1, pb_10, pb_01, pb_i31, mk_is hk, mk_g0 hk, mk_g1 hk, mk_g2 hk, mk_g3 hk, mk_g4 hk, mk_g5 hk, mk_g6 hk, mk_g7 hk, mk_g8 hk, mk_g9 hk, mk_g10 hk, mk_g11 hk, mk_g12 hk, mk_g13 hk, mk_g14 hk, mk_g15 hk, mk_g16 hk, mk_g17 hk, mk_g18 hk, mk_g19 hk, mk_g20 hk, mk_g21 hk, mk_g22 hk, q3, e1, l2, e3, e4]
