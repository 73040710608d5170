/-! ===== pacts ===== -/
def oW (a : List Int32) (i : Nat) : Nat := (pv a (38 + 2 * i)).toNatClampNeg
def pT (F : Nat → Nat → Int32) (q : Nat) (g : Nat → Int32) (L : List Int32) : Prop := (∀ i, i < 4 → pv L (4 * q + i) = g i) ∧ ∀ q' i, q' < q → i < 4 → pv L (4 * q' + i) = F q' i
theorem pT_set {F : Nat → Nat → Int32} {q i : Nat} {g : Nat → Int32} {L : List Int32} {y : Int32} (h : pT F q g L) (hl : L.length = 64) (hq : q < 16) (hi : i < 4) : pT F q (fun j => if j = i then y else g j) (L.set (4 * q + i) y) := by
  refine ⟨fun j hj => ?_, fun q' j hq' hj => ?_⟩
  · rw [pv_set (by omega)]
    by_cases c : j = i
    · subst c
      rw [if_pos rfl]
      show y = if j = j then y else g j
      rw [if_pos rfl]
    · rw [if_neg (by omega)]
      show pv L (4 * q + j) = if j = i then y else g j
      rw [if_neg c]
      exact h.1 j hj
  · rw [pv_ne (by omega)]
    exact h.2 q' j hq' hj
noncomputable def pS (a : List Int32) (q : Nat) (st : List Int32 × (Nat → Int32)) : Nat → List Int32 × (Nat → Int32)
  | 0 => st
  | i + 1 => pI (rB q i ∧ ¬ pv (pS a q st i).1 (14 + oW a i) = nI 0) (sa_take (pS a q st i).1 i (oW a i), fun j => if j = i then (pS a q st i).2 i - nI 1 else (pS a q st i).2 j) (pS a q st i)
noncomputable def pO (a b : List Int32) (g : Nat → Int32) : Nat → (Nat → Int32)
  | 0 => g
  | i + 1 => pI (pv b (14 + oW a i) < pv b 1) (fun j => if j = i then pO a b g i i + nI 2 else pO a b g i j) (pO a b g i)
noncomputable def pD (a : List Int32) (k m q : Nat) (st : List Int32 × (Nat → Int32)) : List Int32 × (Nat → Int32) := (sa_night (pS a q st m).1 z8 k, pO a (sa_night (pS a q st m).1 z8 k) (pS a q st m).2 m)
noncomputable def pN (a : List Int32) (k m q : Nat) : Nat → List Int32 × (Nat → Int32)
  | 0 => (a, fun _ => nI 0)
  | t + 1 => pD a k m q (pN a k m q t)
theorem oW_s {a : List Int32} {k m d i : Nat} (h : sa_R a k m d) (hi : i < m) : oW a i < k ∧ pv a (38 + 2 * i) = nI (oW a i) := by
  obtain ⟨o, o1, o2⟩ := h.1.2.2.2.2.2.2 i hi
  have hk := h.1.2.1.1
  have : oW a i = o := by
    unfold oW
    rw [o2, nI_clamp (by omega)]
  rw [this]
  exact ⟨o1, o2⟩
theorem pS_R {a b : List Int32} {k m d d0 q : Nat} {g : Nat → Int32} (h : sa_R b k m d) (ha : sa_R a k m d0) : ∀ i, i ≤ m → sa_R (pS a q (b, g) i).1 k m d ∧ ∀ j, j < 10 ∨ 22 ≤ j → pv (pS a q (b, g) i).1 j = pv b j := by
  intro i
  induction i with
  | zero => intro _; exact ⟨h, fun _ _ => rfl⟩
  | succ i ih =>
    intro hi
    obtain ⟨g1, g2⟩ := ih (by omega)
    obtain ⟨o1, o2⟩ := oW_s ha (show i < m by omega)
    have hk := h.1.2.1.1
    rw [pS]
    by_cases c : rB q i ∧ ¬ pv (pS a q (b, g) i).1 (14 + oW a i) = nI 0
    · rw [pI_t c]
      refine ⟨sa_R_take g1 (by omega) o1, fun j hj => ?_⟩
      show pv (sa_take _ _ _) j = _
      rw [← g2 j hj]
      rcases g1.1.2.2.2.2.1 (oW a i) o1 with hw | ⟨t, ht, hw⟩
      · exact sa_take_pv (t := 0) (by omega) (Or.inl hw) (by omega) (by omega)
      · exact sa_take_pv (t := t) (by omega) (Or.inr ⟨by omega, hw⟩) (by omega) (by omega)
    · rw [pI_f c]
      exact ⟨g1, g2⟩
theorem pN_R {a : List Int32} {k m d q : Nat} (h : sa_R a k m d) : ∀ t, d + t < 100000 → sa_R (pN a k m q t).1 k m (d + t) ∧ ∀ j, j < 10 ∨ 22 ≤ j → pv (pN a k m q t).1 j = pv a j := by
  intro t
  induction t with
  | zero => intro _; exact ⟨h, fun _ _ => rfl⟩
  | succ t ih =>
    intro ht
    obtain ⟨g1, g2⟩ := ih (by omega)
    obtain ⟨s1, s2⟩ := pS_R (q := q) (g := (pN a k m q t).2) g1 h m (Nat.le_refl m)
    refine ⟨sa_R_night s1 (by omega), fun j hj => ?_⟩
    show pv (sa_night _ _ _) j = _
    rw [sa_night_pv h.1.2.1.1 hj]
    show pv (pS a q ((pN a k m q t).1, (pN a k m q t).2) m).1 j = _
    rw [s2 j hj, g2 j hj]
theorem pb_i4 (q i : Nat) : nI (q * 4 + i) = nI (4 * q + i) := by rw [Nat.mul_comm]
/-! the class's days -/
theorem cw_agreed {N : Nat} {h0 h : ss_Hp} {T : List Nat} {a : List Int32} {fo x : Int32} {RS : List (List ru_C)} {US : List (List Int32)} {I : Nat → Option (List Int32 × Int32 × Int32)} {Z : Nat → List Int32} {ro : Option (List ru_C)} {b : List Int32} {bu : Int32} {th fa : List Int32} {F : Nat → Nat → Int32} {g : Nat → Int32} {k m d d0 q : Nat} (hc : cw_h h0 h T a fo x RS US I Z ro b bu th fa) (hRb : sa_R b k m d) (ha : sa_R a k m d0) (hq : q < 16) (hT : pT F q g (Z 4)) (hN : 5000 < N) : ∃ h' Z' bu' th', mm_P_sweepAsAgreed N (some 114) (nI q) h = some h' ∧ cw_h h0 h' T a fo x RS US I Z' ro (pS a q (b, g) m).1 bu' th' fa ∧ pT F q (pS a q (b, g) m).2 (Z' 4) := by
  have hm4 := ha.1.2.2.1.1
  have hk8 := ha.1.2.1.1
  have hk := cw_ck hc
  have key := pb_for (body := mm_P_sweepAsAgreed_b2 N (some 114) (nI q)) m (fun i s => ∃ h' Z' bu' th', s = (nI i, h') ∧ cw_h h0 h' T a fo x RS US I Z' ro (pS a q (b, g) i).1 bu' th' fa ∧ pT F q (pS a q (b, g) i).2 (Z' 4)) (fun e => ∃ Z' bu' th', cw_h h0 e T a fo x RS US I Z' ro (pS a q (b, g) m).1 bu' th' fa ∧ pT F q (pS a q (b, g) m).2 (Z' 4)) (N := N) (s := (nI 0, h)) (by omega) ⟨h, Z, bu, th, rfl, hc, hT⟩ (by
    rintro i s hi ⟨h', Z', bu', th', rfl, w, hT'⟩
    left
    obtain ⟨v, ⟨⟨bV, bI, bT, bF, bD, bS, bH⟩, ⟨bR0, bR1, bR2, bR3, bR4⟩, ⟨bFo, bX, bNo⟩, ⟨bG0, bG1, bG2, bG3⟩, bOwn, bStr, bBes, bSn, bWl, bNd, bCl⟩⟩ := cb_r (cw_cb w)
    have ckw := cw_ck w
    have hlt : ¬ nI m ≤ nI i := nI_ge hi (by omega)
    obtain ⟨o1, o2⟩ := oW_s ha hi
    obtain ⟨g1, g2⟩ := pS_R (q := q) (g := g) hRb ha i (by omega)
    have own := bOwn i (by omega)
    rw [o2] at own
    rw [ha.1.2.2.1.2] at bH
    have sn := cw_snow w (show oW a i < 8 by omega)
    obtain ⟨u, u1, u2, u3⟩ := g1.2.1 (oW a i) (by omega)
    have hl := (cb_len (cw_cb w)).2.2.2.2
    by_cases cb : rB q i
    · have cb' : (nI q >>> nI i) &&& nI 1 = nI 1 := cb
      by_cases c0 : u = 0
      · have e0 : pv (pS a q (b, g) i).1 (14 + oW a i) = nI 0 := by rw [u2, c0]
        rw [e0] at sn
        have n0 : nI 0 ≤ nI 0 := Int32.le_refl _
        refine ⟨(nI (i + 1), h'), ?_, h', Z', bu', th', rfl, ?_⟩
        · unfold mm_P_sweepAsAgreed_b2 mm_P_sweepAsAgreed_j77
          simp (disch := omega) only [pb_its, pb_l2, pb_ll, nI_add, pb_mul, if_true, if_false, pb_bs, pb_b2n, pb_bz0, pb_bz1, pb_10, pb_01, pb_i31, ck_is0 ckw, ck_r0_0 ckw, ck_r0_1 ckw, ck_r0_2 ckw, ck_r0_3 ckw, ck_r0_4 ckw, ck_r0_5 ckw, ck_r0_6 ckw, ck_r0_7 ckw, ck_r0_8 ckw, ck_r0_9 ckw, ck_is1 ckw, ck_r1_0 ckw, ck_is3 ckw, ck_r3_0 ckw, ck_r3_1 ckw, ck_is20 ckw, ck_r20_0 ckw, ck_r20_1 ckw, ck_r20_2 ckw, ck_is24 ckw, ck_r24_1 ckw, ck_r24_2 ckw, ck_r24_3 ckw, ck_r24_4 ckw, ck_is33 ckw, ck_r33_0 ckw, ck_r33_1 ckw, ck_is40 ckw, ck_r40_0 ckw, ck_is102 ckw, ck_r102_0 ckw, ck_r102_1 ckw, ck_r102_2 ckw, ck_r102_3 ckw, ck_r102_4 ckw, ck_r102_5 ckw, ck_is103 ckw, ck_r103_0 ckw, ck_r103_1 ckw, ck_is111 ckw, ck_r111_0 ckw, ck_r111_1 ckw, ck_r111_2 ckw, ck_r111_3 ckw, ck_r111_4 ckw, ck_is114 ckw, ck_r114_0 ckw, ck_r114_1 ckw, ck_r114_2 ckw, ck_r114_3 ckw, ck_r114_4 ckw, bV, bI, bT, bF, bD, bS, bH, bR0, bR1, bR2, bR3, bR4, bFo, bX, bNo, bG0, bG1, bG2, bG3, hlt, own, cb', sn, n0]
        · rw [pS, pI_f (fun q => q.2 e0)]
          exact ⟨w, hT'⟩
      · have e0 : ¬ pv (pS a q (b, g) i).1 (14 + oW a i) = nI 0 := fun e => c0 ((nI_eq (by omega) (by omega)).mp (u2.symm.trans e))
        rw [u2] at sn
        have n0 : ¬ nI u ≤ nI 0 := nI_ge (by omega) (by omega)
        obtain ⟨h3, e3, w3⟩ := cw_sweep (N := N) w g1 hi o1 e0
        have ck3 := cw_ck w3
        have z4 := cb_z4 (cw_cb w3) (show 4 * q + i < 64 by omega)
        rw [hT'.1 i (by omega)] at z4
        obtain ⟨h4, e4, w4⟩ := cw_y4 (i := 4 * q + i) (y := (pS a q (b, g) i).2 i - nI 1) w3 (by omega)
        have ep : pS a q (b, g) (i + 1) = (sa_take (pS a q (b, g) i).1 i (oW a i), fun j => if j = i then (pS a q (b, g) i).2 i - nI 1 else (pS a q (b, g) i).2 j) := by rw [pS, pI_t ⟨cb, e0⟩]
        rw [ep]
        refine ⟨(nI (i + 1), h4), ?_, h4, _, _, _, rfl, w4, ?_⟩
        · unfold mm_P_sweepAsAgreed_b2 mm_P_sweepAsAgreed_j77
          simp (disch := omega) only [pb_its, pb_l2, pb_ll, nI_add, pb_mul, if_true, if_false, pb_bs, pb_b2n, pb_bz0, pb_bz1, pb_10, pb_01, pb_i31, ck_is0 ckw, ck_r0_0 ckw, ck_r0_1 ckw, ck_r0_2 ckw, ck_r0_3 ckw, ck_r0_4 ckw, ck_r0_5 ckw, ck_r0_6 ckw, ck_r0_7 ckw, ck_r0_8 ckw, ck_r0_9 ckw, ck_is1 ckw, ck_r1_0 ckw, ck_is3 ckw, ck_r3_0 ckw, ck_r3_1 ckw, ck_is20 ckw, ck_r20_0 ckw, ck_r20_1 ckw, ck_r20_2 ckw, ck_is24 ckw, ck_r24_1 ckw, ck_r24_2 ckw, ck_r24_3 ckw, ck_r24_4 ckw, ck_is33 ckw, ck_r33_0 ckw, ck_r33_1 ckw, ck_is40 ckw, ck_r40_0 ckw, ck_is102 ckw, ck_r102_0 ckw, ck_r102_1 ckw, ck_r102_2 ckw, ck_r102_3 ckw, ck_r102_4 ckw, ck_r102_5 ckw, ck_is103 ckw, ck_r103_0 ckw, ck_r103_1 ckw, ck_is111 ckw, ck_r111_0 ckw, ck_r111_1 ckw, ck_r111_2 ckw, ck_r111_3 ckw, ck_r111_4 ckw, ck_is114 ckw, ck_r114_0 ckw, ck_r114_1 ckw, ck_r114_2 ckw, ck_r114_3 ckw, ck_r114_4 ckw, bV, bI, bT, bF, bD, bS, bH, bR0, bR1, bR2, bR3, bR4, bFo, bX, bNo, bG0, bG1, bG2, bG3, hlt, own, cb', sn, n0, e3, ck_r114_4 ck3, pb_i4, z4, e4]
        · rw [zs_eq]
          exact pT_set hT' hl hq (by omega)
    · have cb' : ¬ (nI q >>> nI i) &&& nI 1 = nI 1 := cb
      refine ⟨(nI (i + 1), h'), ?_, h', Z', bu', th', rfl, ?_⟩
      · unfold mm_P_sweepAsAgreed_b2 mm_P_sweepAsAgreed_j77
        simp (disch := omega) only [pb_its, pb_l2, pb_ll, nI_add, pb_mul, if_true, if_false, pb_bs, pb_b2n, pb_bz0, pb_bz1, pb_10, pb_01, pb_i31, ck_is0 ckw, ck_r0_0 ckw, ck_r0_1 ckw, ck_r0_2 ckw, ck_r0_3 ckw, ck_r0_4 ckw, ck_r0_5 ckw, ck_r0_6 ckw, ck_r0_7 ckw, ck_r0_8 ckw, ck_r0_9 ckw, ck_is1 ckw, ck_r1_0 ckw, ck_is3 ckw, ck_r3_0 ckw, ck_r3_1 ckw, ck_is20 ckw, ck_r20_0 ckw, ck_r20_1 ckw, ck_r20_2 ckw, ck_is24 ckw, ck_r24_1 ckw, ck_r24_2 ckw, ck_r24_3 ckw, ck_r24_4 ckw, ck_is33 ckw, ck_r33_0 ckw, ck_r33_1 ckw, ck_is40 ckw, ck_r40_0 ckw, ck_is102 ckw, ck_r102_0 ckw, ck_r102_1 ckw, ck_r102_2 ckw, ck_r102_3 ckw, ck_r102_4 ckw, ck_r102_5 ckw, ck_is103 ckw, ck_r103_0 ckw, ck_r103_1 ckw, ck_is111 ckw, ck_r111_0 ckw, ck_r111_1 ckw, ck_r111_2 ckw, ck_r111_3 ckw, ck_r111_4 ckw, ck_is114 ckw, ck_r114_0 ckw, ck_r114_1 ckw, ck_r114_2 ckw, ck_r114_3 ckw, ck_r114_4 ckw, bV, bI, bT, bF, bD, bS, bH, bR0, bR1, bR2, bR3, bR4, bFo, bX, bNo, bG0, bG1, bG2, bG3, hlt, own, cb']
      · rw [pS, pI_f (fun q => cb q.1)]
        exact ⟨w, hT'⟩) (by
    rintro s ⟨h', Z', bu', th', rfl, w, hT'⟩
    obtain ⟨v, ⟨⟨bV, bI, bT, bF, bD, bS, bH⟩, ⟨bR0, bR1, bR2, bR3, bR4⟩, ⟨bFo, bX, bNo⟩, ⟨bG0, bG1, bG2, bG3⟩, bOwn, bStr, bBes, bSn, bWl, bNd, bCl⟩⟩ := cb_r (cw_cb w)
    rw [ha.1.2.2.1.2] at bH
    have ckw := cw_ck w
    refine ⟨h', ?_, Z', bu', th', w, hT'⟩
    unfold mm_P_sweepAsAgreed_b2
    simp (disch := omega) only [pb_its, pb_l2, pb_ll, nI_add, pb_mul, if_true, if_false, pb_bs, pb_b2n, pb_bz0, pb_bz1, pb_10, pb_01, pb_i31, ck_is0 ckw, ck_r0_0 ckw, ck_r0_1 ckw, ck_r0_2 ckw, ck_r0_3 ckw, ck_r0_4 ckw, ck_r0_5 ckw, ck_r0_6 ckw, ck_r0_7 ckw, ck_r0_8 ckw, ck_r0_9 ckw, ck_is1 ckw, ck_r1_0 ckw, ck_is3 ckw, ck_r3_0 ckw, ck_r3_1 ckw, ck_is20 ckw, ck_r20_0 ckw, ck_r20_1 ckw, ck_r20_2 ckw, ck_is24 ckw, ck_r24_1 ckw, ck_r24_2 ckw, ck_r24_3 ckw, ck_r24_4 ckw, ck_is33 ckw, ck_r33_0 ckw, ck_r33_1 ckw, ck_is40 ckw, ck_r40_0 ckw, ck_is102 ckw, ck_r102_0 ckw, ck_r102_1 ckw, ck_r102_2 ckw, ck_r102_3 ckw, ck_r102_4 ckw, ck_r102_5 ckw, ck_is103 ckw, ck_r103_0 ckw, ck_r103_1 ckw, ck_is111 ckw, ck_r111_0 ckw, ck_r111_1 ckw, ck_r111_2 ckw, ck_r111_3 ckw, ck_r111_4 ckw, ck_is114 ckw, ck_r114_0 ckw, ck_r114_1 ckw, ck_r114_2 ckw, ck_r114_3 ckw, ck_r114_4 ckw, bV, bI, bT, bF, bD, bS, bH, bR0, bR1, bR2, bR3, bR4, bFo, bX, bNo, bG0, bG1, bG2, bG3, nI_le (Nat.le_refl m) (by omega : m < 2 ^ 31)])
  obtain ⟨h', l1, Z', bu', th', l2, l3⟩ := key
  refine ⟨h', Z', bu', th', ?_, l2, l3⟩
  unfold mm_P_sweepAsAgreed
  simp (disch := omega) only [pb_its, pb_l2, pb_ll, nI_add, pb_mul, if_true, if_false, pb_bs, pb_b2n, pb_bz0, pb_bz1, pb_10, pb_01, pb_i31, ck_is0 hk, ck_r0_0 hk, ck_r0_1 hk, ck_r0_2 hk, ck_r0_3 hk, ck_r0_4 hk, ck_r0_5 hk, ck_r0_6 hk, ck_r0_7 hk, ck_r0_8 hk, ck_r0_9 hk, ck_is1 hk, ck_r1_0 hk, ck_is3 hk, ck_r3_0 hk, ck_r3_1 hk, ck_is20 hk, ck_r20_0 hk, ck_r20_1 hk, ck_r20_2 hk, ck_is24 hk, ck_r24_1 hk, ck_r24_2 hk, ck_r24_3 hk, ck_r24_4 hk, ck_is33 hk, ck_r33_0 hk, ck_r33_1 hk, ck_is40 hk, ck_r40_0 hk, ck_is102 hk, ck_r102_0 hk, ck_r102_1 hk, ck_r102_2 hk, ck_r102_3 hk, ck_r102_4 hk, ck_r102_5 hk, ck_is103 hk, ck_r103_0 hk, ck_r103_1 hk, ck_is111 hk, ck_r111_0 hk, ck_r111_1 hk, ck_r111_2 hk, ck_r111_3 hk, ck_r111_4 hk, ck_is114 hk, ck_r114_0 hk, ck_r114_1 hk, ck_r114_2 hk, ck_r114_3 hk, ck_r114_4 hk, l1]
theorem cw_addOpen {N : Nat} {h0 h : ss_Hp} {T : List Nat} {a : List Int32} {fo x : Int32} {RS : List (List ru_C)} {US : List (List Int32)} {I : Nat → Option (List Int32 × Int32 × Int32)} {Z : Nat → List Int32} {ro : Option (List ru_C)} {b : List Int32} {bu : Int32} {th fa : List Int32} {F : Nat → Nat → Int32} {g : Nat → Int32} {k m d d0 q : Nat} (hc : cw_h h0 h T a fo x RS US I Z ro b bu th fa) (hRb : sa_R b k m d) (ha : sa_R a k m d0) (hq : q < 16) (hT : pT F q g (Z 4)) (hN : 5000 < N) : ∃ h' Z', mm_P_addOpen N (some 114) (nI q) h = some h' ∧ cw_h h0 h' T a fo x RS US I Z' ro b bu th fa ∧ pT F q (pO a b g m) (Z' 4) := by
  have hm4 := ha.1.2.2.1.1
  have hk8 := ha.1.2.1.1
  have hk := cw_ck hc
  have key := pb_for (body := mm_P_addOpen_b10 N (some 114) (nI q) (sa_clo b k)) m (fun i s => ∃ h' Z', s = (nI i, h') ∧ cw_h h0 h' T a fo x RS US I Z' ro b bu th fa ∧ pT F q (pO a b g i) (Z' 4)) (fun e => ∃ Z', cw_h h0 e T a fo x RS US I Z' ro b bu th fa ∧ pT F q (pO a b g m) (Z' 4)) (N := N) (s := (nI 0, h)) (by omega) ⟨h, Z, rfl, hc, hT⟩ (by
    rintro i s hi ⟨h', Z', rfl, w, hT'⟩
    left
    obtain ⟨v, ⟨⟨bV, bI, bT, bF, bD, bS, bH⟩, ⟨bR0, bR1, bR2, bR3, bR4⟩, ⟨bFo, bX, bNo⟩, ⟨bG0, bG1, bG2, bG3⟩, bOwn, bStr, bBes, bSn, bWl, bNd, bCl⟩⟩ := cb_r (cw_cb w)
    have ckw := cw_ck w
    have hlt : ¬ nI m ≤ nI i := nI_ge hi (by omega)
    obtain ⟨o1, o2⟩ := oW_s ha hi
    have own := bOwn i (by omega)
    rw [o2] at own
    rw [ha.1.2.2.1.2] at bH
    have cv := sa_clo_v (a := b) hk8 o1
    have hl := (cb_len (cw_cb w)).2.2.2.2
    have o31 : nI (oW a i) &&& nI 31 = nI (oW a i) := pb_i31 (by omega)
    by_cases c : pv b (14 + oW a i) < pv b 1
    · rw [if_pos c] at cv
      have z4 := cb_z4 (cw_cb w) (show 4 * q + i < 64 by omega)
      rw [hT'.1 i (by omega)] at z4
      obtain ⟨h4, e4, w4⟩ := cw_y4 (i := 4 * q + i) (y := pO a b g i i + nI 2) w (by omega)
      refine ⟨(nI (i + 1), h4), ?_, h4, _, rfl, w4, ?_⟩
      · unfold mm_P_addOpen_b10 mm_P_addOpen_j57
        simp (disch := omega) only [pb_its, pb_l2, pb_ll, nI_add, pb_mul, if_true, if_false, pb_bs, pb_b2n, pb_bz0, pb_bz1, pb_10, pb_01, pb_i31, ck_is0 ckw, ck_r0_0 ckw, ck_r0_1 ckw, ck_r0_2 ckw, ck_r0_3 ckw, ck_r0_4 ckw, ck_r0_5 ckw, ck_r0_6 ckw, ck_r0_7 ckw, ck_r0_8 ckw, ck_r0_9 ckw, ck_is1 ckw, ck_r1_0 ckw, ck_is3 ckw, ck_r3_0 ckw, ck_r3_1 ckw, ck_is20 ckw, ck_r20_0 ckw, ck_r20_1 ckw, ck_r20_2 ckw, ck_is24 ckw, ck_r24_1 ckw, ck_r24_2 ckw, ck_r24_3 ckw, ck_r24_4 ckw, ck_is33 ckw, ck_r33_0 ckw, ck_r33_1 ckw, ck_is40 ckw, ck_r40_0 ckw, ck_is102 ckw, ck_r102_0 ckw, ck_r102_1 ckw, ck_r102_2 ckw, ck_r102_3 ckw, ck_r102_4 ckw, ck_r102_5 ckw, ck_is103 ckw, ck_r103_0 ckw, ck_r103_1 ckw, ck_is111 ckw, ck_r111_0 ckw, ck_r111_1 ckw, ck_r111_2 ckw, ck_r111_3 ckw, ck_r111_4 ckw, ck_is114 ckw, ck_r114_0 ckw, ck_r114_1 ckw, ck_r114_2 ckw, ck_r114_3 ckw, ck_r114_4 ckw, bV, bI, bT, bF, bD, bS, bH, bR0, bR1, bR2, bR3, bR4, bFo, bX, bNo, bG0, bG1, bG2, bG3, hlt, own, o31, cv, pb_i4, z4, e4]
      · rw [pO, pI_t c, zs_eq]
        exact pT_set hT' hl hq (by omega)
    · rw [if_neg c] at cv
      refine ⟨(nI (i + 1), h'), ?_, h', Z', rfl, w, ?_⟩
      · unfold mm_P_addOpen_b10 mm_P_addOpen_j57
        simp (disch := omega) only [pb_its, pb_l2, pb_ll, nI_add, pb_mul, if_true, if_false, pb_bs, pb_b2n, pb_bz0, pb_bz1, pb_10, pb_01, pb_i31, ck_is0 ckw, ck_r0_0 ckw, ck_r0_1 ckw, ck_r0_2 ckw, ck_r0_3 ckw, ck_r0_4 ckw, ck_r0_5 ckw, ck_r0_6 ckw, ck_r0_7 ckw, ck_r0_8 ckw, ck_r0_9 ckw, ck_is1 ckw, ck_r1_0 ckw, ck_is3 ckw, ck_r3_0 ckw, ck_r3_1 ckw, ck_is20 ckw, ck_r20_0 ckw, ck_r20_1 ckw, ck_r20_2 ckw, ck_is24 ckw, ck_r24_1 ckw, ck_r24_2 ckw, ck_r24_3 ckw, ck_r24_4 ckw, ck_is33 ckw, ck_r33_0 ckw, ck_r33_1 ckw, ck_is40 ckw, ck_r40_0 ckw, ck_is102 ckw, ck_r102_0 ckw, ck_r102_1 ckw, ck_r102_2 ckw, ck_r102_3 ckw, ck_r102_4 ckw, ck_r102_5 ckw, ck_is103 ckw, ck_r103_0 ckw, ck_r103_1 ckw, ck_is111 ckw, ck_r111_0 ckw, ck_r111_1 ckw, ck_r111_2 ckw, ck_r111_3 ckw, ck_r111_4 ckw, ck_is114 ckw, ck_r114_0 ckw, ck_r114_1 ckw, ck_r114_2 ckw, ck_r114_3 ckw, ck_r114_4 ckw, bV, bI, bT, bF, bD, bS, bH, bR0, bR1, bR2, bR3, bR4, bFo, bX, bNo, bG0, bG1, bG2, bG3, hlt, own, o31, cv]
      · rw [pO, pI_f c]
        exact hT') (by
    rintro s ⟨h', Z', rfl, w, hT'⟩
    obtain ⟨v, ⟨⟨bV, bI, bT, bF, bD, bS, bH⟩, ⟨bR0, bR1, bR2, bR3, bR4⟩, ⟨bFo, bX, bNo⟩, ⟨bG0, bG1, bG2, bG3⟩, bOwn, bStr, bBes, bSn, bWl, bNd, bCl⟩⟩ := cb_r (cw_cb w)
    rw [ha.1.2.2.1.2] at bH
    have ckw := cw_ck w
    refine ⟨h', ?_, Z', w, hT'⟩
    unfold mm_P_addOpen_b10
    simp (disch := omega) only [pb_its, pb_l2, pb_ll, nI_add, pb_mul, if_true, if_false, pb_bs, pb_b2n, pb_bz0, pb_bz1, pb_10, pb_01, pb_i31, ck_is0 ckw, ck_r0_0 ckw, ck_r0_1 ckw, ck_r0_2 ckw, ck_r0_3 ckw, ck_r0_4 ckw, ck_r0_5 ckw, ck_r0_6 ckw, ck_r0_7 ckw, ck_r0_8 ckw, ck_r0_9 ckw, ck_is1 ckw, ck_r1_0 ckw, ck_is3 ckw, ck_r3_0 ckw, ck_r3_1 ckw, ck_is20 ckw, ck_r20_0 ckw, ck_r20_1 ckw, ck_r20_2 ckw, ck_is24 ckw, ck_r24_1 ckw, ck_r24_2 ckw, ck_r24_3 ckw, ck_r24_4 ckw, ck_is33 ckw, ck_r33_0 ckw, ck_r33_1 ckw, ck_is40 ckw, ck_r40_0 ckw, ck_is102 ckw, ck_r102_0 ckw, ck_r102_1 ckw, ck_r102_2 ckw, ck_r102_3 ckw, ck_r102_4 ckw, ck_r102_5 ckw, ck_is103 ckw, ck_r103_0 ckw, ck_r103_1 ckw, ck_is111 ckw, ck_r111_0 ckw, ck_r111_1 ckw, ck_r111_2 ckw, ck_r111_3 ckw, ck_r111_4 ckw, ck_is114 ckw, ck_r114_0 ckw, ck_r114_1 ckw, ck_r114_2 ckw, ck_r114_3 ckw, ck_r114_4 ckw, bV, bI, bT, bF, bD, bS, bH, bR0, bR1, bR2, bR3, bR4, bFo, bX, bNo, bG0, bG1, bG2, bG3, nI_le (Nat.le_refl m) (by omega : m < 2 ^ 31)])
  obtain ⟨h', l1, Z', l2, l3⟩ := key
  refine ⟨h', Z', ?_, l2, l3⟩
  unfold mm_P_addOpen
  simp (disch := omega) only [pb_its, pb_l2, pb_ll, nI_add, pb_mul, if_true, if_false, pb_bs, pb_b2n, pb_bz0, pb_bz1, pb_10, pb_01, pb_i31, ck_is0 hk, ck_r0_0 hk, ck_r0_1 hk, ck_r0_2 hk, ck_r0_3 hk, ck_r0_4 hk, ck_r0_5 hk, ck_r0_6 hk, ck_r0_7 hk, ck_r0_8 hk, ck_r0_9 hk, ck_is1 hk, ck_r1_0 hk, ck_is3 hk, ck_r3_0 hk, ck_r3_1 hk, ck_is20 hk, ck_r20_0 hk, ck_r20_1 hk, ck_r20_2 hk, ck_is24 hk, ck_r24_1 hk, ck_r24_2 hk, ck_r24_3 hk, ck_r24_4 hk, ck_is33 hk, ck_r33_0 hk, ck_r33_1 hk, ck_is40 hk, ck_r40_0 hk, ck_is102 hk, ck_r102_0 hk, ck_r102_1 hk, ck_r102_2 hk, ck_r102_3 hk, ck_r102_4 hk, ck_r102_5 hk, ck_is103 hk, ck_r103_0 hk, ck_r103_1 hk, ck_is111 hk, ck_r111_0 hk, ck_r111_1 hk, ck_r111_2 hk, ck_r111_3 hk, ck_r111_4 hk, ck_is114 hk, ck_r114_0 hk, ck_r114_1 hk, ck_r114_2 hk, ck_r114_3 hk, ck_r114_4 hk, cw_closed hc hk8 hRb.1.2.1.2 (by omega : 8 < N), l1]
noncomputable def pF (a : List Int32) (k m n q i : Nat) : Int32 := (pN a k m q n).2 i
theorem cb_setCount {N : Nat} {h0 h : ss_Hp} {T : List Nat} {a : List Int32} {fo x : Int32} {RS : List (List ru_C)} {US : List (List Int32)} {I : Nat → Option (List Int32 × Int32 × Int32)} {Z : Nat → List Int32} {m : Nat} (hc : cb_h h0 h T a fo x RS US I Z) (hm : m ≤ 4) (h3 : pv a 3 = nI m) : mm_P_setCount N (some 114) h = some (nI (2 ^ m)) := by
  obtain ⟨v, ⟨⟨bV, bI, bT, bF, bD, bS, bH⟩, ⟨bR0, bR1, bR2, bR3, bR4⟩, ⟨bFo, bX, bNo⟩, ⟨bG0, bG1, bG2, bG3⟩, bOwn, bStr, bBes, bSn, bWl, bNd, bCl⟩⟩ := cb_r hc
  rw [h3] at bH
  have hk := cb_ck hc
  unfold mm_P_setCount
  simp (disch := omega) only [pb_its, pb_l2, pb_ll, nI_add, pb_mul, if_true, if_false, pb_bs, pb_b2n, pb_bz0, pb_bz1, pb_10, pb_01, pb_i31, ck_is0 hk, ck_r0_0 hk, ck_r0_1 hk, ck_r0_2 hk, ck_r0_3 hk, ck_r0_4 hk, ck_r0_5 hk, ck_r0_6 hk, ck_r0_7 hk, ck_r0_8 hk, ck_r0_9 hk, ck_is1 hk, ck_r1_0 hk, ck_is3 hk, ck_r3_0 hk, ck_r3_1 hk, ck_is20 hk, ck_r20_0 hk, ck_r20_1 hk, ck_r20_2 hk, ck_is24 hk, ck_r24_1 hk, ck_r24_2 hk, ck_r24_3 hk, ck_r24_4 hk, ck_is33 hk, ck_r33_0 hk, ck_r33_1 hk, ck_is40 hk, ck_r40_0 hk, ck_is102 hk, ck_r102_0 hk, ck_r102_1 hk, ck_r102_2 hk, ck_r102_3 hk, ck_r102_4 hk, ck_r102_5 hk, ck_is103 hk, ck_r103_0 hk, ck_r103_1 hk, ck_is111 hk, ck_r111_0 hk, ck_r111_1 hk, ck_r111_2 hk, ck_r111_3 hk, ck_r111_4 hk, ck_is114 hk, ck_r114_0 hk, ck_r114_1 hk, ck_r114_2 hk, ck_r114_3 hk, ck_r114_4 hk, bV, bI, bT, bF, bD, bS, bH, bR0, bR1, bR2, bR3, bR4, bFo, bX, bNo, bG0, bG1, bG2, bG3, pb_sh1 m (by omega)]
theorem cb_weigh {N : Nat} {h0 h : ss_Hp} {T : List Nat} {a : List Int32} {fo x : Int32} {RS : List (List ru_C)} {US : List (List Int32)} {I : Nat → Option (List Int32 × Int32 × Int32)} {Z : Nat → List Int32} {k m d n : Nat} (hc : cb_h h0 h T a fo x RS US I Z) (ht : ¬ pv a 0 ≤ nI 0) (ha : sa_R a k m d) (hd : d < 10000) (hn : n ≤ 1000) (hN : 5000 < N) : ∃ h' Z', mm_P_weighSets N (some 114) (nI n) h = some h' ∧ cb_h h0 h' T a fo x RS US I Z' ∧ ∀ q i, q < 2 ^ m → i < 4 → pv (Z' 4) (4 * q + i) = pF a k m n q i := by
  have hm4 := ha.1.2.2.1.1
  have hk8 := ha.1.2.1.1
  have h3 := ha.1.2.2.1.2
  have hk := cb_ck hc
  have hp2 : 2 ^ m ≤ 16 := Nat.pow_le_pow_right (n := 2) (by omega) (show m ≤ 4 from hm4)
  have key := pb_for (body := mm_P_weighSets_b2 N (some 114) (nI n)) (2 ^ m) (fun q s => ∃ h' Z', s = (nI q, h') ∧ cb_h h0 h' T a fo x RS US I Z' ∧ ∀ q' i, q' < q → i < 4 → pv (Z' 4) (4 * q' + i) = pF a k m n q' i) (fun e => ∃ Z', cb_h h0 e T a fo x RS US I Z' ∧ ∀ q' i, q' < 2 ^ m → i < 4 → pv (Z' 4) (4 * q' + i) = pF a k m n q' i) (N := N) (s := (nI 0, h)) (by omega) ⟨h, Z, rfl, hc, fun q i hq => by omega⟩ (by
    rintro q s hq ⟨h', Z', rfl, c, r⟩
    left
    have hlt : ¬ nI (2 ^ m) ≤ nI q := nI_ge hq (by omega)
    have zk := pb_for (body := mm_P_weighSets_b12 N (some 114) (nI n) (nI q)) 4 (fun i s => ∃ h' Z', s = (nI i, h') ∧ cb_h h0 h' T a fo x RS US I Z' ∧ (∀ j, j < i → pv (Z' 4) (4 * q + j) = nI 0) ∧ ∀ q' i, q' < q → i < 4 → pv (Z' 4) (4 * q' + i) = pF a k m n q' i) (fun e => ∃ Z', cb_h h0 e T a fo x RS US I Z' ∧ pT (pF a k m n) q (fun _ => nI 0) (Z' 4)) (N := N) (s := (nI 0, h')) (by omega) ⟨h', Z', rfl, c, fun j hj => by omega, r⟩ (by
      rintro i s hi ⟨h', Z', rfl, c, r1, r2⟩
      left
      have ck := cb_ck c
      have hl := (cb_len c).2.2.2.2
      have hlt : ¬ nI 4 ≤ nI i := nI_ge hi (by omega)
      obtain ⟨h4, e4, c4⟩ := cb_y4 (i := 4 * q + i) (y := nI 0) c (by omega)
      refine ⟨(nI (i + 1), h4), ?_, h4, _, rfl, c4, fun j hj => ?_, fun q' j hq' hj => ?_⟩
      · unfold mm_P_weighSets_b12
        simp (disch := omega) only [pb_its, pb_l2, pb_ll, nI_add, pb_mul, if_true, if_false, pb_bs, pb_b2n, pb_bz0, pb_bz1, pb_10, pb_01, pb_i31, ck_is0 ck, ck_r0_0 ck, ck_r0_1 ck, ck_r0_2 ck, ck_r0_3 ck, ck_r0_4 ck, ck_r0_5 ck, ck_r0_6 ck, ck_r0_7 ck, ck_r0_8 ck, ck_r0_9 ck, ck_is1 ck, ck_r1_0 ck, ck_is3 ck, ck_r3_0 ck, ck_r3_1 ck, ck_is20 ck, ck_r20_0 ck, ck_r20_1 ck, ck_r20_2 ck, ck_is24 ck, ck_r24_1 ck, ck_r24_2 ck, ck_r24_3 ck, ck_r24_4 ck, ck_is33 ck, ck_r33_0 ck, ck_r33_1 ck, ck_is40 ck, ck_r40_0 ck, ck_is102 ck, ck_r102_0 ck, ck_r102_1 ck, ck_r102_2 ck, ck_r102_3 ck, ck_r102_4 ck, ck_r102_5 ck, ck_is103 ck, ck_r103_0 ck, ck_r103_1 ck, ck_is111 ck, ck_r111_0 ck, ck_r111_1 ck, ck_r111_2 ck, ck_r111_3 ck, ck_r111_4 ck, ck_is114 ck, ck_r114_0 ck, ck_r114_1 ck, ck_r114_2 ck, ck_r114_3 ck, ck_r114_4 ck, hlt, pb_i4, e4]
      · rw [zs_eq, pv_set (by omega)]
        by_cases e : 4 * q + j = 4 * q + i
        · rw [if_pos e]
        · rw [if_neg e]
          exact r1 j (by omega)
      · rw [zs_eq, pv_ne (by omega)]
        exact r2 q' j hq' hj) (by
      rintro s ⟨h', Z', rfl, c, r1, r2⟩
      refine ⟨h', ?_, Z', c, r1, r2⟩
      unfold mm_P_weighSets_b12
      simp (disch := omega) only [pb_its, pb_l2, pb_ll, nI_add, pb_mul, if_true, if_false, pb_bs, pb_b2n, pb_bz0, pb_bz1, pb_10, pb_01, pb_i31, nI_le (Nat.le_refl 4) (by omega : 4 < 2 ^ 31)])
    obtain ⟨h1, l1, Z1, c1, r1⟩ := zk
    obtain ⟨v, ⟨⟨bV, bI, bT, bF, bD, bS, bH⟩, ⟨bR0, bR1, bR2, bR3, bR4⟩, ⟨bFo, bX, bNo⟩, ⟨bG0, bG1, bG2, bG3⟩, bOwn, bStr, bBes, bSn, bWl, bNd, bCl⟩⟩ := cb_r c1
    have ck1 := cb_ck c1
    obtain ⟨h3', e3, w3⟩ := cb_begin (N := N) (r := none) (ro := none) c1 ht bV rfl (by omega)
    have dk := pb_for (body := mm_P_weighSets_b51 N (some 114) (nI n) (nI q)) n (fun t s => ∃ h' Z' bu th fa, s = (nI t, h') ∧ cw_h h0 h' T a fo x RS US I Z' none (pN a k m q t).1 bu th fa ∧ pT (pF a k m n) q (pN a k m q t).2 (Z' 4)) (fun e => ∃ Z', cb_h h0 e T a fo x RS US I Z' ∧ pT (pF a k m n) q (pN a k m q n).2 (Z' 4)) (N := N) (s := (nI 0, h3')) (by omega) ⟨h3', Z1, _, _, _, rfl, w3, r1⟩ (by
      rintro t s ht ⟨h', Z', bu, th, fa, rfl, w, r⟩
      left
      have hlt : ¬ nI n ≤ nI t := nI_ge ht (by omega)
      obtain ⟨p1, p2⟩ := pN_R (q := q) ha t (by omega)
      obtain ⟨h4, Z4, bu4, th4, e4, w4, r4⟩ := cw_agreed (N := N) w p1 ha (show q < 16 by omega) r hN
      obtain ⟨s1, s2⟩ := pS_R (q := q) (g := (pN a k m q t).2) p1 ha m (Nat.le_refl m)
      obtain ⟨h5, e5, w5⟩ := cw_night (N := N) w4 s1 (by omega)
      have nR := sa_R_night (fa := z8) s1 (by omega)
      obtain ⟨h6, Z6, e6, w6, r6⟩ := cw_addOpen (N := N) w5 nR ha (show q < 16 by omega) r4 hN
      have ck4 := cw_ck w4
      refine ⟨(nI (t + 1), h6), ?_, h6, Z6, _, _, _, rfl, w6, r6⟩
      unfold mm_P_weighSets_b51
      simp (disch := omega) only [pb_its, pb_l2, pb_ll, nI_add, pb_mul, if_true, if_false, pb_bs, pb_b2n, pb_bz0, pb_bz1, pb_10, pb_01, pb_i31, hlt, e4, ck_r114_1 ck4, e5, e6]) (by
      rintro s ⟨h', Z', bu, th, fa, rfl, w, r⟩
      refine ⟨h', ?_, Z', cw_cb w, r⟩
      unfold mm_P_weighSets_b51
      simp (disch := omega) only [pb_its, pb_l2, pb_ll, nI_add, pb_mul, if_true, if_false, pb_bs, pb_b2n, pb_bz0, pb_bz1, pb_10, pb_01, pb_i31, nI_le (Nat.le_refl n) (by omega : n < 2 ^ 31)])
    obtain ⟨h5, l5, Z5, c5, r5⟩ := dk
    refine ⟨(nI (q + 1), h5), ?_, h5, Z5, rfl, c5, fun q' i hq' hi => ?_⟩
    · unfold mm_P_weighSets_b2
      simp (disch := omega) only [pb_its, pb_l2, pb_ll, nI_add, pb_mul, if_true, if_false, pb_bs, pb_b2n, pb_bz0, pb_bz1, pb_10, pb_01, pb_i31, cb_setCount c hm4 h3, hlt, l1, ck_is0 ck1, ck_r0_0 ck1, ck_r0_1 ck1, ck_r0_2 ck1, ck_r0_3 ck1, ck_r0_4 ck1, ck_r0_5 ck1, ck_r0_6 ck1, ck_r0_7 ck1, ck_r0_8 ck1, ck_r0_9 ck1, ck_is1 ck1, ck_r1_0 ck1, ck_is3 ck1, ck_r3_0 ck1, ck_r3_1 ck1, ck_is20 ck1, ck_r20_0 ck1, ck_r20_1 ck1, ck_r20_2 ck1, ck_is24 ck1, ck_r24_1 ck1, ck_r24_2 ck1, ck_r24_3 ck1, ck_r24_4 ck1, ck_is33 ck1, ck_r33_0 ck1, ck_r33_1 ck1, ck_is40 ck1, ck_r40_0 ck1, ck_is102 ck1, ck_r102_0 ck1, ck_r102_1 ck1, ck_r102_2 ck1, ck_r102_3 ck1, ck_r102_4 ck1, ck_r102_5 ck1, ck_is103 ck1, ck_r103_0 ck1, ck_r103_1 ck1, ck_is111 ck1, ck_r111_0 ck1, ck_r111_1 ck1, ck_r111_2 ck1, ck_r111_3 ck1, ck_r111_4 ck1, ck_is114 ck1, ck_r114_0 ck1, ck_r114_1 ck1, ck_r114_2 ck1, ck_r114_3 ck1, ck_r114_4 ck1, bV, bI, bT, bF, bD, bS, bH, bR0, bR1, bR2, bR3, bR4, bFo, bX, bNo, bG0, bG1, bG2, bG3, e3, l5]
    · by_cases e : q' = q
      · subst e
        exact r5.1 i hi
      · exact r5.2 q' i (by omega) hi) (by
    rintro s ⟨h', Z', rfl, c, r⟩
    refine ⟨h', ?_, Z', c, r⟩
    unfold mm_P_weighSets_b2
    simp (disch := omega) only [pb_its, pb_l2, pb_ll, nI_add, pb_mul, if_true, if_false, pb_bs, pb_b2n, pb_bz0, pb_bz1, pb_10, pb_01, pb_i31, cb_setCount c hm4 h3, nI_le (Nat.le_refl (2 ^ m)) (by omega : 2 ^ m < 2 ^ 31)])
  obtain ⟨h', l1, Z', l2, l3⟩ := key
  refine ⟨h', Z', ?_, l2, l3⟩
  unfold mm_P_weighSets
  simp (disch := omega) only [pb_its, pb_l2, pb_ll, nI_add, pb_mul, if_true, if_false, pb_bs, pb_b2n, pb_bz0, pb_bz1, pb_10, pb_01, pb_i31, ck_is0 hk, ck_r0_0 hk, ck_r0_1 hk, ck_r0_2 hk, ck_r0_3 hk, ck_r0_4 hk, ck_r0_5 hk, ck_r0_6 hk, ck_r0_7 hk, ck_r0_8 hk, ck_r0_9 hk, ck_is1 hk, ck_r1_0 hk, ck_is3 hk, ck_r3_0 hk, ck_r3_1 hk, ck_is20 hk, ck_r20_0 hk, ck_r20_1 hk, ck_r20_2 hk, ck_is24 hk, ck_r24_1 hk, ck_r24_2 hk, ck_r24_3 hk, ck_r24_4 hk, ck_is33 hk, ck_r33_0 hk, ck_r33_1 hk, ck_is40 hk, ck_r40_0 hk, ck_is102 hk, ck_r102_0 hk, ck_r102_1 hk, ck_r102_2 hk, ck_r102_3 hk, ck_r102_4 hk, ck_r102_5 hk, ck_is103 hk, ck_r103_0 hk, ck_r103_1 hk, ck_is111 hk, ck_r111_0 hk, ck_r111_1 hk, ck_r111_2 hk, ck_r111_3 hk, ck_r111_4 hk, ck_is114 hk, ck_r114_0 hk, ck_r114_1 hk, ck_r114_2 hk, ck_r114_3 hk, ck_r114_4 hk, l1]
/-! the model's days -/
theorem mb_fills {N : Nat} {h0 h : ss_Hp} {T : List Nat} {a : List Int32} {fo x : Int32} {RS : List (List ru_C)} {US : List (List Int32)} {I : Nat → Option (List Int32 × Int32 × Int32)} {th2 fa2 kp2 : List Int32} {dx2 : Int64} {Z : Nat → List Int32} {k m d n q : Nat} (hc : mb_h h0 h T a fo x RS US I fo a th2 fa2 kp2 dx2 Z) (ha : sa_R a k m d) (hd : d < 10000) (hn : n ≤ 1000) (hq : q < 16) (r0 : ∀ q' i, q' < q → i < 4 → pv (Z 2) (4 * q' + i) = pF a k m n q' i) (hN : 5000 < N) : ∃ h' th fa Z', mm_M_fillsPact N (some 118) (nI q) (nI n) h = some h' ∧ mb_h h0 h' T a fo x RS US I fo (pN a k m q n).1 th fa kp2 dx2 Z' ∧ ∀ q' i, q' < q + 1 → i < 4 → pv (Z' 2) (4 * q' + i) = pF a k m n q' i := by
  have hm4 := ha.1.2.2.1.1
  have hk8 := ha.1.2.1.1
  have h3 := ha.1.2.2.1.2
  have hk := mb_mk hc
  have zk := pb_for (body := mm_M_fillsPact_b2 N (some 118) (nI q) (nI n)) 4 (fun i s => ∃ h' Z', s = (nI i, h') ∧ mb_h h0 h' T a fo x RS US I fo a th2 fa2 kp2 dx2 Z' ∧ (∀ j, j < i → pv (Z' 2) (4 * q + j) = nI 0) ∧ ∀ q' i, q' < q → i < 4 → pv (Z' 2) (4 * q' + i) = pF a k m n q' i) (fun e => ∃ Z', mb_h h0 e T a fo x RS US I fo a th2 fa2 kp2 dx2 Z' ∧ pT (pF a k m n) q (fun _ => nI 0) (Z' 2)) (N := N) (s := (nI 0, h)) (by omega) ⟨h, Z, rfl, hc, fun j hj => by omega, r0⟩ (by
    rintro i s hi ⟨h', Z', rfl, c, r1, r2⟩
    left
    have ck := mb_mk c
    have hl := (mb_len c).2.2.2.1
    have hlt : ¬ nI 4 ≤ nI i := nI_ge hi (by omega)
    obtain ⟨h4, e4, c4⟩ := mb_y2 (i := 4 * q + i) (y := nI 0) c (by omega)
    refine ⟨(nI (i + 1), h4), ?_, h4, _, rfl, c4, fun j hj => ?_, fun q' j hq' hj => ?_⟩
    · unfold mm_M_fillsPact_b2
      simp (disch := omega) only [pb_its, pb_l2, pb_ll, nI_add, pb_mul, if_true, if_false, pb_bs, pb_b2n, pb_bz0, pb_bz1, pb_10, pb_01, pb_i31, mk_is ck, mk_g0 ck, mk_g1 ck, mk_g2 ck, mk_g3 ck, mk_g4 ck, mk_g5 ck, mk_g6 ck, mk_g7 ck, mk_g8 ck, mk_g9 ck, mk_g10 ck, mk_g11 ck, mk_g12 ck, mk_g13 ck, mk_g14 ck, mk_g15 ck, mk_g16 ck, mk_g17 ck, mk_g18 ck, mk_g19 ck, mk_g20 ck, mk_g21 ck, mk_g22 ck, hlt, e4]
    · rw [zs_eq, pv_set (by omega)]
      by_cases e : 4 * q + j = 4 * q + i
      · rw [if_pos e]
      · rw [if_neg e]
        exact r1 j (by omega)
    · rw [zs_eq, pv_ne (by omega)]
      exact r2 q' j hq' hj) (by
    rintro s ⟨h', Z', rfl, c, r1, r2⟩
    refine ⟨h', ?_, Z', c, r1, r2⟩
    unfold mm_M_fillsPact_b2
    simp (disch := omega) only [pb_its, pb_l2, pb_ll, nI_add, pb_mul, if_true, if_false, pb_bs, pb_b2n, pb_bz0, pb_bz1, pb_10, pb_01, pb_i31, nI_le (Nat.le_refl 4) (by omega : 4 < 2 ^ 31)])
  obtain ⟨h1, l1, Z1, c1, r1⟩ := zk
  have dk := pb_for (body := mm_M_fillsPact_b26 N (some 118) (nI q) (nI n)) n (fun t s => ∃ h' Z' th fa, s = (nI t, h') ∧ mb_h h0 h' T a fo x RS US I fo (pN a k m q t).1 th fa kp2 dx2 Z' ∧ pT (pF a k m n) q (pN a k m q t).2 (Z' 2)) (fun e => ∃ Z' th fa, mb_h h0 e T a fo x RS US I fo (pN a k m q n).1 th fa kp2 dx2 Z' ∧ pT (pF a k m n) q (pN a k m q n).2 (Z' 2)) (N := N) (s := (nI 0, h1)) (by omega) ⟨h1, Z1, _, _, rfl, c1, r1⟩ (by
    rintro t s htn ⟨h', Z', th, fa, rfl, w, r⟩
    left
    have hlt : ¬ nI n ≤ nI t := nI_ge htn (by omega)
    obtain ⟨p1, p2⟩ := pN_R (q := q) ha t (by omega)
    have sk := pb_for (body := mm_M_fillsPact_b34 N (some 118) (nI q) (nI n) (nI t)) m (fun i s => ∃ h' Z' th', s = (nI i, h') ∧ mb_h h0 h' T a fo x RS US I fo (pS a q (pN a k m q t) i).1 th' fa kp2 dx2 Z' ∧ pT (pF a k m n) q (pS a q (pN a k m q t) i).2 (Z' 2)) (fun e => ∃ Z' th', mb_h h0 e T a fo x RS US I fo (pS a q (pN a k m q t) m).1 th' fa kp2 dx2 Z' ∧ pT (pF a k m n) q (pS a q (pN a k m q t) m).2 (Z' 2)) (N := N) (s := (nI 0, h')) (by omega) ⟨h', Z', th, rfl, w, r⟩ (by
      rintro i s hi ⟨h', Z', th', rfl, w, r⟩
      left
      have ckw := mb_mk w
      have hlt : ¬ nI m ≤ nI i := nI_ge hi (by omega)
      obtain ⟨o1, o2⟩ := oW_s ha hi
      obtain ⟨g1, g2⟩ := pS_R (q := q) (g := (pN a k m q t).2) p1 ha i (by omega)
      have g1 : sa_R (pS a q (pN a k m q t) i).1 k m (d + t) := g1
      have g2 : ∀ j, j < 10 ∨ 22 ≤ j → pv (pS a q (pN a k m q t) i).1 j = pv (pN a k m q t).1 j := g2
      have own := mb_own (N := N) (i := i) w g1.1.1 (by omega)
      rw [g2 _ (by omega), p2 _ (by omega), o2] at own
      have s3 := mb_said w g1.1.1 (show 3 < 124 by omega)
      rw [g2 _ (by omega), p2 _ (by omega), h3] at s3
      have sn := mb_said w g1.1.1 (show 14 + oW a i < 124 by omega)
      have io := po_isOf (N := N) (a1 := nI q) (show i < 32 by omega)
      have hl := (mb_len w).2.2.2.1
      by_cases cb : rB q i
      · rw [if_pos (show (nI q >>> nI i) &&& nI 1 = nI 1 from cb)] at io
        by_cases e0 : pv (pS a q (pN a k m q t) i).1 (14 + oW a i) = nI 0
        · rw [e0] at sn
          refine ⟨(nI (i + 1), h'), ?_, h', Z', th', rfl, ?_⟩
          · unfold mm_M_fillsPact_b34 mm_M_fillsPact_j102
            simp (disch := omega) only [pb_its, pb_l2, pb_ll, nI_add, pb_mul, if_true, if_false, pb_bs, pb_b2n, pb_bz0, pb_bz1, pb_10, pb_01, pb_i31, mk_is ckw, mk_g0 ckw, mk_g1 ckw, mk_g2 ckw, mk_g3 ckw, mk_g4 ckw, mk_g5 ckw, mk_g6 ckw, mk_g7 ckw, mk_g8 ckw, mk_g9 ckw, mk_g10 ckw, mk_g11 ckw, mk_g12 ckw, mk_g13 ckw, mk_g14 ckw, mk_g15 ckw, mk_g16 ckw, mk_g17 ckw, mk_g18 ckw, mk_g19 ckw, mk_g20 ckw, mk_g21 ckw, mk_g22 ckw, s3, hlt, io, own, sn]
          · rw [pS, pI_f (fun q => q.2 e0)]
            exact ⟨w, r⟩
        · obtain ⟨h3', e3, w3⟩ := mb_takes (N := N) w g1 (show i < 4 by omega) o1
          have ck3 := mb_mk w3
          have z4 := mb_z2 w3 (show 4 * q + i < 64 by omega)
          rw [r.1 i (by omega)] at z4
          obtain ⟨h4, e4, w4⟩ := mb_y2 (i := 4 * q + i) (y := (pS a q (pN a k m q t) i).2 i - nI 1) w3 (by omega)
          have ep : pS a q (pN a k m q t) (i + 1) = (sa_take (pS a q (pN a k m q t) i).1 i (oW a i), fun j => if j = i then (pS a q (pN a k m q t) i).2 i - nI 1 else (pS a q (pN a k m q t) i).2 j) := by rw [pS, pI_t ⟨cb, e0⟩]
          rw [ep]
          refine ⟨(nI (i + 1), h4), ?_, h4, _, _, rfl, w4, ?_⟩
          · unfold mm_M_fillsPact_b34 mm_M_fillsPact_j102
            simp (disch := omega) only [pb_its, pb_l2, pb_ll, nI_add, pb_mul, if_true, if_false, pb_bs, pb_b2n, pb_bz0, pb_bz1, pb_10, pb_01, pb_i31, mk_is ckw, mk_g0 ckw, mk_g1 ckw, mk_g2 ckw, mk_g3 ckw, mk_g4 ckw, mk_g5 ckw, mk_g6 ckw, mk_g7 ckw, mk_g8 ckw, mk_g9 ckw, mk_g10 ckw, mk_g11 ckw, mk_g12 ckw, mk_g13 ckw, mk_g14 ckw, mk_g15 ckw, mk_g16 ckw, mk_g17 ckw, mk_g18 ckw, mk_g19 ckw, mk_g20 ckw, mk_g21 ckw, mk_g22 ckw, s3, hlt, io, own, sn, e0, e3, mk_g16 ck3, z4, e4]
          · rw [zs_eq]
            exact pT_set r hl hq (by omega)
      · rw [if_neg (show ¬ (nI q >>> nI i) &&& nI 1 = nI 1 from cb)] at io
        refine ⟨(nI (i + 1), h'), ?_, h', Z', th', rfl, ?_⟩
        · unfold mm_M_fillsPact_b34 mm_M_fillsPact_j102
          simp (disch := omega) only [pb_its, pb_l2, pb_ll, nI_add, pb_mul, if_true, if_false, pb_bs, pb_b2n, pb_bz0, pb_bz1, pb_10, pb_01, pb_i31, mk_is ckw, mk_g0 ckw, mk_g1 ckw, mk_g2 ckw, mk_g3 ckw, mk_g4 ckw, mk_g5 ckw, mk_g6 ckw, mk_g7 ckw, mk_g8 ckw, mk_g9 ckw, mk_g10 ckw, mk_g11 ckw, mk_g12 ckw, mk_g13 ckw, mk_g14 ckw, mk_g15 ckw, mk_g16 ckw, mk_g17 ckw, mk_g18 ckw, mk_g19 ckw, mk_g20 ckw, mk_g21 ckw, mk_g22 ckw, s3, hlt, io]
        · rw [pS, pI_f (fun q => cb q.1)]
          exact ⟨w, r⟩) (by
      rintro s ⟨h', Z', th', rfl, w, r⟩
      have ckw := mb_mk w
      obtain ⟨g1, g2⟩ := pS_R (q := q) (g := (pN a k m q t).2) p1 ha m (Nat.le_refl m)
      have g1 : sa_R (pS a q (pN a k m q t) m).1 k m (d + t) := g1
      have s3 := mb_said w g1.1.1 (show 3 < 124 by omega)
      rw [g1.1.2.2.1.2] at s3
      refine ⟨h', ?_, Z', th', w, r⟩
      unfold mm_M_fillsPact_b34
      simp (disch := omega) only [pb_its, pb_l2, pb_ll, nI_add, pb_mul, if_true, if_false, pb_bs, pb_b2n, pb_bz0, pb_bz1, pb_10, pb_01, pb_i31, mk_is ckw, mk_g0 ckw, mk_g1 ckw, mk_g2 ckw, mk_g3 ckw, mk_g4 ckw, mk_g5 ckw, mk_g6 ckw, mk_g7 ckw, mk_g8 ckw, mk_g9 ckw, mk_g10 ckw, mk_g11 ckw, mk_g12 ckw, mk_g13 ckw, mk_g14 ckw, mk_g15 ckw, mk_g16 ckw, mk_g17 ckw, mk_g18 ckw, mk_g19 ckw, mk_g20 ckw, mk_g21 ckw, mk_g22 ckw, s3, nI_le (Nat.le_refl m) (by omega : m < 2 ^ 31)])
    obtain ⟨h4, l4, Z4, th4, w4, r4⟩ := sk
    obtain ⟨s1, s2⟩ := pS_R (q := q) (g := (pN a k m q t).2) p1 ha m (Nat.le_refl m)
    have s1 : sa_R (pS a q (pN a k m q t) m).1 k m (d + t) := s1
    obtain ⟨h5, e5, w5⟩ := mb_snows (N := N) w4 s1 (by omega)
    have nR := sa_R_night (fa := z8) s1 (by omega)
    obtain ⟨nR1, nR2⟩ := pN_R (q := q) ha (t + 1) (by omega)
    have nR2 : ∀ j, j < 10 ∨ 22 ≤ j → pv (sa_night (pS a q (pN a k m q t) m).1 z8 k) j = pv a j := nR2
    have ok := pb_for (body := mm_M_fillsPact_b116 N (some 118) (nI q) (nI n) (nI t)) m (fun i s => ∃ h' Z', s = (nI i, h') ∧ mb_h h0 h' T a fo x RS US I fo (sa_night (pS a q (pN a k m q t) m).1 z8 k) th4 (sa_nightF (pS a q (pN a k m q t) m).1 fa k) kp2 dx2 Z' ∧ pT (pF a k m n) q (pO a (sa_night (pS a q (pN a k m q t) m).1 z8 k) (pS a q (pN a k m q t) m).2 i) (Z' 2)) (fun e => ∃ Z', mb_h h0 e T a fo x RS US I fo (sa_night (pS a q (pN a k m q t) m).1 z8 k) th4 (sa_nightF (pS a q (pN a k m q t) m).1 fa k) kp2 dx2 Z' ∧ pT (pF a k m n) q (pO a (sa_night (pS a q (pN a k m q t) m).1 z8 k) (pS a q (pN a k m q t) m).2 m) (Z' 2)) (N := N) (s := (nI 0, h5)) (by omega) ⟨h5, Z4, rfl, w5, r4⟩ (by
      rintro i s hi ⟨h', Z', rfl, w, r⟩
      left
      have ckw := mb_mk w
      have hlt : ¬ nI m ≤ nI i := nI_ge hi (by omega)
      obtain ⟨o1, o2⟩ := oW_s ha hi
      have own := mb_own (N := N) (i := i) w nR.1.1 (by omega)
      rw [nR2 _ (by omega), o2] at own
      have s3 := mb_said w nR.1.1 (show 3 < 124 by omega)
      rw [nR2 _ (by omega), h3] at s3
      have ic := mb_isClosed (N := N) (s := oW a i) w nR.1.1 (by omega)
      have hl := (mb_len w).2.2.2.1
      have z4 := mb_z2 w (show 4 * q + i < 64 by omega)
      rw [r.1 i (by omega)] at z4
      by_cases c : pv (sa_night (pS a q (pN a k m q t) m).1 z8 k) (14 + oW a i) < pv (sa_night (pS a q (pN a k m q t) m).1 z8 k) 1
      · rw [if_pos c] at ic
        obtain ⟨h6, e6, w6⟩ := mb_y2 (i := 4 * q + i) (y := pO a (sa_night (pS a q (pN a k m q t) m).1 z8 k) (pS a q (pN a k m q t) m).2 i i + nI 2) w (by omega)
        refine ⟨(nI (i + 1), h6), ?_, h6, _, rfl, w6, ?_⟩
        · unfold mm_M_fillsPact_b116 mm_M_fillsPact_j157
          simp (disch := omega) only [pb_its, pb_l2, pb_ll, nI_add, pb_mul, if_true, if_false, pb_bs, pb_b2n, pb_bz0, pb_bz1, pb_10, pb_01, pb_i31, mk_is ckw, mk_g0 ckw, mk_g1 ckw, mk_g2 ckw, mk_g3 ckw, mk_g4 ckw, mk_g5 ckw, mk_g6 ckw, mk_g7 ckw, mk_g8 ckw, mk_g9 ckw, mk_g10 ckw, mk_g11 ckw, mk_g12 ckw, mk_g13 ckw, mk_g14 ckw, mk_g15 ckw, mk_g16 ckw, mk_g17 ckw, mk_g18 ckw, mk_g19 ckw, mk_g20 ckw, mk_g21 ckw, mk_g22 ckw, s3, hlt, z4, own, ic, e6]
        · rw [pO, pI_t c, zs_eq]
          exact pT_set r hl hq (by omega)
      · rw [if_neg c] at ic
        obtain ⟨h6, e6, w6⟩ := mb_y2 (i := 4 * q + i) (y := pO a (sa_night (pS a q (pN a k m q t) m).1 z8 k) (pS a q (pN a k m q t) m).2 i i + nI 0) w (by omega)
        have ez : pO a (sa_night (pS a q (pN a k m q t) m).1 z8 k) (pS a q (pN a k m q t) m).2 i i + nI 0 = pv (Z' 2) (4 * q + i) := by
          rw [r.1 i (by omega)]
          exact Int32.add_zero _
        refine ⟨(nI (i + 1), h6), ?_, h6, _, rfl, w6, ?_⟩
        · unfold mm_M_fillsPact_b116 mm_M_fillsPact_j157
          simp (disch := omega) only [pb_its, pb_l2, pb_ll, nI_add, pb_mul, if_true, if_false, pb_bs, pb_b2n, pb_bz0, pb_bz1, pb_10, pb_01, pb_i31, mk_is ckw, mk_g0 ckw, mk_g1 ckw, mk_g2 ckw, mk_g3 ckw, mk_g4 ckw, mk_g5 ckw, mk_g6 ckw, mk_g7 ckw, mk_g8 ckw, mk_g9 ckw, mk_g10 ckw, mk_g11 ckw, mk_g12 ckw, mk_g13 ckw, mk_g14 ckw, mk_g15 ckw, mk_g16 ckw, mk_g17 ckw, mk_g18 ckw, mk_g19 ckw, mk_g20 ckw, mk_g21 ckw, mk_g22 ckw, s3, hlt, z4, own, ic, e6]
        · rw [pO, pI_f c, zs_eq, ez, pb_self (by omega)]
          exact r) (by
      rintro s ⟨h', Z', rfl, w, r⟩
      have ckw := mb_mk w
      have s3 := mb_said w nR.1.1 (show 3 < 124 by omega)
      rw [nR2 _ (by omega), h3] at s3
      refine ⟨h', ?_, Z', w, r⟩
      unfold mm_M_fillsPact_b116
      simp (disch := omega) only [pb_its, pb_l2, pb_ll, nI_add, pb_mul, if_true, if_false, pb_bs, pb_b2n, pb_bz0, pb_bz1, pb_10, pb_01, pb_i31, mk_is ckw, mk_g0 ckw, mk_g1 ckw, mk_g2 ckw, mk_g3 ckw, mk_g4 ckw, mk_g5 ckw, mk_g6 ckw, mk_g7 ckw, mk_g8 ckw, mk_g9 ckw, mk_g10 ckw, mk_g11 ckw, mk_g12 ckw, mk_g13 ckw, mk_g14 ckw, mk_g15 ckw, mk_g16 ckw, mk_g17 ckw, mk_g18 ckw, mk_g19 ckw, mk_g20 ckw, mk_g21 ckw, mk_g22 ckw, s3, nI_le (Nat.le_refl m) (by omega : m < 2 ^ 31)])
    obtain ⟨h6, l6, Z6, w6, r6⟩ := ok
    refine ⟨(nI (t + 1), h6), ?_, h6, Z6, _, _, rfl, w6, r6⟩
    unfold mm_M_fillsPact_b26
    simp (disch := omega) only [pb_its, pb_l2, pb_ll, nI_add, pb_mul, if_true, if_false, pb_bs, pb_b2n, pb_bz0, pb_bz1, pb_10, pb_01, pb_i31, hlt, l4, e5, l6]) (by
    rintro s ⟨h', Z', th, fa, rfl, w, r⟩
    refine ⟨h', ?_, Z', th, fa, w, r⟩
    unfold mm_M_fillsPact_b26
    simp (disch := omega) only [pb_its, pb_l2, pb_ll, nI_add, pb_mul, if_true, if_false, pb_bs, pb_b2n, pb_bz0, pb_bz1, pb_10, pb_01, pb_i31, nI_le (Nat.le_refl n) (by omega : n < 2 ^ 31)])
  obtain ⟨h2, l2, Z2, th', fa', c2, r2⟩ := dk
  refine ⟨h2, th', fa', Z2, ?_, c2, fun q' i hq' hi => ?_⟩
  · unfold mm_M_fillsPact
    simp (disch := omega) only [pb_its, pb_l2, pb_ll, nI_add, pb_mul, if_true, if_false, pb_bs, pb_b2n, pb_bz0, pb_bz1, pb_10, pb_01, pb_i31, mk_is hk, mk_g0 hk, mk_g1 hk, mk_g2 hk, mk_g3 hk, mk_g4 hk, mk_g5 hk, mk_g6 hk, mk_g7 hk, mk_g8 hk, mk_g9 hk, mk_g10 hk, mk_g11 hk, mk_g12 hk, mk_g13 hk, mk_g14 hk, mk_g15 hk, mk_g16 hk, mk_g17 hk, mk_g18 hk, mk_g19 hk, mk_g20 hk, mk_g21 hk, mk_g22 hk, l1, l2]
  · by_cases e : q' = q
    · subst e
      exact r2.1 i hi
    · exact r2.2 q' i (by omega) hi
