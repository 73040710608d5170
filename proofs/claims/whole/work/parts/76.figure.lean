/-! ===== figure ===== -/
theorem pc_n8 : ∀ m, m < 256 → pc_n m ≤ 8 := by decide +kernel
theorem pb_andnot {q c : Nat} (hq : q < 256) (hc : c < 256) : (nI q &&& (nI c ^^^ -nI 1) = nI 0) = (∀ i, q.testBit i = true → c.testBit i = true) := by
  have e1 : ∀ w, w < 2 ^ 31 → (nI w).toBitVec.toNat = w := fun w hw => Nat.mod_eq_of_lt (show w < 2 ^ 32 by omega)
  have e2 : (-nI 1).toBitVec.toNat = 2 ^ 32 - 1 := by decide
  have e3 : (nI q &&& (nI c ^^^ -nI 1)).toBitVec.toNat = q &&& (c ^^^ (2 ^ 32 - 1)) := by
    rw [Int32.toBitVec_and, BitVec.toNat_and, Int32.toBitVec_xor, BitVec.toNat_xor, e1 q (by omega), e1 c (by omega), e2]
  have hlow : ∀ i, q.testBit i = true → i < 8 := fun i h => by
    rcases Nat.lt_or_ge i 8 with c | c
    · exact c
    · rw [Nat.testBit_lt_two_pow (show q < 2 ^ i from Nat.lt_of_lt_of_le hq (Nat.pow_le_pow_right (n := 2) (by omega) c))] at h
      cases h
  apply propext
  constructor
  · intro h i hi
    have h0 : q &&& (c ^^^ (2 ^ 32 - 1)) = 0 := by
      rw [← e3, h]
      rfl
    have hb := congrArg (fun w => Nat.testBit w i) h0
    simp only [Nat.testBit_and, Nat.testBit_xor, Nat.testBit_two_pow_sub_one, Nat.zero_testBit, hi, Bool.true_and] at hb
    have := hlow i hi
    cases hc : c.testBit i with
    | true => rfl
    | false =>
      rw [hc] at hb
      simp at hb
      omega
  · intro h
    apply Int32.toBitVec_inj.mp
    apply BitVec.eq_of_toNat_eq
    rw [e3, e1 0 (by omega)]
    apply Nat.eq_of_testBit_eq
    intro i
    rw [Nat.testBit_and, Nat.testBit_xor, Nat.testBit_two_pow_sub_one, Nat.zero_testBit]
    cases hq : q.testBit i with
    | false => rfl
    | true =>
      have := hlow i hq
      rw [h i hq]
      simp
      omega
def zQ (a : List Int32) (k q : Nat) : Prop := ∃ s, s < k ∧ rB q s ∧ pv a (14 + s) = nI 0
noncomputable def fL (a : List Int32) (q s : Nat) : Nat → Int32
  | 0 => pI (rB q s) (nI 0) (pv a (14 + s))
  | t + 1 => pI (rB q t ∧ pv a (22 + t) = nI s) (fL a q s t + pv a (14 + t)) (fL a q s t)
noncomputable def fT (a : List Int32) (k q s : Nat) : Int32 := pI (((nI q ||| pv a 11) >>> nI s) &&& nI 1 = nI 1) (fL a q s k + pv a 0) (fL a q s k)
noncomputable def fC (a : List Int32) (k q : Nat) : Nat → Int32
  | 0 => nI 0
  | s + 1 => fC a k q s ||| (if fT a k q s < pv a 1 then nI 0 else nI 1 <<< nI s)
theorem cb_sweeps {N : Nat} {h0 h : ss_Hp} {T : List Nat} {a : List Int32} {fo x : Int32} {RS : List (List ru_C)} {US : List (List Int32)} {I : Nat → Option (List Int32 × Int32 × Int32)} {Z : Nat → List Int32} {k m d q : Nat} (hc : cb_h h0 h T a fo x RS US I Z) (hs : sd_ok a k m d) (ht : ¬ pv a 0 ≤ nI 0) (hN : 5000 < N) : ∃ h' Z', mm_P_closedBySweeping N (some 114) (nI q) h = some (pI (zQ a k q) (-nI 2) (fC a k q k), h') ∧ cb_h h0 h' T a fo x RS US I Z' := by
  have hk8 := hs.1.2.1.1
  have h2 := hs.1.2.1.2
  obtain ⟨v, ⟨⟨bV, bI, bT, bF, bD, bS, bH⟩, ⟨bR0, bR1, bR2, bR3, bR4⟩, ⟨bFo, bX, bNo⟩, ⟨bG0, bG1, bG2, bG3⟩, bOwn, bStr, bBes, bSn, bWl, bNd, bCl⟩⟩ := cb_r hc
  have hk := cb_ck hc
  have st1 : ∀ s h' Z', s < k → cb_h h0 h' T a fo x RS US I Z' → (rB q s ∧ pv a (14 + s) = nI 0 → mm_P_closedBySweeping_b13 N (some 114) (nI q) (nI k) (nI s, h') = some (.inr (.inr h'))) ∧ (¬ (rB q s ∧ pv a (14 + s) = nI 0) → ∃ h3, mm_P_closedBySweeping_b13 N (some 114) (nI q) (nI k) (nI s, h') = some (.inl (nI (s + 1), h3)) ∧ cb_h h0 h3 T a fo x RS US I (zs Z' 2 ((Z' 2).set s (fL a q s 0)))) := by
    intro s h' Z' hs' c
    obtain ⟨v, ⟨⟨bV, bI, bT, bF, bD, bS, bH⟩, ⟨bR0, bR1, bR2, bR3, bR4⟩, ⟨bFo, bX, bNo⟩, ⟨bG0, bG1, bG2, bG3⟩, bOwn, bStr, bBes, bSn, bWl, bNd, bCl⟩⟩ := cb_r c
    have ck := cb_ck c
    have hlt : ¬ nI k ≤ nI s := nI_ge hs' (by omega)
    have sn := bSn s (by omega)
    constructor
    · rintro ⟨c1, c2⟩
      have c1' : (nI q >>> nI s) &&& nI 1 = nI 1 := c1
      unfold mm_P_closedBySweeping_b13 mm_P_closedBySweeping_j32
      simp (disch := omega) only [pb_its, pb_l2, pb_ll, nI_add, pb_mul, if_true, if_false, pb_bs, pb_b2n, pb_bz0, pb_bz1, pb_10, pb_01, pb_i31, ck_is0 ck, ck_r0_0 ck, ck_r0_1 ck, ck_r0_2 ck, ck_r0_3 ck, ck_r0_4 ck, ck_r0_5 ck, ck_r0_6 ck, ck_r0_7 ck, ck_r0_8 ck, ck_r0_9 ck, ck_is1 ck, ck_r1_0 ck, ck_is3 ck, ck_r3_0 ck, ck_r3_1 ck, ck_is20 ck, ck_r20_0 ck, ck_r20_1 ck, ck_r20_2 ck, ck_is24 ck, ck_r24_1 ck, ck_r24_2 ck, ck_r24_3 ck, ck_r24_4 ck, ck_is33 ck, ck_r33_0 ck, ck_r33_1 ck, ck_is40 ck, ck_r40_0 ck, ck_is102 ck, ck_r102_0 ck, ck_r102_1 ck, ck_r102_2 ck, ck_r102_3 ck, ck_r102_4 ck, ck_r102_5 ck, ck_is103 ck, ck_r103_0 ck, ck_r103_1 ck, ck_is111 ck, ck_r111_0 ck, ck_r111_1 ck, ck_r111_2 ck, ck_r111_3 ck, ck_r111_4 ck, ck_is114 ck, ck_r114_0 ck, ck_r114_1 ck, ck_r114_2 ck, ck_r114_3 ck, ck_r114_4 ck, bV, bI, bT, bF, bD, bS, bH, bR0, bR1, bR2, bR3, bR4, bFo, bX, bNo, bG0, bG1, bG2, bG3, hlt, c1', sn, c2]
    · intro hn
      obtain ⟨h3, e3, c3⟩ := cb_y2 (i := s) (y := fL a q s 0) c (by omega)
      refine ⟨h3, ?_, c3⟩
      unfold mm_P_closedBySweeping_b13 mm_P_closedBySweeping_j32 mm_P_closedBySweeping_j57 mm_P_closedBySweeping_j83
      rw [fL] at e3
      by_cases c1 : rB q s
      · have c1' : (nI q >>> nI s) &&& nI 1 = nI 1 := c1
        have c2 : ¬ pv a (14 + s) = nI 0 := fun q => hn ⟨c1, q⟩
        rw [pI_t c1] at e3
        simp (disch := omega) only [pb_its, pb_l2, pb_ll, nI_add, pb_mul, if_true, if_false, pb_bs, pb_b2n, pb_bz0, pb_bz1, pb_10, pb_01, pb_i31, ck_is0 ck, ck_r0_0 ck, ck_r0_1 ck, ck_r0_2 ck, ck_r0_3 ck, ck_r0_4 ck, ck_r0_5 ck, ck_r0_6 ck, ck_r0_7 ck, ck_r0_8 ck, ck_r0_9 ck, ck_is1 ck, ck_r1_0 ck, ck_is3 ck, ck_r3_0 ck, ck_r3_1 ck, ck_is20 ck, ck_r20_0 ck, ck_r20_1 ck, ck_r20_2 ck, ck_is24 ck, ck_r24_1 ck, ck_r24_2 ck, ck_r24_3 ck, ck_r24_4 ck, ck_is33 ck, ck_r33_0 ck, ck_r33_1 ck, ck_is40 ck, ck_r40_0 ck, ck_is102 ck, ck_r102_0 ck, ck_r102_1 ck, ck_r102_2 ck, ck_r102_3 ck, ck_r102_4 ck, ck_r102_5 ck, ck_is103 ck, ck_r103_0 ck, ck_r103_1 ck, ck_is111 ck, ck_r111_0 ck, ck_r111_1 ck, ck_r111_2 ck, ck_r111_3 ck, ck_r111_4 ck, ck_is114 ck, ck_r114_0 ck, ck_r114_1 ck, ck_r114_2 ck, ck_r114_3 ck, ck_r114_4 ck, bV, bI, bT, bF, bD, bS, bH, bR0, bR1, bR2, bR3, bR4, bFo, bX, bNo, bG0, bG1, bG2, bG3, hlt, c1', sn, c2, e3]
      · have c1' : ¬ (nI q >>> nI s) &&& nI 1 = nI 1 := c1
        rw [pI_f c1] at e3
        simp (disch := omega) only [pb_its, pb_l2, pb_ll, nI_add, pb_mul, if_true, if_false, pb_bs, pb_b2n, pb_bz0, pb_bz1, pb_10, pb_01, pb_i31, ck_is0 ck, ck_r0_0 ck, ck_r0_1 ck, ck_r0_2 ck, ck_r0_3 ck, ck_r0_4 ck, ck_r0_5 ck, ck_r0_6 ck, ck_r0_7 ck, ck_r0_8 ck, ck_r0_9 ck, ck_is1 ck, ck_r1_0 ck, ck_is3 ck, ck_r3_0 ck, ck_r3_1 ck, ck_is20 ck, ck_r20_0 ck, ck_r20_1 ck, ck_r20_2 ck, ck_is24 ck, ck_r24_1 ck, ck_r24_2 ck, ck_r24_3 ck, ck_r24_4 ck, ck_is33 ck, ck_r33_0 ck, ck_r33_1 ck, ck_is40 ck, ck_r40_0 ck, ck_is102 ck, ck_r102_0 ck, ck_r102_1 ck, ck_r102_2 ck, ck_r102_3 ck, ck_r102_4 ck, ck_r102_5 ck, ck_is103 ck, ck_r103_0 ck, ck_r103_1 ck, ck_is111 ck, ck_r111_0 ck, ck_r111_1 ck, ck_r111_2 ck, ck_r111_3 ck, ck_r111_4 ck, ck_is114 ck, ck_r114_0 ck, ck_r114_1 ck, ck_r114_2 ck, ck_r114_3 ck, ck_r114_4 ck, bV, bI, bT, bF, bD, bS, bH, bR0, bR1, bR2, bR3, bR4, bFo, bX, bNo, bG0, bG1, bG2, bG3, hlt, c1', sn, e3]
  unfold mm_P_closedBySweeping
  rcases ex_least (fun s => rB q s ∧ pv a (14 + s) = nI 0) k with hno | ⟨s, s1, s2, s3⟩
  · have nz : ¬ zQ a k q := fun ⟨s, s1, s2⟩ => hno s s1 s2
    have key := pb_for (body := mm_P_closedBySweeping_b13 N (some 114) (nI q) (nI k)) k (fun i s => ∃ h' Z', s = (nI i, h') ∧ cb_h h0 h' T a fo x RS US I Z' ∧ ∀ s, s < i → pv (Z' 2) s = fL a q s 0) (fun e => ∃ h' Z', e = .inl h' ∧ cb_h h0 h' T a fo x RS US I Z' ∧ ∀ s, s < k → pv (Z' 2) s = fL a q s 0) (N := N) (s := (nI 0, h)) (by omega) ⟨h, Z, rfl, hc, fun s hs => by omega⟩ (by
      rintro i s hi ⟨h', Z', rfl, c, r⟩
      left
      obtain ⟨h3, e3, c3⟩ := (st1 i h' Z' hi c).2 (hno i hi)
      refine ⟨_, e3, h3, _, rfl, c3, fun s hs => ?_⟩
      have hl := (cb_len c).2.2.1
      rw [zs_eq, pv_set (by omega)]
      by_cases e : s = i
      · rw [if_pos e, e]
      · rw [if_neg e]
        exact r s (by omega)) (by
      rintro s ⟨h', Z', rfl, c, r⟩
      refine ⟨_, ?_, h', Z', rfl, c, r⟩
      unfold mm_P_closedBySweeping_b13
      simp (disch := omega) only [pb_its, pb_l2, pb_ll, nI_add, pb_mul, if_true, if_false, pb_bs, pb_b2n, pb_bz0, pb_bz1, pb_10, pb_01, pb_i31, nI_le (Nat.le_refl k) (by omega : k < 2 ^ 31)])
    obtain ⟨_, l1, h1, Z1, rfl, c1, r1⟩ := key
    have key := pb_for (body := mm_P_closedBySweeping_b92 N (some 114) (nI q) (nI k)) k (fun t s => ∃ h' Z', s = (nI t, h') ∧ cb_h h0 h' T a fo x RS US I Z' ∧ ∀ s, s < k → pv (Z' 2) s = fL a q s t) (fun e => ∃ Z', cb_h h0 e T a fo x RS US I Z' ∧ ∀ s, s < k → pv (Z' 2) s = fL a q s k) (N := N) (s := (nI 0, h1)) (by omega) ⟨h1, Z1, rfl, c1, r1⟩ (by
      rintro t s htk ⟨h', Z', rfl, c, r⟩
      left
      obtain ⟨v, ⟨⟨bV, bI, bT, bF, bD, bS, bH⟩, ⟨bR0, bR1, bR2, bR3, bR4⟩, ⟨bFo, bX, bNo⟩, ⟨bG0, bG1, bG2, bG3⟩, bOwn, bStr, bBes, bSn, bWl, bNd, bCl⟩⟩ := cb_r c
      have ck := cb_ck c
      have hlt : ¬ nI k ≤ nI t := nI_ge htk (by omega)
      have wl := bWl ht t (by omega)
      have sn := bSn t (by omega)
      have hl := (cb_len c).2.2.1
      by_cases cb : rB q t
      · have cb' : (nI q >>> nI t) &&& nI 1 = nI 1 := cb
        rcases sd_walls hs t htk with hw | ⟨w, hw1, hw⟩
        · rw [hw] at wl
          refine ⟨(nI (t + 1), h'), ?_, h', Z', rfl, c, fun s hs => ?_⟩
          · unfold mm_P_closedBySweeping_b92 mm_P_closedBySweeping_j148
            simp (disch := omega) only [pb_its, pb_l2, pb_ll, nI_add, pb_mul, if_true, if_false, pb_bs, pb_b2n, pb_bz0, pb_bz1, pb_10, pb_01, pb_i31, ck_is0 ck, ck_r0_0 ck, ck_r0_1 ck, ck_r0_2 ck, ck_r0_3 ck, ck_r0_4 ck, ck_r0_5 ck, ck_r0_6 ck, ck_r0_7 ck, ck_r0_8 ck, ck_r0_9 ck, ck_is1 ck, ck_r1_0 ck, ck_is3 ck, ck_r3_0 ck, ck_r3_1 ck, ck_is20 ck, ck_r20_0 ck, ck_r20_1 ck, ck_r20_2 ck, ck_is24 ck, ck_r24_1 ck, ck_r24_2 ck, ck_r24_3 ck, ck_r24_4 ck, ck_is33 ck, ck_r33_0 ck, ck_r33_1 ck, ck_is40 ck, ck_r40_0 ck, ck_is102 ck, ck_r102_0 ck, ck_r102_1 ck, ck_r102_2 ck, ck_r102_3 ck, ck_r102_4 ck, ck_r102_5 ck, ck_is103 ck, ck_r103_0 ck, ck_r103_1 ck, ck_is111 ck, ck_r111_0 ck, ck_r111_1 ck, ck_r111_2 ck, ck_r111_3 ck, ck_r111_4 ck, ck_is114 ck, ck_r114_0 ck, ck_r114_1 ck, ck_r114_2 ck, ck_r114_3 ck, ck_r114_4 ck, bV, bI, bT, bF, bD, bS, bH, bR0, bR1, bR2, bR3, bR4, bFo, bX, bNo, bG0, bG1, bG2, bG3, hlt, wl, cb']
          · rw [fL, pI_f (fun q => pb_m1n (show s < 2 ^ 31 by omega) (q.2.symm.trans hw))]
            exact r s hs
        · rw [hw] at wl
          have n1 : ¬ nI w = -nI 1 := pb_m1n (by omega)
          obtain ⟨h3, e3, c3⟩ := cb_y2 (i := w) (y := pv (Z' 2) w + pv a (14 + t)) c (by omega)
          refine ⟨(nI (t + 1), h3), ?_, h3, _, rfl, c3, fun s hs => ?_⟩
          · unfold mm_P_closedBySweeping_b92 mm_P_closedBySweeping_j148
            simp (disch := omega) only [pb_its, pb_l2, pb_ll, nI_add, pb_mul, if_true, if_false, pb_bs, pb_b2n, pb_bz0, pb_bz1, pb_10, pb_01, pb_i31, ck_is0 ck, ck_r0_0 ck, ck_r0_1 ck, ck_r0_2 ck, ck_r0_3 ck, ck_r0_4 ck, ck_r0_5 ck, ck_r0_6 ck, ck_r0_7 ck, ck_r0_8 ck, ck_r0_9 ck, ck_is1 ck, ck_r1_0 ck, ck_is3 ck, ck_r3_0 ck, ck_r3_1 ck, ck_is20 ck, ck_r20_0 ck, ck_r20_1 ck, ck_r20_2 ck, ck_is24 ck, ck_r24_1 ck, ck_r24_2 ck, ck_r24_3 ck, ck_r24_4 ck, ck_is33 ck, ck_r33_0 ck, ck_r33_1 ck, ck_is40 ck, ck_r40_0 ck, ck_is102 ck, ck_r102_0 ck, ck_r102_1 ck, ck_r102_2 ck, ck_r102_3 ck, ck_r102_4 ck, ck_r102_5 ck, ck_is103 ck, ck_r103_0 ck, ck_r103_1 ck, ck_is111 ck, ck_r111_0 ck, ck_r111_1 ck, ck_r111_2 ck, ck_r111_3 ck, ck_r111_4 ck, ck_is114 ck, ck_r114_0 ck, ck_r114_1 ck, ck_r114_2 ck, ck_r114_3 ck, ck_r114_4 ck, bV, bI, bT, bF, bD, bS, bH, bR0, bR1, bR2, bR3, bR4, bFo, bX, bNo, bG0, bG1, bG2, bG3, hlt, wl, cb', n1, cb_z2 c (show w < 8 by omega), sn, e3]
          · rw [zs_eq, pv_set (by omega), fL]
            by_cases e : s = w
            · rw [if_pos e, pI_t ⟨cb, by rw [e]; exact hw⟩, ← e, r s hs]
            · rw [if_neg e, pI_f (fun q => e ((nI_eq (by omega) (by omega)).mp (q.2.symm.trans hw))), r s hs]
      · have cb' : ¬ (nI q >>> nI t) &&& nI 1 = nI 1 := cb
        refine ⟨(nI (t + 1), h'), ?_, h', Z', rfl, c, fun s hs => ?_⟩
        · unfold mm_P_closedBySweeping_b92 mm_P_closedBySweeping_j148
          simp (disch := omega) only [pb_its, pb_l2, pb_ll, nI_add, pb_mul, if_true, if_false, pb_bs, pb_b2n, pb_bz0, pb_bz1, pb_10, pb_01, pb_i31, ck_is0 ck, ck_r0_0 ck, ck_r0_1 ck, ck_r0_2 ck, ck_r0_3 ck, ck_r0_4 ck, ck_r0_5 ck, ck_r0_6 ck, ck_r0_7 ck, ck_r0_8 ck, ck_r0_9 ck, ck_is1 ck, ck_r1_0 ck, ck_is3 ck, ck_r3_0 ck, ck_r3_1 ck, ck_is20 ck, ck_r20_0 ck, ck_r20_1 ck, ck_r20_2 ck, ck_is24 ck, ck_r24_1 ck, ck_r24_2 ck, ck_r24_3 ck, ck_r24_4 ck, ck_is33 ck, ck_r33_0 ck, ck_r33_1 ck, ck_is40 ck, ck_r40_0 ck, ck_is102 ck, ck_r102_0 ck, ck_r102_1 ck, ck_r102_2 ck, ck_r102_3 ck, ck_r102_4 ck, ck_r102_5 ck, ck_is103 ck, ck_r103_0 ck, ck_r103_1 ck, ck_is111 ck, ck_r111_0 ck, ck_r111_1 ck, ck_r111_2 ck, ck_r111_3 ck, ck_r111_4 ck, ck_is114 ck, ck_r114_0 ck, ck_r114_1 ck, ck_r114_2 ck, ck_r114_3 ck, ck_r114_4 ck, bV, bI, bT, bF, bD, bS, bH, bR0, bR1, bR2, bR3, bR4, bFo, bX, bNo, bG0, bG1, bG2, bG3, hlt, wl, cb']
        · rw [fL, pI_f (fun q => cb q.1)]
          exact r s hs) (by
      rintro s ⟨h', Z', rfl, c, r⟩
      refine ⟨h', ?_, Z', c, r⟩
      unfold mm_P_closedBySweeping_b92
      simp (disch := omega) only [pb_its, pb_l2, pb_ll, nI_add, pb_mul, if_true, if_false, pb_bs, pb_b2n, pb_bz0, pb_bz1, pb_10, pb_01, pb_i31, nI_le (Nat.le_refl k) (by omega : k < 2 ^ 31)])
    obtain ⟨h3, l2, Z3, c3, r3⟩ := key
    obtain ⟨v3, ⟨⟨bVx, bIx, bTx, bFx, bDx, bSx, bHx⟩, ⟨bR0x, bR1x, bR2x, bR3x, bR4x⟩, ⟨bFox, bXx, bNox⟩, ⟨bG0x, bG1x, bG2x, bG3x⟩, bOwnx, bStrx, bBesx, bSnx, bWlx, bNdx, bClx⟩⟩ := cb_r c3
    have k3 := cb_ck c3
    have l3 : ss_lp (mm_P_closedBySweeping_b173 N (some 114) (nI k) (nI q ||| pv a 11) h3) N (nI 0, nI 0) = some (fC a k q k) := by
      refine pb_lp (fun s => (fC a k q s, nI s)) k (by omega) (fun s hs' => ?_) ?_
      · have hlt : ¬ nI k ≤ nI s := nI_ge hs' (by omega)
        have z2 := cb_z2 c3 (show s < 8 by omega)
        rw [r3 s hs'] at z2
        have et : fL a q s k + (((nI q ||| pv a 11) >>> nI s) &&& nI 1) * pv a 0 = fT a k q s := by
          unfold fT
          rcases pb_and1 ((nI q ||| pv a 11) >>> nI s) with c | c
          · rw [c, pI_f (by rw [pb_01]; exact id)]
            have : nI 0 * pv a 0 = nI 0 := Int32.zero_mul
            rw [this]
            exact Int32.add_zero _
          · rw [c, pI_t rfl]
            have : nI 1 * pv a 0 = pv a 0 := Int32.one_mul _
            rw [this]
        unfold mm_P_closedBySweeping_b173 mm_P_closedBySweeping_j231
        rw [fC]
        by_cases c : fT a k q s < pv a 1
        · simp (disch := omega) only [pb_its, pb_l2, pb_ll, nI_add, pb_mul, if_true, if_false, pb_bs, pb_b2n, pb_bz0, pb_bz1, pb_10, pb_01, pb_i31, ck_is0 k3, ck_r0_0 k3, ck_r0_1 k3, ck_r0_2 k3, ck_r0_3 k3, ck_r0_4 k3, ck_r0_5 k3, ck_r0_6 k3, ck_r0_7 k3, ck_r0_8 k3, ck_r0_9 k3, ck_is1 k3, ck_r1_0 k3, ck_is3 k3, ck_r3_0 k3, ck_r3_1 k3, ck_is20 k3, ck_r20_0 k3, ck_r20_1 k3, ck_r20_2 k3, ck_is24 k3, ck_r24_1 k3, ck_r24_2 k3, ck_r24_3 k3, ck_r24_4 k3, ck_is33 k3, ck_r33_0 k3, ck_r33_1 k3, ck_is40 k3, ck_r40_0 k3, ck_is102 k3, ck_r102_0 k3, ck_r102_1 k3, ck_r102_2 k3, ck_r102_3 k3, ck_r102_4 k3, ck_r102_5 k3, ck_is103 k3, ck_r103_0 k3, ck_r103_1 k3, ck_is111 k3, ck_r111_0 k3, ck_r111_1 k3, ck_r111_2 k3, ck_r111_3 k3, ck_r111_4 k3, ck_is114 k3, ck_r114_0 k3, ck_r114_1 k3, ck_r114_2 k3, ck_r114_3 k3, ck_r114_4 k3, bVx, bIx, bTx, bFx, bDx, bSx, bHx, bR0x, bR1x, bR2x, bR3x, bR4x, bFox, bXx, bNox, bG0x, bG1x, bG2x, bG3x, hlt, z2, et, c]
        · simp (disch := omega) only [pb_its, pb_l2, pb_ll, nI_add, pb_mul, if_true, if_false, pb_bs, pb_b2n, pb_bz0, pb_bz1, pb_10, pb_01, pb_i31, ck_is0 k3, ck_r0_0 k3, ck_r0_1 k3, ck_r0_2 k3, ck_r0_3 k3, ck_r0_4 k3, ck_r0_5 k3, ck_r0_6 k3, ck_r0_7 k3, ck_r0_8 k3, ck_r0_9 k3, ck_is1 k3, ck_r1_0 k3, ck_is3 k3, ck_r3_0 k3, ck_r3_1 k3, ck_is20 k3, ck_r20_0 k3, ck_r20_1 k3, ck_r20_2 k3, ck_is24 k3, ck_r24_1 k3, ck_r24_2 k3, ck_r24_3 k3, ck_r24_4 k3, ck_is33 k3, ck_r33_0 k3, ck_r33_1 k3, ck_is40 k3, ck_r40_0 k3, ck_is102 k3, ck_r102_0 k3, ck_r102_1 k3, ck_r102_2 k3, ck_r102_3 k3, ck_r102_4 k3, ck_r102_5 k3, ck_is103 k3, ck_r103_0 k3, ck_r103_1 k3, ck_is111 k3, ck_r111_0 k3, ck_r111_1 k3, ck_r111_2 k3, ck_r111_3 k3, ck_r111_4 k3, ck_is114 k3, ck_r114_0 k3, ck_r114_1 k3, ck_r114_2 k3, ck_r114_3 k3, ck_r114_4 k3, bVx, bIx, bTx, bFx, bDx, bSx, bHx, bR0x, bR1x, bR2x, bR3x, bR4x, bFox, bXx, bNox, bG0x, bG1x, bG2x, bG3x, hlt, z2, et, c]
      · unfold mm_P_closedBySweeping_b173
        simp (disch := omega) only [pb_its, pb_l2, pb_ll, nI_add, pb_mul, if_true, if_false, pb_bs, pb_b2n, pb_bz0, pb_bz1, pb_10, pb_01, pb_i31, nI_le (Nat.le_refl k) (by omega : k < 2 ^ 31)]
    refine ⟨h3, Z3, ?_, c3⟩
    rw [pI_f nz]
    simp (disch := omega) only [pb_its, pb_l2, pb_ll, nI_add, pb_mul, if_true, if_false, pb_bs, pb_b2n, pb_bz0, pb_bz1, pb_10, pb_01, pb_i31, ck_is0 hk, ck_r0_0 hk, ck_r0_1 hk, ck_r0_2 hk, ck_r0_3 hk, ck_r0_4 hk, ck_r0_5 hk, ck_r0_6 hk, ck_r0_7 hk, ck_r0_8 hk, ck_r0_9 hk, ck_is1 hk, ck_r1_0 hk, ck_is3 hk, ck_r3_0 hk, ck_r3_1 hk, ck_is20 hk, ck_r20_0 hk, ck_r20_1 hk, ck_r20_2 hk, ck_is24 hk, ck_r24_1 hk, ck_r24_2 hk, ck_r24_3 hk, ck_r24_4 hk, ck_is33 hk, ck_r33_0 hk, ck_r33_1 hk, ck_is40 hk, ck_r40_0 hk, ck_is102 hk, ck_r102_0 hk, ck_r102_1 hk, ck_r102_2 hk, ck_r102_3 hk, ck_r102_4 hk, ck_r102_5 hk, ck_is103 hk, ck_r103_0 hk, ck_r103_1 hk, ck_is111 hk, ck_r111_0 hk, ck_r111_1 hk, ck_r111_2 hk, ck_r111_3 hk, ck_r111_4 hk, ck_is114 hk, ck_r114_0 hk, ck_r114_1 hk, ck_r114_2 hk, ck_r114_3 hk, ck_r114_4 hk, bV, bI, bT, bF, bD, bS, bH, bR0, bR1, bR2, bR3, bR4, bFo, bX, bNo, bG0, bG1, bG2, bG3, h2, l1, l2, ck_is0 k3, ck_r0_0 k3, ck_r0_1 k3, ck_r0_2 k3, ck_r0_3 k3, ck_r0_4 k3, ck_r0_5 k3, ck_r0_6 k3, ck_r0_7 k3, ck_r0_8 k3, ck_r0_9 k3, ck_is1 k3, ck_r1_0 k3, ck_is3 k3, ck_r3_0 k3, ck_r3_1 k3, ck_is20 k3, ck_r20_0 k3, ck_r20_1 k3, ck_r20_2 k3, ck_is24 k3, ck_r24_1 k3, ck_r24_2 k3, ck_r24_3 k3, ck_r24_4 k3, ck_is33 k3, ck_r33_0 k3, ck_r33_1 k3, ck_is40 k3, ck_r40_0 k3, ck_is102 k3, ck_r102_0 k3, ck_r102_1 k3, ck_r102_2 k3, ck_r102_3 k3, ck_r102_4 k3, ck_r102_5 k3, ck_is103 k3, ck_r103_0 k3, ck_r103_1 k3, ck_is111 k3, ck_r111_0 k3, ck_r111_1 k3, ck_r111_2 k3, ck_r111_3 k3, ck_r111_4 k3, ck_is114 k3, ck_r114_0 k3, ck_r114_1 k3, ck_r114_2 k3, ck_r114_3 k3, ck_r114_4 k3, bVx, bIx, bTx, bFx, bDx, bSx, bHx, bR0x, bR1x, bR2x, bR3x, bR4x, bFox, bXx, bNox, bG0x, bG1x, bG2x, bG3x, l3]
  · have nz : zQ a k q := ⟨s, s1, s2⟩
    have key := pb_for (body := mm_P_closedBySweeping_b13 N (some 114) (nI q) (nI k)) s (fun i s => ∃ h' Z', s = (nI i, h') ∧ cb_h h0 h' T a fo x RS US I Z') (fun e => ∃ h' Z', e = .inr h' ∧ cb_h h0 h' T a fo x RS US I Z') (N := N) (s := (nI 0, h)) (by omega) ⟨h, Z, rfl, hc⟩ (by
      rintro i s' hi ⟨h', Z', rfl, c⟩
      left
      obtain ⟨h3, e3, c3⟩ := (st1 i h' Z' (by omega) c).2 (s3 i hi)
      exact ⟨_, e3, h3, _, rfl, c3⟩) (by
      rintro s' ⟨h', Z', rfl, c⟩
      exact ⟨_, (st1 s h' Z' s1 c).1 s2, h', Z', rfl, c⟩)
    obtain ⟨_, l1, h1, Z1, rfl, c1⟩ := key
    refine ⟨h1, Z1, ?_, c1⟩
    rw [pI_t nz]
    simp (disch := omega) only [pb_its, pb_l2, pb_ll, nI_add, pb_mul, if_true, if_false, pb_bs, pb_b2n, pb_bz0, pb_bz1, pb_10, pb_01, pb_i31, ck_is0 hk, ck_r0_0 hk, ck_r0_1 hk, ck_r0_2 hk, ck_r0_3 hk, ck_r0_4 hk, ck_r0_5 hk, ck_r0_6 hk, ck_r0_7 hk, ck_r0_8 hk, ck_r0_9 hk, ck_is1 hk, ck_r1_0 hk, ck_is3 hk, ck_r3_0 hk, ck_r3_1 hk, ck_is20 hk, ck_r20_0 hk, ck_r20_1 hk, ck_r20_2 hk, ck_is24 hk, ck_r24_1 hk, ck_r24_2 hk, ck_r24_3 hk, ck_r24_4 hk, ck_is33 hk, ck_r33_0 hk, ck_r33_1 hk, ck_is40 hk, ck_r40_0 hk, ck_is102 hk, ck_r102_0 hk, ck_r102_1 hk, ck_r102_2 hk, ck_r102_3 hk, ck_r102_4 hk, ck_r102_5 hk, ck_is103 hk, ck_r103_0 hk, ck_r103_1 hk, ck_is111 hk, ck_r111_0 hk, ck_r111_1 hk, ck_r111_2 hk, ck_r111_3 hk, ck_r111_4 hk, ck_is114 hk, ck_r114_0 hk, ck_r114_1 hk, ck_r114_2 hk, ck_r114_3 hk, ck_r114_4 hk, bV, bI, bT, bF, bD, bS, bH, bR0, bR1, bR2, bR3, bR4, bFo, bX, bNo, bG0, bG1, bG2, bG3, h2, l1]
theorem mb_closedBy {N : Nat} {h0 h : ss_Hp} {T : List Nat} {a : List Int32} {fo x : Int32} {RS : List (List ru_C)} {US : List (List Int32)} {I : Nat → Option (List Int32 × Int32 × Int32)} {th2 fa2 kp2 : List Int32} {dx2 : Int64} {Z : Nat → List Int32} {k m d q : Nat} (hc : mb_h h0 h T a fo x RS US I fo a th2 fa2 kp2 dx2 Z) (hs : sd_ok a k m d) (hN : 5000 < N) : mm_M_closedBy N (some 118) (nI q) h = some (fC a k q k) := by
  have hk8 := hs.1.2.1.1
  have h2 := hs.1.2.1.2
  have hl := hs.1.1
  have hk := mb_mk hc
  have sa := fun i (hi : i < 124) => mb_said hc hl hi
  have s2 := sa 2 (by omega)
  rw [h2] at s2
  have inn : ∀ s (x2 : Int32), s < k → ss_lp (mm_M_closedBy_b40 N (some 118) (nI q) x2 (nI s) h) N (fL a q s 0, nI 0) = some (fL a q s k) := by
    intro s x2 hs'
    refine pb_lp (fun t => (fL a q s t, nI t)) k (by omega) (fun t ht => ?_) ?_
    · have hlt : ¬ nI k ≤ nI t := nI_ge ht (by omega)
      have io := po_isOf (N := N) (a1 := nI q) (show t < 32 by omega)
      have zr : fL a q s t + nI 0 = fL a q s t := Int32.add_zero _
      unfold mm_M_closedBy_b40 mm_M_closedBy_j89 mm_M_closedBy_j90
      rw [fL]
      by_cases cb : rB q t
      · rw [if_pos (show (nI q >>> nI t) &&& nI 1 = nI 1 from cb)] at io
        by_cases cw : pv a (22 + t) = nI s
        · rw [pI_t ⟨cb, cw⟩]
          simp (disch := omega) only [pb_its, pb_l2, pb_ll, nI_add, pb_mul, if_true, if_false, pb_bs, pb_b2n, pb_bz0, pb_bz1, pb_10, pb_01, pb_i31, mk_is hk, mk_g0 hk, mk_g1 hk, mk_g2 hk, mk_g3 hk, mk_g4 hk, mk_g5 hk, mk_g6 hk, mk_g7 hk, mk_g8 hk, mk_g9 hk, mk_g10 hk, mk_g11 hk, mk_g12 hk, mk_g13 hk, mk_g14 hk, mk_g15 hk, mk_g16 hk, mk_g17 hk, mk_g18 hk, mk_g19 hk, mk_g20 hk, mk_g21 hk, mk_g22 hk, s2, hlt, io, sa (22 + t) (by omega), cw, sa (14 + t) (by omega)]
        · rw [pI_f (fun q => cw q.2)]
          simp (disch := omega) only [pb_its, pb_l2, pb_ll, nI_add, pb_mul, if_true, if_false, pb_bs, pb_b2n, pb_bz0, pb_bz1, pb_10, pb_01, pb_i31, mk_is hk, mk_g0 hk, mk_g1 hk, mk_g2 hk, mk_g3 hk, mk_g4 hk, mk_g5 hk, mk_g6 hk, mk_g7 hk, mk_g8 hk, mk_g9 hk, mk_g10 hk, mk_g11 hk, mk_g12 hk, mk_g13 hk, mk_g14 hk, mk_g15 hk, mk_g16 hk, mk_g17 hk, mk_g18 hk, mk_g19 hk, mk_g20 hk, mk_g21 hk, mk_g22 hk, s2, hlt, io, sa (22 + t) (by omega), cw, zr]
      · rw [if_neg (show ¬ (nI q >>> nI t) &&& nI 1 = nI 1 from cb)] at io
        rw [pI_f (fun q => cb q.1)]
        simp (disch := omega) only [pb_its, pb_l2, pb_ll, nI_add, pb_mul, if_true, if_false, pb_bs, pb_b2n, pb_bz0, pb_bz1, pb_10, pb_01, pb_i31, mk_is hk, mk_g0 hk, mk_g1 hk, mk_g2 hk, mk_g3 hk, mk_g4 hk, mk_g5 hk, mk_g6 hk, mk_g7 hk, mk_g8 hk, mk_g9 hk, mk_g10 hk, mk_g11 hk, mk_g12 hk, mk_g13 hk, mk_g14 hk, mk_g15 hk, mk_g16 hk, mk_g17 hk, mk_g18 hk, mk_g19 hk, mk_g20 hk, mk_g21 hk, mk_g22 hk, s2, hlt, io, zr]
    · unfold mm_M_closedBy_b40
      simp (disch := omega) only [pb_its, pb_l2, pb_ll, nI_add, pb_mul, if_true, if_false, pb_bs, pb_b2n, pb_bz0, pb_bz1, pb_10, pb_01, pb_i31, mk_is hk, mk_g0 hk, mk_g1 hk, mk_g2 hk, mk_g3 hk, mk_g4 hk, mk_g5 hk, mk_g6 hk, mk_g7 hk, mk_g8 hk, mk_g9 hk, mk_g10 hk, mk_g11 hk, mk_g12 hk, mk_g13 hk, mk_g14 hk, mk_g15 hk, mk_g16 hk, mk_g17 hk, mk_g18 hk, mk_g19 hk, mk_g20 hk, mk_g21 hk, mk_g22 hk, s2, nI_le (Nat.le_refl k) (by omega : k < 2 ^ 31)]
  have out : ss_lp (mm_M_closedBy_b4 N (some 118) (nI q) h) N (nI 0, nI 0) = some (fC a k q k) := by
    refine pb_lp (fun s => (fC a k q s, nI s)) k (by omega) (fun s hs' => ?_) ?_
    · have hlt : ¬ nI k ≤ nI s := nI_ge hs' (by omega)
      have io := po_isOf (N := N) (a1 := nI q) (show s < 32 by omega)
      have io2 := po_isOf (N := N) (a1 := nI q ||| pv a 11) (show s < 32 by omega)
      have j35 : ∀ x2 : Int32, mm_M_closedBy_j35 N (some 118) (nI q) h x2 (nI s) (fL a q s 0) = some (.inl (x2 ||| (if fT a k q s < pv a 1 then nI 0 else nI 1 <<< nI s), nI (s + 1))) := by
        intro x2
        have i1 := inn s x2 hs'
        unfold mm_M_closedBy_j35 mm_M_closedBy_j126 mm_M_closedBy_j145
        by_cases c : ((nI q ||| pv a 11) >>> nI s) &&& nI 1 = nI 1
        · rw [if_pos c] at io2
          have et : fL a q s k + pv a 0 = fT a k q s := by unfold fT; rw [pI_t c]
          by_cases c2 : fT a k q s < pv a 1
          · simp (disch := omega) only [pb_its, pb_l2, pb_ll, nI_add, pb_mul, if_true, if_false, pb_bs, pb_b2n, pb_bz0, pb_bz1, pb_10, pb_01, pb_i31, mk_is hk, mk_g0 hk, mk_g1 hk, mk_g2 hk, mk_g3 hk, mk_g4 hk, mk_g5 hk, mk_g6 hk, mk_g7 hk, mk_g8 hk, mk_g9 hk, mk_g10 hk, mk_g11 hk, mk_g12 hk, mk_g13 hk, mk_g14 hk, mk_g15 hk, mk_g16 hk, mk_g17 hk, mk_g18 hk, mk_g19 hk, mk_g20 hk, mk_g21 hk, mk_g22 hk, i1, sa 11 (by omega), io2, sa 0 (by omega), et, sa 1 (by omega), c2]
          · simp (disch := omega) only [pb_its, pb_l2, pb_ll, nI_add, pb_mul, if_true, if_false, pb_bs, pb_b2n, pb_bz0, pb_bz1, pb_10, pb_01, pb_i31, mk_is hk, mk_g0 hk, mk_g1 hk, mk_g2 hk, mk_g3 hk, mk_g4 hk, mk_g5 hk, mk_g6 hk, mk_g7 hk, mk_g8 hk, mk_g9 hk, mk_g10 hk, mk_g11 hk, mk_g12 hk, mk_g13 hk, mk_g14 hk, mk_g15 hk, mk_g16 hk, mk_g17 hk, mk_g18 hk, mk_g19 hk, mk_g20 hk, mk_g21 hk, mk_g22 hk, i1, sa 11 (by omega), io2, sa 0 (by omega), et, sa 1 (by omega), c2]
        · rw [if_neg c] at io2
          have et : fL a q s k = fT a k q s := by unfold fT; rw [pI_f c]
          by_cases c2 : fT a k q s < pv a 1
          · simp (disch := omega) only [pb_its, pb_l2, pb_ll, nI_add, pb_mul, if_true, if_false, pb_bs, pb_b2n, pb_bz0, pb_bz1, pb_10, pb_01, pb_i31, mk_is hk, mk_g0 hk, mk_g1 hk, mk_g2 hk, mk_g3 hk, mk_g4 hk, mk_g5 hk, mk_g6 hk, mk_g7 hk, mk_g8 hk, mk_g9 hk, mk_g10 hk, mk_g11 hk, mk_g12 hk, mk_g13 hk, mk_g14 hk, mk_g15 hk, mk_g16 hk, mk_g17 hk, mk_g18 hk, mk_g19 hk, mk_g20 hk, mk_g21 hk, mk_g22 hk, i1, sa 11 (by omega), io2, et, sa 1 (by omega), c2]
          · simp (disch := omega) only [pb_its, pb_l2, pb_ll, nI_add, pb_mul, if_true, if_false, pb_bs, pb_b2n, pb_bz0, pb_bz1, pb_10, pb_01, pb_i31, mk_is hk, mk_g0 hk, mk_g1 hk, mk_g2 hk, mk_g3 hk, mk_g4 hk, mk_g5 hk, mk_g6 hk, mk_g7 hk, mk_g8 hk, mk_g9 hk, mk_g10 hk, mk_g11 hk, mk_g12 hk, mk_g13 hk, mk_g14 hk, mk_g15 hk, mk_g16 hk, mk_g17 hk, mk_g18 hk, mk_g19 hk, mk_g20 hk, mk_g21 hk, mk_g22 hk, i1, sa 11 (by omega), io2, et, sa 1 (by omega), c2]
      have j := j35 (fC a k q s)
      unfold mm_M_closedBy_b4
      rw [fC]
      rw [fL] at j
      by_cases cb : rB q s
      · rw [if_pos (show (nI q >>> nI s) &&& nI 1 = nI 1 from cb)] at io
        rw [pI_t cb] at j
        simp (disch := omega) only [pb_its, pb_l2, pb_ll, nI_add, pb_mul, if_true, if_false, pb_bs, pb_b2n, pb_bz0, pb_bz1, pb_10, pb_01, pb_i31, mk_is hk, mk_g0 hk, mk_g1 hk, mk_g2 hk, mk_g3 hk, mk_g4 hk, mk_g5 hk, mk_g6 hk, mk_g7 hk, mk_g8 hk, mk_g9 hk, mk_g10 hk, mk_g11 hk, mk_g12 hk, mk_g13 hk, mk_g14 hk, mk_g15 hk, mk_g16 hk, mk_g17 hk, mk_g18 hk, mk_g19 hk, mk_g20 hk, mk_g21 hk, mk_g22 hk, s2, hlt, io, j]
      · rw [if_neg (show ¬ (nI q >>> nI s) &&& nI 1 = nI 1 from cb)] at io
        rw [pI_f cb] at j
        simp (disch := omega) only [pb_its, pb_l2, pb_ll, nI_add, pb_mul, if_true, if_false, pb_bs, pb_b2n, pb_bz0, pb_bz1, pb_10, pb_01, pb_i31, mk_is hk, mk_g0 hk, mk_g1 hk, mk_g2 hk, mk_g3 hk, mk_g4 hk, mk_g5 hk, mk_g6 hk, mk_g7 hk, mk_g8 hk, mk_g9 hk, mk_g10 hk, mk_g11 hk, mk_g12 hk, mk_g13 hk, mk_g14 hk, mk_g15 hk, mk_g16 hk, mk_g17 hk, mk_g18 hk, mk_g19 hk, mk_g20 hk, mk_g21 hk, mk_g22 hk, s2, hlt, io, sa (14 + s) (by omega), j]
    · unfold mm_M_closedBy_b4
      simp (disch := omega) only [pb_its, pb_l2, pb_ll, nI_add, pb_mul, if_true, if_false, pb_bs, pb_b2n, pb_bz0, pb_bz1, pb_10, pb_01, pb_i31, mk_is hk, mk_g0 hk, mk_g1 hk, mk_g2 hk, mk_g3 hk, mk_g4 hk, mk_g5 hk, mk_g6 hk, mk_g7 hk, mk_g8 hk, mk_g9 hk, mk_g10 hk, mk_g11 hk, mk_g12 hk, mk_g13 hk, mk_g14 hk, mk_g15 hk, mk_g16 hk, mk_g17 hk, mk_g18 hk, mk_g19 hk, mk_g20 hk, mk_g21 hk, mk_g22 hk, s2, nI_le (Nat.le_refl k) (by omega : k < 2 ^ 31)]
  unfold mm_M_closedBy
  simp (disch := omega) only [pb_its, pb_l2, pb_ll, nI_add, pb_mul, if_true, if_false, pb_bs, pb_b2n, pb_bz0, pb_bz1, pb_10, pb_01, pb_i31, mk_is hk, mk_g0 hk, mk_g1 hk, mk_g2 hk, mk_g3 hk, mk_g4 hk, mk_g5 hk, mk_g6 hk, mk_g7 hk, mk_g8 hk, mk_g9 hk, mk_g10 hk, mk_g11 hk, mk_g12 hk, mk_g13 hk, mk_g14 hk, mk_g15 hk, mk_g16 hk, mk_g17 hk, mk_g18 hk, mk_g19 hk, mk_g20 hk, mk_g21 hk, mk_g22 hk, out]
noncomputable def cN (a : List Int32) : Nat → Nat
  | 0 => 0
  | s + 1 => pI (pv a (14 + s) = nI 0) (cN a s) (cN a s ||| 2 ^ s)
theorem cN_s (a : List Int32) : ∀ s, cN a s < 2 ^ s ∧ ∀ i, i < s → ((cN a s).testBit i = true ↔ ¬ pv a (14 + i) = nI 0) := by
  intro s
  induction s with
  | zero => exact ⟨by show 0 < 1; omega, fun i hi => by omega⟩
  | succ s ih =>
    obtain ⟨g1, g2⟩ := ih
    have hp : 2 ^ s < 2 ^ (s + 1) := Nat.pow_lt_pow_right (by omega) (by omega)
    rw [cN]
    by_cases c : pv a (14 + s) = nI 0
    · rw [pI_t c]
      refine ⟨by omega, fun i hi => ?_⟩
      by_cases e : i = s
      · subst e
        rw [Nat.testBit_lt_two_pow g1]
        exact ⟨(fun h => by cases h), fun h => absurd c h⟩
      · exact g2 i (by omega)
    · rw [pI_f c]
      refine ⟨Nat.or_lt_two_pow (by omega) hp, fun i hi => ?_⟩
      rw [Nat.testBit_or, Nat.testBit_two_pow]
      by_cases e : i = s
      · subst e
        simp [c]
      · have := g2 i (by omega)
        rw [← this]
        have : ¬ s = i := fun q => e q.symm
        simp [this]
theorem jx_figure {N : Nat} {h h2 : ss_Hp} {y w : Int32} {T : List Nat} {a : List Int32} {fo x : Int32} {RS : List (List ru_C)} {US : List (List Int32)} {I : Nat → Option (List Int32 × Int32 × Int32)} (hc : cl_h h T a fo x RS US I) (hm : mo_h h2 T a fo x RS US I) (ha : as_ok T a fo x RS US I) (hN : 5000 < N) : ∃ r h' Z', mm_S_figure N (some 0) y w h = some (r, h') ∧ cb_h h h' T a fo x RS US I Z' ∧ mm_M_figure N (some 118) y w h2 = some r := by
  obtain ⟨Z, hb⟩ := cb_of hc
  obtain ⟨v, ⟨⟨bV, bI, bT, bF, bD, bS, bH⟩, ⟨bR0, bR1, bR2, bR3, bR4⟩, ⟨bFo, bX, bNo⟩, ⟨bG0, bG1, bG2, bG3⟩, bOwn, bStr, bBes, bSn, bWl, bNd, bCl⟩⟩ := cb_r hb
  have hk := cb_ck hb
  obtain ⟨th, fa, kp, dx, Y, hm1⟩ := mb_of hm
  have hk2 := mb_mk hm1
  have ha0 := ha
  obtain ⟨⟨Ht1, Ht2⟩, ⟨k, m, d, Hsd, Hul, Hu⟩, HRS, Hfo, Hx, HI⟩ := ha
  have Hok := Hsd.1
  obtain ⟨Hl, ⟨Hk, H2⟩, ⟨Hm, H3⟩, ⟨Hd, H10⟩, Hwl, Hbe, How⟩ := Hok
  have key0 : ∀ r, mm_S_figure N (some 0) y w h = some (r, h) → mm_M_figure N (some 118) y w h2 = some r → ∃ r h' Z', mm_S_figure N (some 0) y w h = some (r, h') ∧ cb_h h h' T a fo x RS US I Z' ∧ mm_M_figure N (some 118) y w h2 = some r := fun r e1 e2 => ⟨r, h, Z, e1, hb, e2⟩
  by_cases ht : pv a 0 ≤ nI 0
  · have t0 : sa_told a = nI 0 := if_pos ht
    refine key0 (-nI 1) ?_ ?_
    · unfold mm_S_figure mm_S_figure_j44
      simp (disch := omega) only [pb_its, pb_l2, pb_ll, nI_add, pb_mul, if_true, if_false, pb_bs, pb_b2n, pb_bz0, pb_bz1, pb_10, pb_01, pb_i31, ck_is0 hk, ck_r0_0 hk, ck_r0_1 hk, ck_r0_2 hk, ck_r0_3 hk, ck_r0_4 hk, ck_r0_5 hk, ck_r0_6 hk, ck_r0_7 hk, ck_r0_8 hk, ck_r0_9 hk, ck_is1 hk, ck_r1_0 hk, ck_is3 hk, ck_r3_0 hk, ck_r3_1 hk, ck_is20 hk, ck_r20_0 hk, ck_r20_1 hk, ck_r20_2 hk, ck_is24 hk, ck_r24_1 hk, ck_r24_2 hk, ck_r24_3 hk, ck_r24_4 hk, ck_is33 hk, ck_r33_0 hk, ck_r33_1 hk, ck_is40 hk, ck_r40_0 hk, ck_is102 hk, ck_r102_0 hk, ck_r102_1 hk, ck_r102_2 hk, ck_r102_3 hk, ck_r102_4 hk, ck_r102_5 hk, ck_is103 hk, ck_r103_0 hk, ck_r103_1 hk, ck_is111 hk, ck_r111_0 hk, ck_r111_1 hk, ck_r111_2 hk, ck_r111_3 hk, ck_r111_4 hk, ck_is114 hk, ck_r114_0 hk, ck_r114_1 hk, ck_r114_2 hk, ck_r114_3 hk, ck_r114_4 hk, bV, bI, bT, bF, bD, bS, bH, bR0, bR1, bR2, bR3, bR4, bFo, bX, bNo, bG0, bG1, bG2, bG3, t0]
    · unfold mm_M_figure mm_M_figure_j33
      simp (disch := omega) only [pb_its, pb_l2, pb_ll, nI_add, pb_mul, if_true, if_false, pb_bs, pb_b2n, pb_bz0, pb_bz1, pb_10, pb_01, pb_i31, mk_is hk2, mk_g0 hk2, mk_g1 hk2, mk_g2 hk2, mk_g3 hk2, mk_g4 hk2, mk_g5 hk2, mk_g6 hk2, mk_g7 hk2, mk_g8 hk2, mk_g9 hk2, mk_g10 hk2, mk_g11 hk2, mk_g12 hk2, mk_g13 hk2, mk_g14 hk2, mk_g15 hk2, mk_g16 hk2, mk_g17 hk2, mk_g18 hk2, mk_g19 hk2, mk_g20 hk2, mk_g21 hk2, mk_g22 hk2, mb_isValley hm1 Hl, t0]
  have t1 : sa_told a = nI 1 := if_neg ht
  have hR := sd_told Hsd ht
  have s2 := mb_said hm1 Hl (show 2 < 124 by omega)
  rw [H2] at s2 bS
  have hp2 : 2 ^ k ≤ 256 := Nat.pow_le_pow_right (n := 2) (by omega) (show k ≤ 8 from Hk)
  have hp1 : 0 < 2 ^ k := Nat.two_pow_pos k
  have sh : nI 1 <<< nI k = nI (2 ^ k) := pb_sh1 k (by omega)
  have sb : nI (2 ^ k) - nI 1 = nI (2 ^ k - 1) := pb_subn hp1
  by_cases cy : ¬ sp_in y 0 (2 ^ k - 1)
  · refine key0 (-nI 1) ?_ ?_
    · unfold mm_S_figure mm_S_figure_j44
      by_cases cw : sp_in w 0 1
      · simp (disch := omega) only [pb_its, pb_l2, pb_ll, nI_add, pb_mul, if_true, if_false, pb_bs, pb_b2n, pb_bz0, pb_bz1, pb_10, pb_01, pb_i31, ck_is0 hk, ck_r0_0 hk, ck_r0_1 hk, ck_r0_2 hk, ck_r0_3 hk, ck_r0_4 hk, ck_r0_5 hk, ck_r0_6 hk, ck_r0_7 hk, ck_r0_8 hk, ck_r0_9 hk, ck_is1 hk, ck_r1_0 hk, ck_is3 hk, ck_r3_0 hk, ck_r3_1 hk, ck_is20 hk, ck_r20_0 hk, ck_r20_1 hk, ck_r20_2 hk, ck_is24 hk, ck_r24_1 hk, ck_r24_2 hk, ck_r24_3 hk, ck_r24_4 hk, ck_is33 hk, ck_r33_0 hk, ck_r33_1 hk, ck_is40 hk, ck_r40_0 hk, ck_is102 hk, ck_r102_0 hk, ck_r102_1 hk, ck_r102_2 hk, ck_r102_3 hk, ck_r102_4 hk, ck_r102_5 hk, ck_is103 hk, ck_r103_0 hk, ck_r103_1 hk, ck_is111 hk, ck_r111_0 hk, ck_r111_1 hk, ck_r111_2 hk, ck_r111_3 hk, ck_r111_4 hk, ck_is114 hk, ck_r114_0 hk, ck_r114_1 hk, ck_r114_2 hk, ck_r114_3 hk, ck_r114_4 hk, bV, bI, bT, bF, bD, bS, bH, bR0, bR1, bR2, bR3, bR4, bFo, bX, bNo, bG0, bG1, bG2, bG3, t1, pq_withinC, pb_ct cw, sh, sb, pb_cf cy]
      · simp (disch := omega) only [pb_its, pb_l2, pb_ll, nI_add, pb_mul, if_true, if_false, pb_bs, pb_b2n, pb_bz0, pb_bz1, pb_10, pb_01, pb_i31, ck_is0 hk, ck_r0_0 hk, ck_r0_1 hk, ck_r0_2 hk, ck_r0_3 hk, ck_r0_4 hk, ck_r0_5 hk, ck_r0_6 hk, ck_r0_7 hk, ck_r0_8 hk, ck_r0_9 hk, ck_is1 hk, ck_r1_0 hk, ck_is3 hk, ck_r3_0 hk, ck_r3_1 hk, ck_is20 hk, ck_r20_0 hk, ck_r20_1 hk, ck_r20_2 hk, ck_is24 hk, ck_r24_1 hk, ck_r24_2 hk, ck_r24_3 hk, ck_r24_4 hk, ck_is33 hk, ck_r33_0 hk, ck_r33_1 hk, ck_is40 hk, ck_r40_0 hk, ck_is102 hk, ck_r102_0 hk, ck_r102_1 hk, ck_r102_2 hk, ck_r102_3 hk, ck_r102_4 hk, ck_r102_5 hk, ck_is103 hk, ck_r103_0 hk, ck_r103_1 hk, ck_is111 hk, ck_r111_0 hk, ck_r111_1 hk, ck_r111_2 hk, ck_r111_3 hk, ck_r111_4 hk, ck_is114 hk, ck_r114_0 hk, ck_r114_1 hk, ck_r114_2 hk, ck_r114_3 hk, ck_r114_4 hk, bV, bI, bT, bF, bD, bS, bH, bR0, bR1, bR2, bR3, bR4, bFo, bX, bNo, bG0, bG1, bG2, bG3, t1, pq_withinC, pb_cf cw]
    · unfold mm_M_figure mm_M_figure_j33
      by_cases c0 : y < nI 0
      · simp (disch := omega) only [pb_its, pb_l2, pb_ll, nI_add, pb_mul, if_true, if_false, pb_bs, pb_b2n, pb_bz0, pb_bz1, pb_10, pb_01, pb_i31, mk_is hk2, mk_g0 hk2, mk_g1 hk2, mk_g2 hk2, mk_g3 hk2, mk_g4 hk2, mk_g5 hk2, mk_g6 hk2, mk_g7 hk2, mk_g8 hk2, mk_g9 hk2, mk_g10 hk2, mk_g11 hk2, mk_g12 hk2, mk_g13 hk2, mk_g14 hk2, mk_g15 hk2, mk_g16 hk2, mk_g17 hk2, mk_g18 hk2, mk_g19 hk2, mk_g20 hk2, mk_g21 hk2, mk_g22 hk2, mb_isValley hm1 Hl, t1, c0]
      · have c1 : nI (2 ^ k) ≤ y := by
          rcases pk_ix y (n := 2 ^ k) (by omega) with c | c | ⟨j, hj, e⟩
          · exact absurd c c0
          · exact c
          · exact absurd (by rw [e]; exact sp_in_of (by omega) (by omega) (by omega)) cy
        simp (disch := omega) only [pb_its, pb_l2, pb_ll, nI_add, pb_mul, if_true, if_false, pb_bs, pb_b2n, pb_bz0, pb_bz1, pb_10, pb_01, pb_i31, mk_is hk2, mk_g0 hk2, mk_g1 hk2, mk_g2 hk2, mk_g3 hk2, mk_g4 hk2, mk_g5 hk2, mk_g6 hk2, mk_g7 hk2, mk_g8 hk2, mk_g9 hk2, mk_g10 hk2, mk_g11 hk2, mk_g12 hk2, mk_g13 hk2, mk_g14 hk2, mk_g15 hk2, mk_g16 hk2, mk_g17 hk2, mk_g18 hk2, mk_g19 hk2, mk_g20 hk2, mk_g21 hk2, mk_g22 hk2, mb_isValley hm1 Hl, t1, c0, s2, sh, c1]
  replace cy := Classical.not_not.mp cy
  obtain ⟨Y0, -, hY, rfl⟩ := sp_in_n cy (by omega) (by omega)
  have c0 : ¬ nI Y0 < nI 0 := nI_nlt (by omega) (by omega)
  have c1 : ¬ nI (2 ^ k) ≤ nI Y0 := nI_ge (by omega) (by omega)
  by_cases cw : ¬ sp_in w 0 1
  · refine key0 (-nI 1) ?_ ?_
    · unfold mm_S_figure mm_S_figure_j44
      simp (disch := omega) only [pb_its, pb_l2, pb_ll, nI_add, pb_mul, if_true, if_false, pb_bs, pb_b2n, pb_bz0, pb_bz1, pb_10, pb_01, pb_i31, ck_is0 hk, ck_r0_0 hk, ck_r0_1 hk, ck_r0_2 hk, ck_r0_3 hk, ck_r0_4 hk, ck_r0_5 hk, ck_r0_6 hk, ck_r0_7 hk, ck_r0_8 hk, ck_r0_9 hk, ck_is1 hk, ck_r1_0 hk, ck_is3 hk, ck_r3_0 hk, ck_r3_1 hk, ck_is20 hk, ck_r20_0 hk, ck_r20_1 hk, ck_r20_2 hk, ck_is24 hk, ck_r24_1 hk, ck_r24_2 hk, ck_r24_3 hk, ck_r24_4 hk, ck_is33 hk, ck_r33_0 hk, ck_r33_1 hk, ck_is40 hk, ck_r40_0 hk, ck_is102 hk, ck_r102_0 hk, ck_r102_1 hk, ck_r102_2 hk, ck_r102_3 hk, ck_r102_4 hk, ck_r102_5 hk, ck_is103 hk, ck_r103_0 hk, ck_r103_1 hk, ck_is111 hk, ck_r111_0 hk, ck_r111_1 hk, ck_r111_2 hk, ck_r111_3 hk, ck_r111_4 hk, ck_is114 hk, ck_r114_0 hk, ck_r114_1 hk, ck_r114_2 hk, ck_r114_3 hk, ck_r114_4 hk, bV, bI, bT, bF, bD, bS, bH, bR0, bR1, bR2, bR3, bR4, bFo, bX, bNo, bG0, bG1, bG2, bG3, t1, pq_withinC, pb_cf cw]
    · unfold mm_M_figure mm_M_figure_j33
      simp (disch := omega) only [pb_its, pb_l2, pb_ll, nI_add, pb_mul, if_true, if_false, pb_bs, pb_b2n, pb_bz0, pb_bz1, pb_10, pb_01, pb_i31, mk_is hk2, mk_g0 hk2, mk_g1 hk2, mk_g2 hk2, mk_g3 hk2, mk_g4 hk2, mk_g5 hk2, mk_g6 hk2, mk_g7 hk2, mk_g8 hk2, mk_g9 hk2, mk_g10 hk2, mk_g11 hk2, mk_g12 hk2, mk_g13 hk2, mk_g14 hk2, mk_g15 hk2, mk_g16 hk2, mk_g17 hk2, mk_g18 hk2, mk_g19 hk2, mk_g20 hk2, mk_g21 hk2, mk_g22 hk2, mb_isValley hm1 Hl, t1, c0, s2, sh, c1, po_inC, pb_cf cw]
  replace cw := Classical.not_not.mp cw
  obtain ⟨cl1, cl2⟩ := cN_s a k
  have lc : ss_lp (mm_M_figure_b43 N (some 118) (nI Y0) w h2) N (nI 0, nI 0) = some (nI (cN a k)) := by
    refine pb_lp (fun s => (nI (cN a s), nI s)) k (by omega) (fun s hs => ?_) ?_
    · have hlt : ¬ nI k ≤ nI s := nI_ge hs (by omega)
      obtain ⟨q, q1, q2, q3⟩ := hR.2.1 s (by omega)
      have sn := mb_said hm1 Hl (show 14 + s < 124 by omega)
      rw [q2] at sn
      unfold mm_M_figure_b43 mm_M_figure_j76
      rw [cN]
      by_cases c : q = 0
      · subst c
        rw [pI_t q2]
        have n0 : nI 0 ≤ nI 0 := Int32.le_refl _
        have zr : nI (cN a s) ||| nI 0 = nI (cN a s) := by rw [pb_or, Nat.or_zero]
        simp (disch := omega) only [pb_its, pb_l2, pb_ll, nI_add, pb_mul, if_true, if_false, pb_bs, pb_b2n, pb_bz0, pb_bz1, pb_10, pb_01, pb_i31, mk_is hk2, mk_g0 hk2, mk_g1 hk2, mk_g2 hk2, mk_g3 hk2, mk_g4 hk2, mk_g5 hk2, mk_g6 hk2, mk_g7 hk2, mk_g8 hk2, mk_g9 hk2, mk_g10 hk2, mk_g11 hk2, mk_g12 hk2, mk_g13 hk2, mk_g14 hk2, mk_g15 hk2, mk_g16 hk2, mk_g17 hk2, mk_g18 hk2, mk_g19 hk2, mk_g20 hk2, mk_g21 hk2, mk_g22 hk2, s2, hlt, sn, n0, zr]
      · rw [pI_f (fun e => c ((nI_eq (by omega) (by omega)).mp (q2.symm.trans e)))]
        have n0 : ¬ nI q ≤ nI 0 := nI_ge (by omega) (by omega)
        simp (disch := omega) only [pb_its, pb_l2, pb_ll, nI_add, pb_mul, if_true, if_false, pb_bs, pb_b2n, pb_bz0, pb_bz1, pb_10, pb_01, pb_i31, mk_is hk2, mk_g0 hk2, mk_g1 hk2, mk_g2 hk2, mk_g3 hk2, mk_g4 hk2, mk_g5 hk2, mk_g6 hk2, mk_g7 hk2, mk_g8 hk2, mk_g9 hk2, mk_g10 hk2, mk_g11 hk2, mk_g12 hk2, mk_g13 hk2, mk_g14 hk2, mk_g15 hk2, mk_g16 hk2, mk_g17 hk2, mk_g18 hk2, mk_g19 hk2, mk_g20 hk2, mk_g21 hk2, mk_g22 hk2, s2, hlt, sn, n0, pb_sh1 s (by omega), pb_or]
    · unfold mm_M_figure_b43
      simp (disch := omega) only [pb_its, pb_l2, pb_ll, nI_add, pb_mul, if_true, if_false, pb_bs, pb_b2n, pb_bz0, pb_bz1, pb_10, pb_01, pb_i31, mk_is hk2, mk_g0 hk2, mk_g1 hk2, mk_g2 hk2, mk_g3 hk2, mk_g4 hk2, mk_g5 hk2, mk_g6 hk2, mk_g7 hk2, mk_g8 hk2, mk_g9 hk2, mk_g10 hk2, mk_g11 hk2, mk_g12 hk2, mk_g13 hk2, mk_g14 hk2, mk_g15 hk2, mk_g16 hk2, mk_g17 hk2, mk_g18 hk2, mk_g19 hk2, mk_g20 hk2, mk_g21 hk2, mk_g22 hk2, s2, nI_le (Nat.le_refl k) (by omega : k < 2 ^ 31)]
  have hzQ : ∀ q, q < 2 ^ k → (nI q &&& (nI (cN a k) ^^^ -nI 1) = nI 0) = ¬ zQ a k q := by
    intro q hq
    rw [pb_andnot (by omega) (by omega)]
    apply propext
    constructor
    · rintro h ⟨s, s1, s2, s3⟩
      unfold rB at s2
      rw [pb_bit (by omega) (by omega)] at s2
      exact ((cl2 s s1).mp (h s s2)) s3
    · intro h i hi
      have hik : i < k := by
        rcases Nat.lt_or_ge i k with c | c
        · exact c
        · rw [Nat.testBit_lt_two_pow (Nat.lt_of_lt_of_le hq (Nat.pow_le_pow_right (n := 2) (by omega) c))] at hi
          cases hi
      refine (cl2 i hik).mpr (fun e => h ⟨i, hik, ?_, e⟩)
      unfold rB
      rw [pb_bit (by omega) (by omega)]
      exact hi
  have SW := fun (q : Nat) (h' : ss_Hp) (Z' : Nat → List Int32) (c : cb_h h h' T a fo x RS US I Z') => cb_sweeps (N := N) (q := q) c Hsd ht hN
  have CB := fun q : Nat => mb_closedBy (N := N) (q := q) hm1 Hsd hN
  have hQ : ∃ Q : Nat → Prop, Q = fun q => ¬ zQ a k q ∧ fC a k q k = nI Y0 := ⟨_, rfl⟩
  obtain ⟨Q, hQ⟩ := hQ
  have key := pb_for (body := mm_P_fewestSwept_b9 N (some 114) (nI Y0)) (2 ^ k) (fun q s => ∃ h' Z', s = ((fw Q q).elim (-nI 2) nI, (fw Q q).elim (nI 9) (fun b => nI (pc_n b)), nI q, h') ∧ cb_h h h' T a fo x RS US I Z') (fun e => ∃ h' Z', e = ((fw Q (2 ^ k)).elim (-nI 2) nI, h') ∧ cb_h h h' T a fo x RS US I Z') (N := N) (s := (-nI 2, nI 9, nI 0, h)) (by omega) ⟨h, Z, rfl, hb⟩ (by
    rintro q s hq ⟨h', Z', rfl, c⟩
    left
    obtain ⟨v', ⟨⟨bVx, bIx, bTx, bFx, bDx, bSx, bHx⟩, ⟨bR0x, bR1x, bR2x, bR3x, bR4x⟩, ⟨bFox, bXx, bNox⟩, ⟨bG0x, bG1x, bG2x, bG3x⟩, bOwnx, bStrx, bBesx, bSnx, bWlx, bNdx, bClx⟩⟩ := cb_r c
    rw [H2] at bSx
    have ck := cb_ck c
    have hlt : ¬ nI (2 ^ k) ≤ nI q := nI_ge hq (by omega)
    have b1 := pc_bit (N := N) (show q < 1024 by omega)
    rw [pc_I_n (by omega)] at b1
    have hb8 := pc_n8 q (by omega)
    obtain ⟨h3, Z3, e3, c3⟩ := SW q h' Z' c
    have ev : (pI (zQ a k q) (-nI 2) (fC a k q k) = nI Y0) = Q q := by
      rw [hQ]
      apply propext
      by_cases cz : zQ a k q
      · rw [pI_t cz]
        exact ⟨fun e => absurd e (fun e => by have : -nI 2 < nI 0 := by decide
                                              rw [e] at this; exact c0 this), fun e => absurd cz e.1⟩
      · rw [pI_f cz]
        exact ⟨fun e => ⟨cz, e⟩, fun e => e.2⟩
    have nx : ∀ f c' h'', mm_P_fewestSwept_j54 N (some 114) (nI Y0) f c' (nI q) h'' = some (.inl (f, c', nI (q + 1), h'')) := by
      intro f c' h''
      unfold mm_P_fewestSwept_j54
      simp (disch := omega) only [pb_its, pb_l2, pb_ll, nI_add, pb_mul, if_true, if_false, pb_bs, pb_b2n, pb_bz0, pb_bz1, pb_10, pb_01, pb_i31]
    rw [fw]
    cases hf : fw Q q with
    | none =>
      have n9 : ¬ nI 9 ≤ nI (pc_n q) := nI_ge (by omega) (by omega)
      by_cases cq : Q q
      · have cq' : pI (zQ a k q) (-nI 2) (fC a k q k) = nI Y0 := by rw [ev]; exact cq
        refine ⟨_, ?_, h3, Z3, rfl, c3⟩
        rw [pI_t cq]
        unfold mm_P_fewestSwept_b9
        simp (disch := omega) only [pb_its, pb_l2, pb_ll, nI_add, pb_mul, if_true, if_false, pb_bs, pb_b2n, pb_bz0, pb_bz1, pb_10, pb_01, pb_i31, ck_is0 ck, ck_r0_0 ck, ck_r0_1 ck, ck_r0_2 ck, ck_r0_3 ck, ck_r0_4 ck, ck_r0_5 ck, ck_r0_6 ck, ck_r0_7 ck, ck_r0_8 ck, ck_r0_9 ck, ck_is1 ck, ck_r1_0 ck, ck_is3 ck, ck_r3_0 ck, ck_r3_1 ck, ck_is20 ck, ck_r20_0 ck, ck_r20_1 ck, ck_r20_2 ck, ck_is24 ck, ck_r24_1 ck, ck_r24_2 ck, ck_r24_3 ck, ck_r24_4 ck, ck_is33 ck, ck_r33_0 ck, ck_r33_1 ck, ck_is40 ck, ck_r40_0 ck, ck_is102 ck, ck_r102_0 ck, ck_r102_1 ck, ck_r102_2 ck, ck_r102_3 ck, ck_r102_4 ck, ck_r102_5 ck, ck_is103 ck, ck_r103_0 ck, ck_r103_1 ck, ck_is111 ck, ck_r111_0 ck, ck_r111_1 ck, ck_r111_2 ck, ck_r111_3 ck, ck_r111_4 ck, ck_is114 ck, ck_r114_0 ck, ck_r114_1 ck, ck_r114_2 ck, ck_r114_3 ck, ck_r114_4 ck, bVx, bIx, bTx, bFx, bDx, bSx, bHx, bR0x, bR1x, bR2x, bR3x, bR4x, bFox, bXx, bNox, bG0x, bG1x, bG2x, bG3x, sh, hlt, b1, Option.elim, n9, e3, cq', nx]
      · have cq' : ¬ pI (zQ a k q) (-nI 2) (fC a k q k) = nI Y0 := by rw [ev]; exact cq
        refine ⟨_, ?_, h3, Z3, rfl, c3⟩
        rw [pI_f cq]
        unfold mm_P_fewestSwept_b9
        simp (disch := omega) only [pb_its, pb_l2, pb_ll, nI_add, pb_mul, if_true, if_false, pb_bs, pb_b2n, pb_bz0, pb_bz1, pb_10, pb_01, pb_i31, ck_is0 ck, ck_r0_0 ck, ck_r0_1 ck, ck_r0_2 ck, ck_r0_3 ck, ck_r0_4 ck, ck_r0_5 ck, ck_r0_6 ck, ck_r0_7 ck, ck_r0_8 ck, ck_r0_9 ck, ck_is1 ck, ck_r1_0 ck, ck_is3 ck, ck_r3_0 ck, ck_r3_1 ck, ck_is20 ck, ck_r20_0 ck, ck_r20_1 ck, ck_r20_2 ck, ck_is24 ck, ck_r24_1 ck, ck_r24_2 ck, ck_r24_3 ck, ck_r24_4 ck, ck_is33 ck, ck_r33_0 ck, ck_r33_1 ck, ck_is40 ck, ck_r40_0 ck, ck_is102 ck, ck_r102_0 ck, ck_r102_1 ck, ck_r102_2 ck, ck_r102_3 ck, ck_r102_4 ck, ck_r102_5 ck, ck_is103 ck, ck_r103_0 ck, ck_r103_1 ck, ck_is111 ck, ck_r111_0 ck, ck_r111_1 ck, ck_r111_2 ck, ck_r111_3 ck, ck_r111_4 ck, ck_is114 ck, ck_r114_0 ck, ck_r114_1 ck, ck_r114_2 ck, ck_r114_3 ck, ck_r114_4 ck, bVx, bIx, bTx, bFx, bDx, bSx, bHx, bR0x, bR1x, bR2x, bR3x, bR4x, bFox, bXx, bNox, bG0x, bG1x, bG2x, bG3x, sh, hlt, b1, Option.elim, n9, e3, cq', nx]
    | some b =>
      have hbq := fw_lt q b hf
      have hbb := pc_n8 b (by omega)
      by_cases c1 : pc_n q < pc_n b
      · have n9 : ¬ nI (pc_n b) ≤ nI (pc_n q) := nI_ge c1 (by omega)
        by_cases cq : Q q
        · have cq' : pI (zQ a k q) (-nI 2) (fC a k q k) = nI Y0 := by rw [ev]; exact cq
          refine ⟨_, ?_, h3, Z3, rfl, c3⟩
          simp only [pI_t (show pc_n q < pc_n b ∧ Q q from ⟨c1, cq⟩)]
          unfold mm_P_fewestSwept_b9
          simp (disch := omega) only [pb_its, pb_l2, pb_ll, nI_add, pb_mul, if_true, if_false, pb_bs, pb_b2n, pb_bz0, pb_bz1, pb_10, pb_01, pb_i31, ck_is0 ck, ck_r0_0 ck, ck_r0_1 ck, ck_r0_2 ck, ck_r0_3 ck, ck_r0_4 ck, ck_r0_5 ck, ck_r0_6 ck, ck_r0_7 ck, ck_r0_8 ck, ck_r0_9 ck, ck_is1 ck, ck_r1_0 ck, ck_is3 ck, ck_r3_0 ck, ck_r3_1 ck, ck_is20 ck, ck_r20_0 ck, ck_r20_1 ck, ck_r20_2 ck, ck_is24 ck, ck_r24_1 ck, ck_r24_2 ck, ck_r24_3 ck, ck_r24_4 ck, ck_is33 ck, ck_r33_0 ck, ck_r33_1 ck, ck_is40 ck, ck_r40_0 ck, ck_is102 ck, ck_r102_0 ck, ck_r102_1 ck, ck_r102_2 ck, ck_r102_3 ck, ck_r102_4 ck, ck_r102_5 ck, ck_is103 ck, ck_r103_0 ck, ck_r103_1 ck, ck_is111 ck, ck_r111_0 ck, ck_r111_1 ck, ck_r111_2 ck, ck_r111_3 ck, ck_r111_4 ck, ck_is114 ck, ck_r114_0 ck, ck_r114_1 ck, ck_r114_2 ck, ck_r114_3 ck, ck_r114_4 ck, bVx, bIx, bTx, bFx, bDx, bSx, bHx, bR0x, bR1x, bR2x, bR3x, bR4x, bFox, bXx, bNox, bG0x, bG1x, bG2x, bG3x, sh, hlt, b1, Option.elim, n9, e3, cq', nx]
        · have cq' : ¬ pI (zQ a k q) (-nI 2) (fC a k q k) = nI Y0 := by rw [ev]; exact cq
          refine ⟨_, ?_, h3, Z3, rfl, c3⟩
          simp only [pI_f (show ¬ (pc_n q < pc_n b ∧ Q q) from fun q => cq q.2)]
          unfold mm_P_fewestSwept_b9
          simp (disch := omega) only [pb_its, pb_l2, pb_ll, nI_add, pb_mul, if_true, if_false, pb_bs, pb_b2n, pb_bz0, pb_bz1, pb_10, pb_01, pb_i31, ck_is0 ck, ck_r0_0 ck, ck_r0_1 ck, ck_r0_2 ck, ck_r0_3 ck, ck_r0_4 ck, ck_r0_5 ck, ck_r0_6 ck, ck_r0_7 ck, ck_r0_8 ck, ck_r0_9 ck, ck_is1 ck, ck_r1_0 ck, ck_is3 ck, ck_r3_0 ck, ck_r3_1 ck, ck_is20 ck, ck_r20_0 ck, ck_r20_1 ck, ck_r20_2 ck, ck_is24 ck, ck_r24_1 ck, ck_r24_2 ck, ck_r24_3 ck, ck_r24_4 ck, ck_is33 ck, ck_r33_0 ck, ck_r33_1 ck, ck_is40 ck, ck_r40_0 ck, ck_is102 ck, ck_r102_0 ck, ck_r102_1 ck, ck_r102_2 ck, ck_r102_3 ck, ck_r102_4 ck, ck_r102_5 ck, ck_is103 ck, ck_r103_0 ck, ck_r103_1 ck, ck_is111 ck, ck_r111_0 ck, ck_r111_1 ck, ck_r111_2 ck, ck_r111_3 ck, ck_r111_4 ck, ck_is114 ck, ck_r114_0 ck, ck_r114_1 ck, ck_r114_2 ck, ck_r114_3 ck, ck_r114_4 ck, bVx, bIx, bTx, bFx, bDx, bSx, bHx, bR0x, bR1x, bR2x, bR3x, bR4x, bFox, bXx, bNox, bG0x, bG1x, bG2x, bG3x, sh, hlt, b1, Option.elim, n9, e3, cq', nx]
      · have n9 : nI (pc_n b) ≤ nI (pc_n q) := nI_le (by omega) (by omega)
        refine ⟨_, ?_, h', Z', rfl, c⟩
        simp only [pI_f (show ¬ (pc_n q < pc_n b ∧ Q q) from fun q => c1 q.1)]
        unfold mm_P_fewestSwept_b9
        simp (disch := omega) only [pb_its, pb_l2, pb_ll, nI_add, pb_mul, if_true, if_false, pb_bs, pb_b2n, pb_bz0, pb_bz1, pb_10, pb_01, pb_i31, ck_is0 ck, ck_r0_0 ck, ck_r0_1 ck, ck_r0_2 ck, ck_r0_3 ck, ck_r0_4 ck, ck_r0_5 ck, ck_r0_6 ck, ck_r0_7 ck, ck_r0_8 ck, ck_r0_9 ck, ck_is1 ck, ck_r1_0 ck, ck_is3 ck, ck_r3_0 ck, ck_r3_1 ck, ck_is20 ck, ck_r20_0 ck, ck_r20_1 ck, ck_r20_2 ck, ck_is24 ck, ck_r24_1 ck, ck_r24_2 ck, ck_r24_3 ck, ck_r24_4 ck, ck_is33 ck, ck_r33_0 ck, ck_r33_1 ck, ck_is40 ck, ck_r40_0 ck, ck_is102 ck, ck_r102_0 ck, ck_r102_1 ck, ck_r102_2 ck, ck_r102_3 ck, ck_r102_4 ck, ck_r102_5 ck, ck_is103 ck, ck_r103_0 ck, ck_r103_1 ck, ck_is111 ck, ck_r111_0 ck, ck_r111_1 ck, ck_r111_2 ck, ck_r111_3 ck, ck_r111_4 ck, ck_is114 ck, ck_r114_0 ck, ck_r114_1 ck, ck_r114_2 ck, ck_r114_3 ck, ck_r114_4 ck, bVx, bIx, bTx, bFx, bDx, bSx, bHx, bR0x, bR1x, bR2x, bR3x, bR4x, bFox, bXx, bNox, bG0x, bG1x, bG2x, bG3x, sh, hlt, b1, Option.elim, n9, nx]) (by
    rintro s ⟨h', Z', rfl, c⟩
    obtain ⟨v', ⟨⟨bVx, bIx, bTx, bFx, bDx, bSx, bHx⟩, ⟨bR0x, bR1x, bR2x, bR3x, bR4x⟩, ⟨bFox, bXx, bNox⟩, ⟨bG0x, bG1x, bG2x, bG3x⟩, bOwnx, bStrx, bBesx, bSnx, bWlx, bNdx, bClx⟩⟩ := cb_r c
    rw [H2] at bSx
    have ck := cb_ck c
    refine ⟨_, ?_, h', Z', rfl, c⟩
    unfold mm_P_fewestSwept_b9
    simp (disch := omega) only [pb_its, pb_l2, pb_ll, nI_add, pb_mul, if_true, if_false, pb_bs, pb_b2n, pb_bz0, pb_bz1, pb_10, pb_01, pb_i31, ck_is0 ck, ck_r0_0 ck, ck_r0_1 ck, ck_r0_2 ck, ck_r0_3 ck, ck_r0_4 ck, ck_r0_5 ck, ck_r0_6 ck, ck_r0_7 ck, ck_r0_8 ck, ck_r0_9 ck, ck_is1 ck, ck_r1_0 ck, ck_is3 ck, ck_r3_0 ck, ck_r3_1 ck, ck_is20 ck, ck_r20_0 ck, ck_r20_1 ck, ck_r20_2 ck, ck_is24 ck, ck_r24_1 ck, ck_r24_2 ck, ck_r24_3 ck, ck_r24_4 ck, ck_is33 ck, ck_r33_0 ck, ck_r33_1 ck, ck_is40 ck, ck_r40_0 ck, ck_is102 ck, ck_r102_0 ck, ck_r102_1 ck, ck_r102_2 ck, ck_r102_3 ck, ck_r102_4 ck, ck_r102_5 ck, ck_is103 ck, ck_r103_0 ck, ck_r103_1 ck, ck_is111 ck, ck_r111_0 ck, ck_r111_1 ck, ck_r111_2 ck, ck_r111_3 ck, ck_r111_4 ck, ck_is114 ck, ck_r114_0 ck, ck_r114_1 ck, ck_r114_2 ck, ck_r114_3 ck, ck_r114_4 ck, bVx, bIx, bTx, bFx, bDx, bSx, bHx, bR0x, bR1x, bR2x, bR3x, bR4x, bFox, bXx, bNox, bG0x, bG1x, bG2x, bG3x, sh, nI_le (Nat.le_refl (2 ^ k)) (by omega : 2 ^ k < 2 ^ 31)])
  obtain ⟨_, l1, h3, Z3, rfl, c3⟩ := key
  have ml : ss_lp (mm_M_figure_b87 N (some 118) (nI Y0) w (nI (cN a k)) h2) N (-nI 1, nI 0) = some ((fw Q (2 ^ k)).elim (-nI 1) nI) := by
    refine pb_lp (fun r => ((fw Q r).elim (-nI 1) nI, nI r)) (2 ^ k) (by omega) (fun q hq => ?_) ?_
    · have hlt : ¬ nI (2 ^ k) ≤ nI q := nI_ge hq (by omega)
      have b1 := po_bits (N := N) (show q < 1024 by omega) (by omega)
      rw [pc_I_n (by omega)] at b1
      have cb := CB q
      have hz := hzQ q hq
      have hb8 := pc_n8 q (by omega)
      unfold mm_M_figure_b87 mm_M_figure_j130 mm_M_figure_j144
      rw [fw]
      by_cases cz : zQ a k q
      · have cz' : ¬ nI q &&& (nI (cN a k) ^^^ -nI 1) = nI 0 := by rw [hz]; exact fun q => q cz
        have nq : ¬ Q q := by rw [hQ]; exact fun q => q.1 cz
        cases hf : fw Q q with
        | none =>
          show _ = some (Sum.inl ((pI (Q q) (some q) none).elim (-nI 1) nI, nI (q + 1)))
          rw [pI_f nq]
          simp (disch := omega) only [pb_its, pb_l2, pb_ll, nI_add, pb_mul, if_true, if_false, pb_bs, pb_b2n, pb_bz0, pb_bz1, pb_10, pb_01, pb_i31, mk_is hk2, mk_g0 hk2, mk_g1 hk2, mk_g2 hk2, mk_g3 hk2, mk_g4 hk2, mk_g5 hk2, mk_g6 hk2, mk_g7 hk2, mk_g8 hk2, mk_g9 hk2, mk_g10 hk2, mk_g11 hk2, mk_g12 hk2, mk_g13 hk2, mk_g14 hk2, mk_g15 hk2, mk_g16 hk2, mk_g17 hk2, mk_g18 hk2, mk_g19 hk2, mk_g20 hk2, mk_g21 hk2, mk_g22 hk2, s2, sh, hlt, cz', Option.elim]
        | some b =>
          show _ = some (Sum.inl ((pI (pc_n q < pc_n b ∧ Q q) (some q) (some b)).elim (-nI 1) nI, nI (q + 1)))
          rw [pI_f (fun q => nq q.2)]
          simp (disch := omega) only [pb_its, pb_l2, pb_ll, nI_add, pb_mul, if_true, if_false, pb_bs, pb_b2n, pb_bz0, pb_bz1, pb_10, pb_01, pb_i31, mk_is hk2, mk_g0 hk2, mk_g1 hk2, mk_g2 hk2, mk_g3 hk2, mk_g4 hk2, mk_g5 hk2, mk_g6 hk2, mk_g7 hk2, mk_g8 hk2, mk_g9 hk2, mk_g10 hk2, mk_g11 hk2, mk_g12 hk2, mk_g13 hk2, mk_g14 hk2, mk_g15 hk2, mk_g16 hk2, mk_g17 hk2, mk_g18 hk2, mk_g19 hk2, mk_g20 hk2, mk_g21 hk2, mk_g22 hk2, s2, sh, hlt, cz', Option.elim]
      · have cz' : nI q &&& (nI (cN a k) ^^^ -nI 1) = nI 0 := by rw [hz]; exact cz
        have eq : (fC a k q k = nI Y0) = Q q := by
          rw [hQ]
          exact propext ⟨fun e => ⟨cz, e⟩, fun e => e.2⟩
        cases hf : fw Q q with
        | none =>
          show _ = some (Sum.inl ((pI (Q q) (some q) none).elim (-nI 1) nI, nI (q + 1)))
          have m1 : -nI 1 < nI 0 := pb_m1
          by_cases cq : Q q
          · have cq' : fC a k q k = nI Y0 := by rw [eq]; exact cq
            rw [pI_t cq]
            simp (disch := omega) only [pb_its, pb_l2, pb_ll, nI_add, pb_mul, if_true, if_false, pb_bs, pb_b2n, pb_bz0, pb_bz1, pb_10, pb_01, pb_i31, mk_is hk2, mk_g0 hk2, mk_g1 hk2, mk_g2 hk2, mk_g3 hk2, mk_g4 hk2, mk_g5 hk2, mk_g6 hk2, mk_g7 hk2, mk_g8 hk2, mk_g9 hk2, mk_g10 hk2, mk_g11 hk2, mk_g12 hk2, mk_g13 hk2, mk_g14 hk2, mk_g15 hk2, mk_g16 hk2, mk_g17 hk2, mk_g18 hk2, mk_g19 hk2, mk_g20 hk2, mk_g21 hk2, mk_g22 hk2, s2, sh, hlt, cz', Option.elim, m1, cb, cq']
          · have cq' : ¬ fC a k q k = nI Y0 := by rw [eq]; exact cq
            rw [pI_f cq]
            simp (disch := omega) only [pb_its, pb_l2, pb_ll, nI_add, pb_mul, if_true, if_false, pb_bs, pb_b2n, pb_bz0, pb_bz1, pb_10, pb_01, pb_i31, mk_is hk2, mk_g0 hk2, mk_g1 hk2, mk_g2 hk2, mk_g3 hk2, mk_g4 hk2, mk_g5 hk2, mk_g6 hk2, mk_g7 hk2, mk_g8 hk2, mk_g9 hk2, mk_g10 hk2, mk_g11 hk2, mk_g12 hk2, mk_g13 hk2, mk_g14 hk2, mk_g15 hk2, mk_g16 hk2, mk_g17 hk2, mk_g18 hk2, mk_g19 hk2, mk_g20 hk2, mk_g21 hk2, mk_g22 hk2, s2, sh, hlt, cz', Option.elim, m1, cb, cq']
        | some b =>
          show _ = some (Sum.inl ((pI (pc_n q < pc_n b ∧ Q q) (some q) (some b)).elim (-nI 1) nI, nI (q + 1)))
          have hbq := fw_lt q b hf
          have hbb := pc_n8 b (by omega)
          have b2 := po_bits (N := N) (show b < 1024 by omega) (by omega)
          rw [pc_I_n (by omega)] at b2
          have m1 : ¬ nI b < nI 0 := nI_nlt (by omega) (by omega)
          by_cases c1 : pc_n q < pc_n b
          · have n9 : nI (pc_n q) < nI (pc_n b) := nI_lt c1 (by omega)
            by_cases cq : Q q
            · have cq' : fC a k q k = nI Y0 := by rw [eq]; exact cq
              rw [pI_t ⟨c1, cq⟩]
              simp (disch := omega) only [pb_its, pb_l2, pb_ll, nI_add, pb_mul, if_true, if_false, pb_bs, pb_b2n, pb_bz0, pb_bz1, pb_10, pb_01, pb_i31, mk_is hk2, mk_g0 hk2, mk_g1 hk2, mk_g2 hk2, mk_g3 hk2, mk_g4 hk2, mk_g5 hk2, mk_g6 hk2, mk_g7 hk2, mk_g8 hk2, mk_g9 hk2, mk_g10 hk2, mk_g11 hk2, mk_g12 hk2, mk_g13 hk2, mk_g14 hk2, mk_g15 hk2, mk_g16 hk2, mk_g17 hk2, mk_g18 hk2, mk_g19 hk2, mk_g20 hk2, mk_g21 hk2, mk_g22 hk2, s2, sh, hlt, cz', Option.elim, m1, b1, b2, n9, cb, cq']
            · have cq' : ¬ fC a k q k = nI Y0 := by rw [eq]; exact cq
              rw [pI_f (fun q => cq q.2)]
              simp (disch := omega) only [pb_its, pb_l2, pb_ll, nI_add, pb_mul, if_true, if_false, pb_bs, pb_b2n, pb_bz0, pb_bz1, pb_10, pb_01, pb_i31, mk_is hk2, mk_g0 hk2, mk_g1 hk2, mk_g2 hk2, mk_g3 hk2, mk_g4 hk2, mk_g5 hk2, mk_g6 hk2, mk_g7 hk2, mk_g8 hk2, mk_g9 hk2, mk_g10 hk2, mk_g11 hk2, mk_g12 hk2, mk_g13 hk2, mk_g14 hk2, mk_g15 hk2, mk_g16 hk2, mk_g17 hk2, mk_g18 hk2, mk_g19 hk2, mk_g20 hk2, mk_g21 hk2, mk_g22 hk2, s2, sh, hlt, cz', Option.elim, m1, b1, b2, n9, cb, cq']
          · have n9 : ¬ nI (pc_n q) < nI (pc_n b) := nI_nlt (by omega) (by omega)
            rw [pI_f (fun q => c1 q.1)]
            simp (disch := omega) only [pb_its, pb_l2, pb_ll, nI_add, pb_mul, if_true, if_false, pb_bs, pb_b2n, pb_bz0, pb_bz1, pb_10, pb_01, pb_i31, mk_is hk2, mk_g0 hk2, mk_g1 hk2, mk_g2 hk2, mk_g3 hk2, mk_g4 hk2, mk_g5 hk2, mk_g6 hk2, mk_g7 hk2, mk_g8 hk2, mk_g9 hk2, mk_g10 hk2, mk_g11 hk2, mk_g12 hk2, mk_g13 hk2, mk_g14 hk2, mk_g15 hk2, mk_g16 hk2, mk_g17 hk2, mk_g18 hk2, mk_g19 hk2, mk_g20 hk2, mk_g21 hk2, mk_g22 hk2, s2, sh, hlt, cz', Option.elim, m1, b1, b2, n9]
    · unfold mm_M_figure_b87
      simp (disch := omega) only [pb_its, pb_l2, pb_ll, nI_add, pb_mul, if_true, if_false, pb_bs, pb_b2n, pb_bz0, pb_bz1, pb_10, pb_01, pb_i31, mk_is hk2, mk_g0 hk2, mk_g1 hk2, mk_g2 hk2, mk_g3 hk2, mk_g4 hk2, mk_g5 hk2, mk_g6 hk2, mk_g7 hk2, mk_g8 hk2, mk_g9 hk2, mk_g10 hk2, mk_g11 hk2, mk_g12 hk2, mk_g13 hk2, mk_g14 hk2, mk_g15 hk2, mk_g16 hk2, mk_g17 hk2, mk_g18 hk2, mk_g19 hk2, mk_g20 hk2, mk_g21 hk2, mk_g22 hk2, s2, sh, nI_le (Nat.le_refl (2 ^ k)) (by omega : 2 ^ k < 2 ^ 31)]
  cases hf : fw Q (2 ^ k) with
  | none =>
    rw [hf] at l1 ml
    have n1 : ¬ nI 0 ≤ -nI 1 := by decide
    refine ⟨-nI 2, h3, Z3, ?_, c3, ?_⟩
    · unfold mm_S_figure mm_P_fewestSwept
      simp (disch := omega) only [pb_its, pb_l2, pb_ll, nI_add, pb_mul, if_true, if_false, pb_bs, pb_b2n, pb_bz0, pb_bz1, pb_10, pb_01, pb_i31, ck_is0 hk, ck_r0_0 hk, ck_r0_1 hk, ck_r0_2 hk, ck_r0_3 hk, ck_r0_4 hk, ck_r0_5 hk, ck_r0_6 hk, ck_r0_7 hk, ck_r0_8 hk, ck_r0_9 hk, ck_is1 hk, ck_r1_0 hk, ck_is3 hk, ck_r3_0 hk, ck_r3_1 hk, ck_is20 hk, ck_r20_0 hk, ck_r20_1 hk, ck_r20_2 hk, ck_is24 hk, ck_r24_1 hk, ck_r24_2 hk, ck_r24_3 hk, ck_r24_4 hk, ck_is33 hk, ck_r33_0 hk, ck_r33_1 hk, ck_is40 hk, ck_r40_0 hk, ck_is102 hk, ck_r102_0 hk, ck_r102_1 hk, ck_r102_2 hk, ck_r102_3 hk, ck_r102_4 hk, ck_r102_5 hk, ck_is103 hk, ck_r103_0 hk, ck_r103_1 hk, ck_is111 hk, ck_r111_0 hk, ck_r111_1 hk, ck_r111_2 hk, ck_r111_3 hk, ck_r111_4 hk, ck_is114 hk, ck_r114_0 hk, ck_r114_1 hk, ck_r114_2 hk, ck_r114_3 hk, ck_r114_4 hk, bV, bI, bT, bF, bD, bS, bH, bR0, bR1, bR2, bR3, bR4, bFo, bX, bNo, bG0, bG1, bG2, bG3, t1, pq_withinC, pb_ct cw, sh, sb, pb_ct cy, l1, Option.elim]
    · unfold mm_M_figure mm_M_figure_j174
      simp (disch := omega) only [pb_its, pb_l2, pb_ll, nI_add, pb_mul, if_true, if_false, pb_bs, pb_b2n, pb_bz0, pb_bz1, pb_10, pb_01, pb_i31, mk_is hk2, mk_g0 hk2, mk_g1 hk2, mk_g2 hk2, mk_g3 hk2, mk_g4 hk2, mk_g5 hk2, mk_g6 hk2, mk_g7 hk2, mk_g8 hk2, mk_g9 hk2, mk_g10 hk2, mk_g11 hk2, mk_g12 hk2, mk_g13 hk2, mk_g14 hk2, mk_g15 hk2, mk_g16 hk2, mk_g17 hk2, mk_g18 hk2, mk_g19 hk2, mk_g20 hk2, mk_g21 hk2, mk_g22 hk2, mb_isValley hm1 Hl, t1, c0, s2, sh, c1, po_inC, pb_ct cw, lc, ml, Option.elim, n1]
  | some b =>
    rw [hf] at l1 ml
    have hbq := fw_lt _ b hf
    have n0 : nI 0 ≤ nI b := nI_le (by omega) (by omega)
    have n2 : ¬ nI b = -nI 2 := fun e => by
      have : -nI 2 < nI 0 := by decide
      rw [← e] at this
      exact absurd this (nI_nlt (by omega) (by omega))
    have b1 := pc_bit (N := N) (show b < 1024 by omega)
    have b2 := po_bits (N := N) (show b < 1024 by omega) (by omega)
    by_cases w0 : w = nI 0
    · subst w0
      refine ⟨pc_I (nI b), h3, Z3, ?_, c3, ?_⟩
      · unfold mm_S_figure mm_S_figure_j76 mm_P_fewestSwept
        simp (disch := omega) only [pb_its, pb_l2, pb_ll, nI_add, pb_mul, if_true, if_false, pb_bs, pb_b2n, pb_bz0, pb_bz1, pb_10, pb_01, pb_i31, ck_is0 hk, ck_r0_0 hk, ck_r0_1 hk, ck_r0_2 hk, ck_r0_3 hk, ck_r0_4 hk, ck_r0_5 hk, ck_r0_6 hk, ck_r0_7 hk, ck_r0_8 hk, ck_r0_9 hk, ck_is1 hk, ck_r1_0 hk, ck_is3 hk, ck_r3_0 hk, ck_r3_1 hk, ck_is20 hk, ck_r20_0 hk, ck_r20_1 hk, ck_r20_2 hk, ck_is24 hk, ck_r24_1 hk, ck_r24_2 hk, ck_r24_3 hk, ck_r24_4 hk, ck_is33 hk, ck_r33_0 hk, ck_r33_1 hk, ck_is40 hk, ck_r40_0 hk, ck_is102 hk, ck_r102_0 hk, ck_r102_1 hk, ck_r102_2 hk, ck_r102_3 hk, ck_r102_4 hk, ck_r102_5 hk, ck_is103 hk, ck_r103_0 hk, ck_r103_1 hk, ck_is111 hk, ck_r111_0 hk, ck_r111_1 hk, ck_r111_2 hk, ck_r111_3 hk, ck_r111_4 hk, ck_is114 hk, ck_r114_0 hk, ck_r114_1 hk, ck_r114_2 hk, ck_r114_3 hk, ck_r114_4 hk, bV, bI, bT, bF, bD, bS, bH, bR0, bR1, bR2, bR3, bR4, bFo, bX, bNo, bG0, bG1, bG2, bG3, t1, pq_withinC, pb_ct cw, sh, sb, pb_ct cy, l1, Option.elim, n2, b1]
      · unfold mm_M_figure mm_M_figure_j174
        simp (disch := omega) only [pb_its, pb_l2, pb_ll, nI_add, pb_mul, if_true, if_false, pb_bs, pb_b2n, pb_bz0, pb_bz1, pb_10, pb_01, pb_i31, mk_is hk2, mk_g0 hk2, mk_g1 hk2, mk_g2 hk2, mk_g3 hk2, mk_g4 hk2, mk_g5 hk2, mk_g6 hk2, mk_g7 hk2, mk_g8 hk2, mk_g9 hk2, mk_g10 hk2, mk_g11 hk2, mk_g12 hk2, mk_g13 hk2, mk_g14 hk2, mk_g15 hk2, mk_g16 hk2, mk_g17 hk2, mk_g18 hk2, mk_g19 hk2, mk_g20 hk2, mk_g21 hk2, mk_g22 hk2, mb_isValley hm1 Hl, t1, c0, s2, sh, c1, po_inC, pb_ct cw, lc, ml, Option.elim, n0, b2]
    · refine ⟨nI b, h3, Z3, ?_, c3, ?_⟩
      · unfold mm_S_figure mm_S_figure_j76 mm_P_fewestSwept
        simp (disch := omega) only [pb_its, pb_l2, pb_ll, nI_add, pb_mul, if_true, if_false, pb_bs, pb_b2n, pb_bz0, pb_bz1, pb_10, pb_01, pb_i31, ck_is0 hk, ck_r0_0 hk, ck_r0_1 hk, ck_r0_2 hk, ck_r0_3 hk, ck_r0_4 hk, ck_r0_5 hk, ck_r0_6 hk, ck_r0_7 hk, ck_r0_8 hk, ck_r0_9 hk, ck_is1 hk, ck_r1_0 hk, ck_is3 hk, ck_r3_0 hk, ck_r3_1 hk, ck_is20 hk, ck_r20_0 hk, ck_r20_1 hk, ck_r20_2 hk, ck_is24 hk, ck_r24_1 hk, ck_r24_2 hk, ck_r24_3 hk, ck_r24_4 hk, ck_is33 hk, ck_r33_0 hk, ck_r33_1 hk, ck_is40 hk, ck_r40_0 hk, ck_is102 hk, ck_r102_0 hk, ck_r102_1 hk, ck_r102_2 hk, ck_r102_3 hk, ck_r102_4 hk, ck_r102_5 hk, ck_is103 hk, ck_r103_0 hk, ck_r103_1 hk, ck_is111 hk, ck_r111_0 hk, ck_r111_1 hk, ck_r111_2 hk, ck_r111_3 hk, ck_r111_4 hk, ck_is114 hk, ck_r114_0 hk, ck_r114_1 hk, ck_r114_2 hk, ck_r114_3 hk, ck_r114_4 hk, bV, bI, bT, bF, bD, bS, bH, bR0, bR1, bR2, bR3, bR4, bFo, bX, bNo, bG0, bG1, bG2, bG3, t1, pq_withinC, pb_ct cw, sh, sb, pb_ct cy, l1, Option.elim, n2, w0]
      · unfold mm_M_figure mm_M_figure_j174
        simp (disch := omega) only [pb_its, pb_l2, pb_ll, nI_add, pb_mul, if_true, if_false, pb_bs, pb_b2n, pb_bz0, pb_bz1, pb_10, pb_01, pb_i31, mk_is hk2, mk_g0 hk2, mk_g1 hk2, mk_g2 hk2, mk_g3 hk2, mk_g4 hk2, mk_g5 hk2, mk_g6 hk2, mk_g7 hk2, mk_g8 hk2, mk_g9 hk2, mk_g10 hk2, mk_g11 hk2, mk_g12 hk2, mk_g13 hk2, mk_g14 hk2, mk_g15 hk2, mk_g16 hk2, mk_g17 hk2, mk_g18 hk2, mk_g19 hk2, mk_g20 hk2, mk_g21 hk2, mk_g22 hk2, mb_isValley hm1 Hl, t1, c0, s2, sh, c1, po_inC, pb_ct cw, lc, ml, Option.elim, n0, w0]
