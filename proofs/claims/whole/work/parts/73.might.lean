/-! ===== might ===== -/
theorem sa_R_str {a : List Int32} {k m d i q : Nat} (h : sa_R a k m d) (hi : i < 4) (h1 : 0 < q) (h2 : q ≤ 99) : sa_R (a.set (38 + 2 * i + 1) (nI q)) k m d := by
  obtain ⟨⟨g1, ⟨g2, g3⟩, ⟨g4, g5⟩, ⟨g6, g7⟩, g8, g9, g10⟩, h2', h3, h4, h5, h6⟩ := h
  have e : ∀ j, j ≠ 38 + 2 * i + 1 → pv (a.set (38 + 2 * i + 1) (nI q)) j = pv a j := fun j hj => pv_ne hj
  refine ⟨⟨by rw [List.length_set]; exact g1, ⟨g2, by rw [e _ (by omega)]; exact g3⟩, ⟨g4, by rw [e _ (by omega)]; exact g5⟩, ⟨g6, by rw [e _ (by omega)]; exact g7⟩, fun s hs => by rw [e _ (by omega)]; exact g8 s hs, fun s hs => by rw [e _ (by omega)]; exact g9 s hs, fun i' hi' => by rw [e _ (by omega)]; exact g10 i' hi'⟩, fun s hs => by rw [e _ (by omega)]; exact h2' s hs, fun i' hi' => ?_, by rw [e _ (by omega)]; exact h4, by rw [e _ (by omega)]; exact h5, by rw [e _ (by omega)]; exact h6⟩
  by_cases c : i' = i
  · subst c
    exact ⟨q, h1, h2, pv_eq (by omega)⟩
  · rw [e _ (by omega)]
    exact h3 i' hi'
/-- its own step stays open by the strength q -/
def mP (ro : Option (List ru_C)) (k m n i o : Nat) (a : List Int32) (q : Nat) : Prop := ∀ t, t < n → pv (dN ro k m (a.set (38 + 2 * i + 1) (nI q)) (t + 1)) (14 + o) < pv a 1
theorem cb_keepsOpen {N : Nat} {h0 h : ss_Hp} {T : List Nat} {a : List Int32} {fo x : Int32} {RS : List (List ru_C)} {US : List (List Int32)} {I : Nat → Option (List Int32 × Int32 × Int32)} {Z : Nat → List Int32} {k m d n i o q : Nat} (hc : cb_h h0 h T a fo x RS US I Z) (ht : ¬ pv a 0 ≤ nI 0) (hu : fo = -nI 1 ∨ ∃ r, r < RS.length ∧ fo = nI r) (h6 : RS.length ≤ 6) (hR : sa_R a k m d) (hn : n ≤ 1000) (hd : d < 10000) (hi : i < m) (ho : o < k) (hio : pv a (38 + 2 * i) = nI o) (hq1 : 0 < q) (hq2 : q ≤ 99) (hN : 5000 < N) : ∃ h', mm_F_keepsOpen N (some 111) (nI i) (nI q) (nI n) h = some (@ite _ (mP (ro_of fo RS) k m n i o a q) (Classical.propDecidable _) (nI 1) (nI 0), h') ∧ cb_h h0 h' T a fo x RS US I Z := by
  have hm4 := hR.1.2.2.1.1
  have hk8 := hR.1.2.1.1
  have hl := hR.1.1
  obtain ⟨h1, e1, w1⟩ := cb_start (N := N) hc ht hu h6 (by omega)
  obtain ⟨h2, e2, w2⟩ := cw_setstr (i := i) (y := nI q) w1 hl (by omega)
  have hk := cb_ck hc
  have hk1 := cw_ck w1
  have hk2 := cw_ck w2
  obtain ⟨v2, ⟨⟨bVx, bIx, bTx, bFx, bDx, bSx, bHx⟩, ⟨bR0x, bR1x, bR2x, bR3x, bR4x⟩, ⟨bFox, bXx, bNox⟩, ⟨bG0x, bG1x, bG2x, bG3x⟩, bOwnx, bStrx, bBesx, bSnx, bWlx, bNdx, bClx⟩⟩ := cb_r (cw_cb w2)
  have hRq := sa_R_str hR (show i < 4 by omega) hq1 hq2
  have e13 : pv a 13 = pv (a.set (38 + 2 * i + 1) (nI q)) 13 := (pv_ne (by omega)).symm
  rw [e13] at w2
  have own := bOwnx i (by omega)
  rw [hio] at own
  unfold mP
  generalize ro_of fo RS = ro at *
  generalize hbq : a.set (38 + 2 * i + 1) (nI q) = b at *
  have step : ∀ t h' th fa, t < n → cw_h h0 h' T a fo x RS US I Z ro (dN ro k m b t) (pv (dN ro k m b t) 13) th fa → ∃ h2 th fa, mm_F_keepsOpen_b31 N (some 111) (nI n) (nI o) (nI t, h') = some (if pv (dN ro k m b (t + 1)) (14 + o) < pv a 1 then .inl (nI (t + 1), h2) else .inr (.inr h2)) ∧ cw_h h0 h2 T a fo x RS US I Z ro (dN ro k m b (t + 1)) (pv (dN ro k m b (t + 1)) 13) th fa := by
    intro t h' th fa ht w
    obtain ⟨h2, p1, p2⟩ := cw_pass (N := N) w rfl (dN_R hRq t (by omega)) (by omega) (by omega)
    have ckw := cw_ck w
    have ckp := cw_ck p2
    obtain ⟨v3, ⟨⟨bVy, bIy, bTy, bFy, bDy, bSy, bHy⟩, ⟨bR0y, bR1y, bR2y, bR3y, bR4y⟩, ⟨bFoy, bXy, bNoy⟩, ⟨bG0y, bG1y, bG2y, bG3y⟩, bOwny, bStry, bBesy, bSny, bWly, bNdy, bCly⟩⟩ := cb_r (cw_cb p2)
    have hlt : ¬ nI n ≤ nI t := nI_ge ht (by omega)
    have sn : ss_ai h2 (some 104) 20 (nI o) = some (pv (dN ro k m b (t + 1)) (14 + o)) := cw_snow p2 (by omega)
    refine ⟨h2, _, _, ?_, p2⟩
    unfold mm_F_keepsOpen_b31
    by_cases c : pv (dN ro k m b (t + 1)) (14 + o) < pv a 1
    · simp (disch := omega) only [pb_its, pb_l2, pb_ll, nI_add, pb_mul, if_true, if_false, pb_bs, pb_b2n, pb_bz0, pb_bz1, pb_10, pb_01, pb_i31, ck_r111_2 ckw, hlt, p1, ck_is0 ckp, ck_r0_0 ckp, ck_r0_1 ckp, ck_r0_2 ckp, ck_r0_3 ckp, ck_r0_4 ckp, ck_r0_5 ckp, ck_r0_6 ckp, ck_r0_7 ckp, ck_r0_8 ckp, ck_r0_9 ckp, ck_is1 ckp, ck_r1_0 ckp, ck_is3 ckp, ck_r3_0 ckp, ck_r3_1 ckp, ck_is20 ckp, ck_r20_0 ckp, ck_r20_1 ckp, ck_r20_2 ckp, ck_is24 ckp, ck_r24_1 ckp, ck_r24_2 ckp, ck_r24_3 ckp, ck_r24_4 ckp, ck_is33 ckp, ck_r33_0 ckp, ck_r33_1 ckp, ck_is40 ckp, ck_r40_0 ckp, ck_is102 ckp, ck_r102_0 ckp, ck_r102_1 ckp, ck_r102_2 ckp, ck_r102_3 ckp, ck_r102_4 ckp, ck_r102_5 ckp, ck_is103 ckp, ck_r103_0 ckp, ck_r103_1 ckp, ck_is111 ckp, ck_r111_0 ckp, ck_r111_1 ckp, ck_r111_2 ckp, ck_r111_3 ckp, ck_r111_4 ckp, ck_is114 ckp, ck_r114_0 ckp, ck_r114_1 ckp, ck_r114_2 ckp, ck_r114_3 ckp, ck_r114_4 ckp, bVy, bIy, bTy, bFy, bDy, bSy, bHy, bR0y, bR1y, bR2y, bR3y, bR4y, bFoy, bXy, bNoy, bG0y, bG1y, bG2y, bG3y, sn, c]
    · simp (disch := omega) only [pb_its, pb_l2, pb_ll, nI_add, pb_mul, if_true, if_false, pb_bs, pb_b2n, pb_bz0, pb_bz1, pb_10, pb_01, pb_i31, ck_r111_2 ckw, hlt, p1, ck_is0 ckp, ck_r0_0 ckp, ck_r0_1 ckp, ck_r0_2 ckp, ck_r0_3 ckp, ck_r0_4 ckp, ck_r0_5 ckp, ck_r0_6 ckp, ck_r0_7 ckp, ck_r0_8 ckp, ck_r0_9 ckp, ck_is1 ckp, ck_r1_0 ckp, ck_is3 ckp, ck_r3_0 ckp, ck_r3_1 ckp, ck_is20 ckp, ck_r20_0 ckp, ck_r20_1 ckp, ck_r20_2 ckp, ck_is24 ckp, ck_r24_1 ckp, ck_r24_2 ckp, ck_r24_3 ckp, ck_r24_4 ckp, ck_is33 ckp, ck_r33_0 ckp, ck_r33_1 ckp, ck_is40 ckp, ck_r40_0 ckp, ck_is102 ckp, ck_r102_0 ckp, ck_r102_1 ckp, ck_r102_2 ckp, ck_r102_3 ckp, ck_r102_4 ckp, ck_r102_5 ckp, ck_is103 ckp, ck_r103_0 ckp, ck_r103_1 ckp, ck_is111 ckp, ck_r111_0 ckp, ck_r111_1 ckp, ck_r111_2 ckp, ck_r111_3 ckp, ck_r111_4 ckp, ck_is114 ckp, ck_r114_0 ckp, ck_r114_1 ckp, ck_r114_2 ckp, ck_r114_3 ckp, ck_r114_4 ckp, bVy, bIy, bTy, bFy, bDy, bSy, bHy, bR0y, bR1y, bR2y, bR3y, bR4y, bFoy, bXy, bNoy, bG0y, bG1y, bG2y, bG3y, sn, c]
  rcases ex_least (fun t => ¬ pv (dN ro k m b (t + 1)) (14 + o) < pv a 1) n with hno | ⟨t, t1, t2, t3⟩
  · have key := pb_for (body := mm_F_keepsOpen_b31 N (some 111) (nI n) (nI o)) n (fun i s => ∃ h', s = (nI i, h') ∧ ∃ th fa, cw_h h0 h' T a fo x RS US I Z ro (dN ro k m b i) (pv (dN ro k m b i) 13) th fa) (fun e => ∃ h', e = .inl h' ∧ cb_h h0 h' T a fo x RS US I Z) (N := N) (s := (nI 0, h2)) (by omega) ⟨_, rfl, _, _, w2⟩ (by
      rintro i s hi ⟨h', rfl, th, fa, w⟩
      left
      obtain ⟨h2, th2, fa2, p1, p2⟩ := step i h' th fa hi w
      rw [if_pos (Classical.not_not.mp (hno i hi))] at p1
      exact ⟨_, p1, h2, rfl, _, _, p2⟩) (by
      rintro s ⟨h', rfl, th, fa, w⟩
      refine ⟨_, ?_, h', rfl, cw_cb w⟩
      unfold mm_F_keepsOpen_b31
      simp (disch := omega) only [pb_its, pb_l2, pb_ll, nI_add, pb_mul, if_true, if_false, pb_bs, pb_b2n, pb_bz0, pb_bz1, pb_10, pb_01, pb_i31, nI_le (Nat.le_refl n) (by omega : n < 2 ^ 31)])
    obtain ⟨_, l1, h3, rfl, c3⟩ := key
    refine ⟨h3, ?_, c3⟩
    rw [pb_ct (fun t ht => Classical.not_not.mp (hno t ht))]
    unfold mm_F_keepsOpen
    simp (disch := omega) only [pb_its, pb_l2, pb_ll, nI_add, pb_mul, if_true, if_false, pb_bs, pb_b2n, pb_bz0, pb_bz1, pb_10, pb_01, pb_i31, ck_is0 hk, ck_r0_0 hk, ck_r0_1 hk, ck_r0_2 hk, ck_r0_3 hk, ck_r0_4 hk, ck_r0_5 hk, ck_r0_6 hk, ck_r0_7 hk, ck_r0_8 hk, ck_r0_9 hk, ck_is1 hk, ck_r1_0 hk, ck_is3 hk, ck_r3_0 hk, ck_r3_1 hk, ck_is20 hk, ck_r20_0 hk, ck_r20_1 hk, ck_r20_2 hk, ck_is24 hk, ck_r24_1 hk, ck_r24_2 hk, ck_r24_3 hk, ck_r24_4 hk, ck_is33 hk, ck_r33_0 hk, ck_r33_1 hk, ck_is40 hk, ck_r40_0 hk, ck_is102 hk, ck_r102_0 hk, ck_r102_1 hk, ck_r102_2 hk, ck_r102_3 hk, ck_r102_4 hk, ck_r102_5 hk, ck_is103 hk, ck_r103_0 hk, ck_r103_1 hk, ck_is111 hk, ck_r111_0 hk, ck_r111_1 hk, ck_r111_2 hk, ck_r111_3 hk, ck_r111_4 hk, ck_is114 hk, ck_r114_0 hk, ck_r114_1 hk, ck_r114_2 hk, ck_r114_3 hk, ck_r114_4 hk, e1, ck_is0 hk1, ck_r0_0 hk1, ck_r0_1 hk1, ck_r0_2 hk1, ck_r0_3 hk1, ck_r0_4 hk1, ck_r0_5 hk1, ck_r0_6 hk1, ck_r0_7 hk1, ck_r0_8 hk1, ck_r0_9 hk1, ck_is1 hk1, ck_r1_0 hk1, ck_is3 hk1, ck_r3_0 hk1, ck_r3_1 hk1, ck_is20 hk1, ck_r20_0 hk1, ck_r20_1 hk1, ck_r20_2 hk1, ck_is24 hk1, ck_r24_1 hk1, ck_r24_2 hk1, ck_r24_3 hk1, ck_r24_4 hk1, ck_is33 hk1, ck_r33_0 hk1, ck_r33_1 hk1, ck_is40 hk1, ck_r40_0 hk1, ck_is102 hk1, ck_r102_0 hk1, ck_r102_1 hk1, ck_r102_2 hk1, ck_r102_3 hk1, ck_r102_4 hk1, ck_r102_5 hk1, ck_is103 hk1, ck_r103_0 hk1, ck_r103_1 hk1, ck_is111 hk1, ck_r111_0 hk1, ck_r111_1 hk1, ck_r111_2 hk1, ck_r111_3 hk1, ck_r111_4 hk1, ck_is114 hk1, ck_r114_0 hk1, ck_r114_1 hk1, ck_r114_2 hk1, ck_r114_3 hk1, ck_r114_4 hk1, e2, ck_is0 hk2, ck_r0_0 hk2, ck_r0_1 hk2, ck_r0_2 hk2, ck_r0_3 hk2, ck_r0_4 hk2, ck_r0_5 hk2, ck_r0_6 hk2, ck_r0_7 hk2, ck_r0_8 hk2, ck_r0_9 hk2, ck_is1 hk2, ck_r1_0 hk2, ck_is3 hk2, ck_r3_0 hk2, ck_r3_1 hk2, ck_is20 hk2, ck_r20_0 hk2, ck_r20_1 hk2, ck_r20_2 hk2, ck_is24 hk2, ck_r24_1 hk2, ck_r24_2 hk2, ck_r24_3 hk2, ck_r24_4 hk2, ck_is33 hk2, ck_r33_0 hk2, ck_r33_1 hk2, ck_is40 hk2, ck_r40_0 hk2, ck_is102 hk2, ck_r102_0 hk2, ck_r102_1 hk2, ck_r102_2 hk2, ck_r102_3 hk2, ck_r102_4 hk2, ck_r102_5 hk2, ck_is103 hk2, ck_r103_0 hk2, ck_r103_1 hk2, ck_is111 hk2, ck_r111_0 hk2, ck_r111_1 hk2, ck_r111_2 hk2, ck_r111_3 hk2, ck_r111_4 hk2, ck_is114 hk2, ck_r114_0 hk2, ck_r114_1 hk2, ck_r114_2 hk2, ck_r114_3 hk2, ck_r114_4 hk2, bVx, bIx, bTx, bFx, bDx, bSx, bHx, bR0x, bR1x, bR2x, bR3x, bR4x, bFox, bXx, bNox, bG0x, bG1x, bG2x, bG3x, own, l1]
  · have key := pb_for (body := mm_F_keepsOpen_b31 N (some 111) (nI n) (nI o)) t (fun i s => ∃ h', s = (nI i, h') ∧ ∃ th fa, cw_h h0 h' T a fo x RS US I Z ro (dN ro k m b i) (pv (dN ro k m b i) 13) th fa) (fun e => ∃ h', e = .inr h' ∧ cb_h h0 h' T a fo x RS US I Z) (N := N) (s := (nI 0, h2)) (by omega) ⟨_, rfl, _, _, w2⟩ (by
      rintro i s hi ⟨h', rfl, th, fa, w⟩
      left
      obtain ⟨h2, th2, fa2, p1, p2⟩ := step i h' th fa (by omega) w
      rw [if_pos (Classical.not_not.mp (t3 i hi))] at p1
      exact ⟨_, p1, h2, rfl, _, _, p2⟩) (by
      rintro s ⟨h', rfl, th, fa, w⟩
      obtain ⟨h2, th2, fa2, p1, p2⟩ := step t h' th fa t1 w
      rw [if_neg t2] at p1
      exact ⟨_, p1, h2, rfl, cw_cb p2⟩)
    obtain ⟨_, l1, h3, rfl, c3⟩ := key
    refine ⟨h3, ?_, c3⟩
    rw [pb_cf (fun q => t2 (q t t1))]
    unfold mm_F_keepsOpen
    simp (disch := omega) only [pb_its, pb_l2, pb_ll, nI_add, pb_mul, if_true, if_false, pb_bs, pb_b2n, pb_bz0, pb_bz1, pb_10, pb_01, pb_i31, ck_is0 hk, ck_r0_0 hk, ck_r0_1 hk, ck_r0_2 hk, ck_r0_3 hk, ck_r0_4 hk, ck_r0_5 hk, ck_r0_6 hk, ck_r0_7 hk, ck_r0_8 hk, ck_r0_9 hk, ck_is1 hk, ck_r1_0 hk, ck_is3 hk, ck_r3_0 hk, ck_r3_1 hk, ck_is20 hk, ck_r20_0 hk, ck_r20_1 hk, ck_r20_2 hk, ck_is24 hk, ck_r24_1 hk, ck_r24_2 hk, ck_r24_3 hk, ck_r24_4 hk, ck_is33 hk, ck_r33_0 hk, ck_r33_1 hk, ck_is40 hk, ck_r40_0 hk, ck_is102 hk, ck_r102_0 hk, ck_r102_1 hk, ck_r102_2 hk, ck_r102_3 hk, ck_r102_4 hk, ck_r102_5 hk, ck_is103 hk, ck_r103_0 hk, ck_r103_1 hk, ck_is111 hk, ck_r111_0 hk, ck_r111_1 hk, ck_r111_2 hk, ck_r111_3 hk, ck_r111_4 hk, ck_is114 hk, ck_r114_0 hk, ck_r114_1 hk, ck_r114_2 hk, ck_r114_3 hk, ck_r114_4 hk, e1, ck_is0 hk1, ck_r0_0 hk1, ck_r0_1 hk1, ck_r0_2 hk1, ck_r0_3 hk1, ck_r0_4 hk1, ck_r0_5 hk1, ck_r0_6 hk1, ck_r0_7 hk1, ck_r0_8 hk1, ck_r0_9 hk1, ck_is1 hk1, ck_r1_0 hk1, ck_is3 hk1, ck_r3_0 hk1, ck_r3_1 hk1, ck_is20 hk1, ck_r20_0 hk1, ck_r20_1 hk1, ck_r20_2 hk1, ck_is24 hk1, ck_r24_1 hk1, ck_r24_2 hk1, ck_r24_3 hk1, ck_r24_4 hk1, ck_is33 hk1, ck_r33_0 hk1, ck_r33_1 hk1, ck_is40 hk1, ck_r40_0 hk1, ck_is102 hk1, ck_r102_0 hk1, ck_r102_1 hk1, ck_r102_2 hk1, ck_r102_3 hk1, ck_r102_4 hk1, ck_r102_5 hk1, ck_is103 hk1, ck_r103_0 hk1, ck_r103_1 hk1, ck_is111 hk1, ck_r111_0 hk1, ck_r111_1 hk1, ck_r111_2 hk1, ck_r111_3 hk1, ck_r111_4 hk1, ck_is114 hk1, ck_r114_0 hk1, ck_r114_1 hk1, ck_r114_2 hk1, ck_r114_3 hk1, ck_r114_4 hk1, e2, ck_is0 hk2, ck_r0_0 hk2, ck_r0_1 hk2, ck_r0_2 hk2, ck_r0_3 hk2, ck_r0_4 hk2, ck_r0_5 hk2, ck_r0_6 hk2, ck_r0_7 hk2, ck_r0_8 hk2, ck_r0_9 hk2, ck_is1 hk2, ck_r1_0 hk2, ck_is3 hk2, ck_r3_0 hk2, ck_r3_1 hk2, ck_is20 hk2, ck_r20_0 hk2, ck_r20_1 hk2, ck_r20_2 hk2, ck_is24 hk2, ck_r24_1 hk2, ck_r24_2 hk2, ck_r24_3 hk2, ck_r24_4 hk2, ck_is33 hk2, ck_r33_0 hk2, ck_r33_1 hk2, ck_is40 hk2, ck_r40_0 hk2, ck_is102 hk2, ck_r102_0 hk2, ck_r102_1 hk2, ck_r102_2 hk2, ck_r102_3 hk2, ck_r102_4 hk2, ck_r102_5 hk2, ck_is103 hk2, ck_r103_0 hk2, ck_r103_1 hk2, ck_is111 hk2, ck_r111_0 hk2, ck_r111_1 hk2, ck_r111_2 hk2, ck_r111_3 hk2, ck_r111_4 hk2, ck_is114 hk2, ck_r114_0 hk2, ck_r114_1 hk2, ck_r114_2 hk2, ck_r114_3 hk2, ck_r114_4 hk2, bVx, bIx, bTx, bFx, bDx, bSx, bHx, bR0x, bR1x, bR2x, bR3x, bR4x, bFox, bXx, bNox, bG0x, bG1x, bG2x, bG3x, own, l1]
theorem mb_staysOpen {N : Nat} {h0 h : ss_Hp} {T : List Nat} {a : List Int32} {fo x : Int32} {RS : List (List ru_C)} {US : List (List Int32)} {I : Nat → Option (List Int32 × Int32 × Int32)} {th2 fa2 : List Int32} {dx2 : Int64} {Z : Nat → List Int32} {k m d n i o q : Nat} (hc : mb_h h0 h T a fo x RS US I fo (a.set (38 + 2 * i + 1) (nI q)) th2 fa2 (sl a 10 20) dx2 Z) (hu : fo = -nI 1 ∨ ∃ r, r < RS.length ∧ fo = nI r) (h6 : RS.length ≤ 6) (hR : sa_R a k m d) (hn : n ≤ 1000) (hd : d < 10000) (hi : i < m) (ho : o < k) (hq1 : 0 < q) (hq2 : q ≤ 99) (hN : 5000 < N) : ∃ h' th fa, mm_M_staysOpen N (some 118) (nI o) (nI n) h = some (@ite _ (mP (ro_of fo RS) k m n i o a q) (Classical.propDecidable _) (nI 1) (nI 0), h') ∧ mb_h h0 h' T a fo x RS US I fo (a.set (38 + 2 * i + 1) (nI q)) th fa (sl a 10 20) dx2 Z := by
  have hm4 := hR.1.2.2.1.1
  have hk8 := hR.1.2.1.1
  have hl := hR.1.1
  have hRq := sa_R_str hR (show i < 4 by omega) hq1 hq2
  have h1b : ∀ t, t ≤ n → pv (dN (ro_of fo RS) k m (a.set (38 + 2 * i + 1) (nI q)) t) 1 = pv a 1 := fun t ht => by rw [dN_pv hRq (by omega) t (by omega), pv_ne (by omega)]
  have hk := mb_mk hc
  have es : sl a 10 20 = sl (a.set (38 + 2 * i + 1) (nI q)) 10 20 := (sl_ne (by omega)).symm
  unfold mP
  generalize hbq : a.set (38 + 2 * i + 1) (nI q) = b at *
  have hro : ∃ ro, ro = ro_of fo RS := ⟨_, rfl⟩
  obtain ⟨ro, hro⟩ := hro
  rw [← hro] at h1b ⊢
  have step : ∀ t h' th fa, t < n → mb_h h0 h' T a fo x RS US I fo (dN ro k m b t) th fa (sl a 10 20) dx2 Z → ∃ h2 th fa, mm_M_staysOpen_b5 N (some 118) (nI o) (nI n) (nI 1, nI t, h') = some (.inl (if pv (dN ro k m b (t + 1)) (14 + o) < pv a 1 then nI 1 else nI 0, nI (t + 1), h2)) ∧ mb_h h0 h2 T a fo x RS US I fo (dN ro k m b (t + 1)) th fa (sl a 10 20) dx2 Z := by
    intro t h' th fa ht w
    obtain ⟨h2, p1, p2⟩ := mb_pass (N := N) w (dN_R hRq t (by omega)) hu h6 (by omega)
    rw [← hro] at p1 p2
    have hRn := dN_R (ro := ro) hRq (t + 1) (by omega)
    have p3 : mb_h h0 h2 T a fo x RS US I fo (dN ro k m b (t + 1)) (dT ro k m (dN ro k m b t) th) (dF ro k m (dN ro k m b t) fa) (sl a 10 20) dx2 Z := p2
    have ic := mb_isClosed (N := N) (s := o) p3 hRn.1.1 (by omega)
    rw [h1b (t + 1) (by omega)] at ic
    have hlt : ¬ nI n ≤ nI t := nI_ge ht (by omega)
    refine ⟨h2, _, _, ?_, p2⟩
    unfold mm_M_staysOpen_b5 mm_M_staysOpen_j33
    by_cases c : pv (dN ro k m b (t + 1)) (14 + o) < pv a 1
    · simp (disch := omega) only [pb_its, pb_l2, pb_ll, nI_add, pb_mul, if_true, if_false, pb_bs, pb_b2n, pb_bz0, pb_bz1, pb_10, pb_01, pb_i31, hlt, p1, ic, c]
    · simp (disch := omega) only [pb_its, pb_l2, pb_ll, nI_add, pb_mul, if_true, if_false, pb_bs, pb_b2n, pb_bz0, pb_bz1, pb_10, pb_01, pb_i31, hlt, p1, ic, c]
  have fin : ∀ t, t ≤ n → ∀ h' th fa, mb_h h0 h' T a fo x RS US I fo (dN ro k m b t) th fa (sl a 10 20) dx2 Z → ∃ h2, mm_M_laysBack N (some 118) h' = some h2 ∧ mb_h h0 h2 T a fo x RS US I fo b th fa (sl a 10 20) dx2 Z := by
    intro t ht h' th fa w
    have hRn := dN_R (ro := ro) hRq t (by omega)
    obtain ⟨g3, f3, m3⟩ := mb_lays (N := N) w hRn.1.1 (by omega)
    rw [es, sa_back hRq.1.1 hRn.1.1 (fun j hj => dN_pv hRq (by omega) t (by omega)), ← es] at m3
    exact ⟨g3, f3, m3⟩
  rcases ex_least (fun t => ¬ pv (dN ro k m b (t + 1)) (14 + o) < pv a 1) n with hno | ⟨t, t1, t2, t3⟩
  · have key := pb_for (body := mm_M_staysOpen_b5 N (some 118) (nI o) (nI n)) n (fun i s => ∃ h', s = (nI 1, nI i, h') ∧ ∃ th fa, mb_h h0 h' T a fo x RS US I fo (dN ro k m b i) th fa (sl a 10 20) dx2 Z) (fun e => ∃ h' th fa, e = (nI 1, h') ∧ mb_h h0 h' T a fo x RS US I fo (dN ro k m b n) th fa (sl a 10 20) dx2 Z) (N := N) (s := (nI 1, nI 0, h)) (by omega) ⟨_, rfl, _, _, hc⟩ (by
      rintro i s hi ⟨h', rfl, th, fa, w⟩
      left
      obtain ⟨h2, th2, fa2, p1, p2⟩ := step i h' th fa hi w
      rw [if_pos (Classical.not_not.mp (hno i hi))] at p1
      exact ⟨_, p1, h2, rfl, _, _, p2⟩) (by
      rintro s ⟨h', rfl, th, fa, w⟩
      refine ⟨_, ?_, h', th, fa, rfl, w⟩
      unfold mm_M_staysOpen_b5
      simp (disch := omega) only [pb_its, pb_l2, pb_ll, nI_add, pb_mul, if_true, if_false, pb_bs, pb_b2n, pb_bz0, pb_bz1, pb_10, pb_01, pb_i31, nI_le (Nat.le_refl n) (by omega : n < 2 ^ 31)])
    obtain ⟨_, l1, h3, th', fa', rfl, c3⟩ := key
    obtain ⟨h4, f4, c4⟩ := fin n (Nat.le_refl n) h3 th' fa' c3
    refine ⟨h4, th', fa', ?_, c4⟩
    rw [pb_ct (fun t ht => Classical.not_not.mp (hno t ht))]
    unfold mm_M_staysOpen
    simp (disch := omega) only [pb_its, pb_l2, pb_ll, nI_add, pb_mul, if_true, if_false, pb_bs, pb_b2n, pb_bz0, pb_bz1, pb_10, pb_01, pb_i31, mk_is hk, mk_g0 hk, mk_g1 hk, mk_g2 hk, mk_g3 hk, mk_g4 hk, mk_g5 hk, mk_g6 hk, mk_g7 hk, mk_g8 hk, mk_g9 hk, mk_g10 hk, mk_g11 hk, mk_g12 hk, mk_g13 hk, mk_g14 hk, mk_g15 hk, mk_g16 hk, mk_g17 hk, mk_g18 hk, mk_g19 hk, mk_g20 hk, mk_g21 hk, mk_g22 hk, l1, f4]
  · have key := pb_for (body := mm_M_staysOpen_b5 N (some 118) (nI o) (nI n)) (t + 1) (fun i s => ∃ h', s = (if i ≤ t then nI 1 else nI 0, nI i, h') ∧ ∃ th fa, mb_h h0 h' T a fo x RS US I fo (dN ro k m b i) th fa (sl a 10 20) dx2 Z) (fun e => ∃ h' th fa, e = (nI 0, h') ∧ mb_h h0 h' T a fo x RS US I fo (dN ro k m b (t + 1)) th fa (sl a 10 20) dx2 Z) (N := N) (s := (nI 1, nI 0, h)) (by omega) ⟨_, by rw [if_pos (Nat.zero_le t)], _, _, hc⟩ (by
      rintro i s hi ⟨h', rfl, th, fa, w⟩
      left
      obtain ⟨h2, th2, fa2, p1, p2⟩ := step i h' th fa (by omega) w
      rw [if_pos (show i ≤ t by omega)]
      refine ⟨_, p1, h2, ?_, _, _, p2⟩
      by_cases c : i = t
      · rw [c, if_neg t2, if_neg (by omega)]
      · rw [if_pos (Classical.not_not.mp (t3 i (by omega))), if_pos (by omega)]) (by
      rintro s ⟨h', rfl, th, fa, w⟩
      refine ⟨_, ?_, h', th, fa, rfl, w⟩
      rw [if_neg (by omega)]
      unfold mm_M_staysOpen_b5
      by_cases c : nI n ≤ nI (t + 1)
      · simp (disch := omega) only [pb_its, pb_l2, pb_ll, nI_add, pb_mul, if_true, if_false, pb_bs, pb_b2n, pb_bz0, pb_bz1, pb_10, pb_01, pb_i31, c]
      · simp (disch := omega) only [pb_its, pb_l2, pb_ll, nI_add, pb_mul, if_true, if_false, pb_bs, pb_b2n, pb_bz0, pb_bz1, pb_10, pb_01, pb_i31, c])
    obtain ⟨_, l1, h3, th', fa', rfl, c3⟩ := key
    obtain ⟨h4, f4, c4⟩ := fin (t + 1) (by omega) h3 th' fa' c3
    refine ⟨h4, th', fa', ?_, c4⟩
    rw [pb_cf (fun q => t2 (q t t1))]
    unfold mm_M_staysOpen
    simp (disch := omega) only [pb_its, pb_l2, pb_ll, nI_add, pb_mul, if_true, if_false, pb_bs, pb_b2n, pb_bz0, pb_bz1, pb_10, pb_01, pb_i31, mk_is hk, mk_g0 hk, mk_g1 hk, mk_g2 hk, mk_g3 hk, mk_g4 hk, mk_g5 hk, mk_g6 hk, mk_g7 hk, mk_g8 hk, mk_g9 hk, mk_g10 hk, mk_g11 hk, mk_g12 hk, mk_g13 hk, mk_g14 hk, mk_g15 hk, mk_g16 hk, mk_g17 hk, mk_g18 hk, mk_g19 hk, mk_g20 hk, mk_g21 hk, mk_g22 hk, l1, f4]
theorem jx_might {N : Nat} {h h2 : ss_Hp} {z y : Int32} {T : List Nat} {a : List Int32} {fo x : Int32} {RS : List (List ru_C)} {US : List (List Int32)} {I : Nat → Option (List Int32 × Int32 × Int32)} (hc : cl_h h T a fo x RS US I) (hm : mo_h h2 T a fo x RS US I) (ha : as_ok T a fo x RS US I) (hN : 5000 < N) : jo (mm_S_might N (some 0) z y h) (mm_M_might N (some 118) z y h2) h h2 := by
  obtain ⟨Z, hb⟩ := cb_of hc
  obtain ⟨v, ⟨⟨bV, bI, bT, bF, bD, bS, bH⟩, ⟨bR0, bR1, bR2, bR3, bR4⟩, ⟨bFo, bX, bNo⟩, ⟨bG0, bG1, bG2, bG3⟩, bOwn, bStr, bBes, bSn, bWl, bNd, bCl⟩⟩ := cb_r hb
  have hk := cb_ck hb
  obtain ⟨th, fa, kp, dx, Y, hm1⟩ := mb_of hm
  have hk2 := mb_mk hm1
  have ha0 := ha
  obtain ⟨⟨Ht1, Ht2⟩, ⟨k, m, d, Hsd, Hul, Hu⟩, HRS, Hfo, Hx, HI⟩ := ha
  have Hok := Hsd.1
  obtain ⟨Hl, ⟨Hk, H2⟩, ⟨Hm, H3⟩, ⟨Hd, H10⟩, Hwl, Hbe, How⟩ := Hok
  by_cases cs : ¬ sp_ho a z
  · refine jo_no hc hm ha0 (r := -nI 1) ?_ ?_
    · unfold mm_S_might mm_S_might_j30 mm_S_might_j31
      simp (disch := omega) only [pb_its, pb_l2, pb_ll, nI_add, pb_mul, if_true, if_false, pb_bs, pb_b2n, pb_bz0, pb_bz1, pb_10, pb_01, pb_i31, ck_is0 hk, ck_r0_0 hk, ck_r0_1 hk, ck_r0_2 hk, ck_r0_3 hk, ck_r0_4 hk, ck_r0_5 hk, ck_r0_6 hk, ck_r0_7 hk, ck_r0_8 hk, ck_r0_9 hk, ck_is1 hk, ck_r1_0 hk, ck_is3 hk, ck_r3_0 hk, ck_r3_1 hk, ck_is20 hk, ck_r20_0 hk, ck_r20_1 hk, ck_r20_2 hk, ck_is24 hk, ck_r24_1 hk, ck_r24_2 hk, ck_r24_3 hk, ck_r24_4 hk, ck_is33 hk, ck_r33_0 hk, ck_r33_1 hk, ck_is40 hk, ck_r40_0 hk, ck_is102 hk, ck_r102_0 hk, ck_r102_1 hk, ck_r102_2 hk, ck_r102_3 hk, ck_r102_4 hk, ck_r102_5 hk, ck_is103 hk, ck_r103_0 hk, ck_r103_1 hk, ck_is111 hk, ck_r111_0 hk, ck_r111_1 hk, ck_r111_2 hk, ck_r111_3 hk, ck_r111_4 hk, ck_is114 hk, ck_r114_0 hk, ck_r114_1 hk, ck_r114_2 hk, ck_r114_3 hk, ck_r114_4 hk, bV, bI, bT, bF, bD, bS, bH, bR0, bR1, bR2, bR3, bR4, bFo, bX, bNo, bG0, bG1, bG2, bG3, cb_isHouse hb, pb_cf cs]
    · unfold mm_M_might mm_M_might_j20
      simp (disch := omega) only [pb_its, pb_l2, pb_ll, nI_add, pb_mul, if_true, if_false, pb_bs, pb_b2n, pb_bz0, pb_bz1, pb_10, pb_01, pb_i31, mk_is hk2, mk_g0 hk2, mk_g1 hk2, mk_g2 hk2, mk_g3 hk2, mk_g4 hk2, mk_g5 hk2, mk_g6 hk2, mk_g7 hk2, mk_g8 hk2, mk_g9 hk2, mk_g10 hk2, mk_g11 hk2, mk_g12 hk2, mk_g13 hk2, mk_g14 hk2, mk_g15 hk2, mk_g16 hk2, mk_g17 hk2, mk_g18 hk2, mk_g19 hk2, mk_g20 hk2, mk_g21 hk2, mk_g22 hk2, mb_isHouseC hm1 Hl, pb_cf cs]
  replace cs := Classical.not_not.mp cs
  by_cases cy : ¬ sp_in y 1 30
  · refine jo_no hc hm ha0 (r := -nI 1) ?_ ?_
    · unfold mm_S_might mm_S_might_j30 mm_S_might_j31
      simp (disch := omega) only [pb_its, pb_l2, pb_ll, nI_add, pb_mul, if_true, if_false, pb_bs, pb_b2n, pb_bz0, pb_bz1, pb_10, pb_01, pb_i31, ck_is0 hk, ck_r0_0 hk, ck_r0_1 hk, ck_r0_2 hk, ck_r0_3 hk, ck_r0_4 hk, ck_r0_5 hk, ck_r0_6 hk, ck_r0_7 hk, ck_r0_8 hk, ck_r0_9 hk, ck_is1 hk, ck_r1_0 hk, ck_is3 hk, ck_r3_0 hk, ck_r3_1 hk, ck_is20 hk, ck_r20_0 hk, ck_r20_1 hk, ck_r20_2 hk, ck_is24 hk, ck_r24_1 hk, ck_r24_2 hk, ck_r24_3 hk, ck_r24_4 hk, ck_is33 hk, ck_r33_0 hk, ck_r33_1 hk, ck_is40 hk, ck_r40_0 hk, ck_is102 hk, ck_r102_0 hk, ck_r102_1 hk, ck_r102_2 hk, ck_r102_3 hk, ck_r102_4 hk, ck_r102_5 hk, ck_is103 hk, ck_r103_0 hk, ck_r103_1 hk, ck_is111 hk, ck_r111_0 hk, ck_r111_1 hk, ck_r111_2 hk, ck_r111_3 hk, ck_r111_4 hk, ck_is114 hk, ck_r114_0 hk, ck_r114_1 hk, ck_r114_2 hk, ck_r114_3 hk, ck_r114_4 hk, bV, bI, bT, bF, bD, bS, bH, bR0, bR1, bR2, bR3, bR4, bFo, bX, bNo, bG0, bG1, bG2, bG3, cb_isHouse hb, pb_ct cs, pq_withinC, pb_cf cy]
    · unfold mm_M_might mm_M_might_j20
      simp (disch := omega) only [pb_its, pb_l2, pb_ll, nI_add, pb_mul, if_true, if_false, pb_bs, pb_b2n, pb_bz0, pb_bz1, pb_10, pb_01, pb_i31, mk_is hk2, mk_g0 hk2, mk_g1 hk2, mk_g2 hk2, mk_g3 hk2, mk_g4 hk2, mk_g5 hk2, mk_g6 hk2, mk_g7 hk2, mk_g8 hk2, mk_g9 hk2, mk_g10 hk2, mk_g11 hk2, mk_g12 hk2, mk_g13 hk2, mk_g14 hk2, mk_g15 hk2, mk_g16 hk2, mk_g17 hk2, mk_g18 hk2, mk_g19 hk2, mk_g20 hk2, mk_g21 hk2, mk_g22 hk2, mb_isHouseC hm1 Hl, pb_ct cs, po_inC, pb_cf cy]
  replace cy := Classical.not_not.mp cy
  obtain ⟨i, hi, rfl⟩ := sp_ho_n Hm H3 cs
  obtain ⟨n, -, hn, rfl⟩ := sp_in_n cy (by omega) (by omega)
  have ht := sd_step Hsd (Or.inr (by omega))
  have hR := sd_told Hsd ht
  have Hd9 : d ≤ 999 := Hsd.2.2.2.2.1
  obtain ⟨o, ho, hio⟩ := How i hi
  obtain ⟨g1, f1, m1⟩ := mb_keeps (N := N) hm1 Hl (by omega)
  have m1' : mb_h h2 g1 T a fo x RS US I fo (a.set (38 + 2 * i + 1) (pv a (38 + 2 * i + 1))) th fa (sl a 10 20) dx Y := by
    rw [pb_self (by omega)]
    exact m1
  have str := mb_str (N := N) (i := i) hm1 Hl (by omega)
  have mstep : ∀ q h' y th fa, 0 < q → q ≤ 99 → mb_h h2 h' T a fo x RS US I fo (a.set (38 + 2 * i + 1) y) th fa (sl a 10 20) dx Y → ∃ h3 th fa, mm_M_might_b39 N (some 118) (nI i) (nI n) (pv a (38 + 2 * i + 1)) (-nI 2, nI q, h') = some (.inl (@ite _ (mP (ro_of fo RS) k m n i o a q) (Classical.propDecidable _) (nI q) (-nI 2), nI (q + 1), h3)) ∧ mb_h h2 h3 T a fo x RS US I fo (a.set (38 + 2 * i + 1) (nI q)) th fa (sl a 10 20) dx Y := by
    intro q h' y th fa hq1 hq2 w
    have hkq := mb_mk w
    obtain ⟨g3, f3, m3⟩ := mb_set (i := 38 + 2 * i + 1) (y := nI q) w (by rw [List.length_set]; exact Hl) (by omega)
    rw [List.set_set] at m3
    have own := mb_own (N := N) (i := i) m3 (by rw [List.length_set]; exact Hl) (by omega)
    rw [pv_ne (by omega), hio] at own
    obtain ⟨g4, th4, fa4, f4, m4⟩ := mb_staysOpen (N := N) (n := n) (o := o) m3 Hfo HRS hR (by omega) (by omega) hi ho hq1 hq2 hN
    have n1 : ¬ nI 99 < nI q := nI_nlt (by omega) (by omega)
    have n2 : ¬ nI 0 ≤ -nI 2 := by decide
    refine ⟨g4, th4, fa4, ?_, m4⟩
    unfold mm_M_might_b39 mm_M_might_j83
    by_cases c : mP (ro_of fo RS) k m n i o a q
    · rw [pb_ct c] at f4
      rw [if_pos c]
      simp (disch := omega) only [pb_its, pb_l2, pb_ll, nI_add, pb_mul, if_true, if_false, pb_bs, pb_b2n, pb_bz0, pb_bz1, pb_10, pb_01, pb_i31, n1, n2, mk_is hkq, mk_g0 hkq, mk_g1 hkq, mk_g2 hkq, mk_g3 hkq, mk_g4 hkq, mk_g5 hkq, mk_g6 hkq, mk_g7 hkq, mk_g8 hkq, mk_g9 hkq, mk_g10 hkq, mk_g11 hkq, mk_g12 hkq, mk_g13 hkq, mk_g14 hkq, mk_g15 hkq, mk_g16 hkq, mk_g17 hkq, mk_g18 hkq, mk_g19 hkq, mk_g20 hkq, mk_g21 hkq, mk_g22 hkq, f3, own, f4]
    · rw [pb_cf c] at f4
      rw [if_neg c]
      simp (disch := omega) only [pb_its, pb_l2, pb_ll, nI_add, pb_mul, if_true, if_false, pb_bs, pb_b2n, pb_bz0, pb_bz1, pb_10, pb_01, pb_i31, n1, n2, mk_is hkq, mk_g0 hkq, mk_g1 hkq, mk_g2 hkq, mk_g3 hkq, mk_g4 hkq, mk_g5 hkq, mk_g6 hkq, mk_g7 hkq, mk_g8 hkq, mk_g9 hkq, mk_g10 hkq, mk_g11 hkq, mk_g12 hkq, mk_g13 hkq, mk_g14 hkq, mk_g15 hkq, mk_g16 hkq, mk_g17 hkq, mk_g18 hkq, mk_g19 hkq, mk_g20 hkq, mk_g21 hkq, mk_g22 hkq, f3, own, f4]
  have bk : ∀ h' y th fa, mb_h h2 h' T a fo x RS US I fo (a.set (38 + 2 * i + 1) y) th fa (sl a 10 20) dx Y → ∃ h3, ss_ui h' (some 128) 20 (nI (38 + 2 * i + 1)) (pv a (38 + 2 * i + 1)) = some h3 ∧ mb_h h2 h3 T a fo x RS US I fo a th fa (sl a 10 20) dx Y := by
    intro h' y th fa w
    obtain ⟨g3, f3, m3⟩ := mb_set (i := 38 + 2 * i + 1) (y := pv a (38 + 2 * i + 1)) w (by rw [List.length_set]; exact Hl) (by omega)
    rw [List.set_set, pb_self (by omega)] at m3
    exact ⟨g3, f3, m3⟩
  have cstep : ∀ q h', 0 < q → q ≤ 99 → cb_h h h' T a fo x RS US I Z → ∃ h3, mm_F_leastStrength_b2 N (some 111) (nI i) (nI n) (nI q, h') = some (@ite _ (mP (ro_of fo RS) k m n i o a q) (Classical.propDecidable _) (.inr (.inr (nI q, h3))) (.inl (nI (q + 1), h3))) ∧ cb_h h h3 T a fo x RS US I Z := by
    intro q h' hq1 hq2 w
    obtain ⟨h3, e3, c3⟩ := cb_keepsOpen (N := N) (n := n) w ht Hfo HRS hR (by omega) (by omega) hi ho hio hq1 hq2 hN
    have n1 : ¬ nI 99 < nI q := nI_nlt (by omega) (by omega)
    refine ⟨h3, ?_, c3⟩
    unfold mm_F_leastStrength_b2
    by_cases c : mP (ro_of fo RS) k m n i o a q
    · rw [pb_ct c] at e3
      rw [if_pos c]
      simp (disch := omega) only [pb_its, pb_l2, pb_ll, nI_add, pb_mul, if_true, if_false, pb_bs, pb_b2n, pb_bz0, pb_bz1, pb_10, pb_01, pb_i31, n1, e3]
    · rw [pb_cf c] at e3
      rw [if_neg c]
      simp (disch := omega) only [pb_its, pb_l2, pb_ll, nI_add, pb_mul, if_true, if_false, pb_bs, pb_b2n, pb_bz0, pb_bz1, pb_10, pb_01, pb_i31, n1, e3]
  rcases ex_least (fun q => mP (ro_of fo RS) k m n i o a (q + 1)) 99 with hno | ⟨q, q1, q2, q3⟩
  · have key := pb_for (body := mm_F_leastStrength_b2 N (some 111) (nI i) (nI n)) 99 (fun t s => ∃ h', s = (nI (t + 1), h') ∧ cb_h h h' T a fo x RS US I Z) (fun e => ∃ h', e = .inl h' ∧ cb_h h h' T a fo x RS US I Z) (N := N) (s := (nI 1, h)) (by omega) ⟨_, rfl, hb⟩ (by
      rintro t s ht ⟨h', rfl, w⟩
      left
      obtain ⟨h3, p1, p2⟩ := cstep (t + 1) h' (by omega) (by omega) w
      rw [if_neg (hno t ht)] at p1
      exact ⟨_, p1, h3, rfl, p2⟩) (by
      rintro s ⟨h', rfl, w⟩
      refine ⟨_, ?_, h', rfl, w⟩
      unfold mm_F_leastStrength_b2
      have n1 : nI 99 < nI (99 + 1) := nI_lt (by omega) (by omega)
      simp (disch := omega) only [pb_its, pb_l2, pb_ll, nI_add, pb_mul, if_true, if_false, pb_bs, pb_b2n, pb_bz0, pb_bz1, pb_10, pb_01, pb_i31, n1])
    obtain ⟨_, l1, h3, rfl, c3⟩ := key
    have key := pb_for (body := mm_M_might_b39 N (some 118) (nI i) (nI n) (pv a (38 + 2 * i + 1))) 99 (fun t s => ∃ h', s = (-nI 2, nI (t + 1), h') ∧ ∃ y th fa, mb_h h2 h' T a fo x RS US I fo (a.set (38 + 2 * i + 1) y) th fa (sl a 10 20) dx Y) (fun e => ∃ h' y th fa, e = (-nI 2, h') ∧ mb_h h2 h' T a fo x RS US I fo (a.set (38 + 2 * i + 1) y) th fa (sl a 10 20) dx Y) (N := N) (s := (-nI 2, nI 1, g1)) (by omega) ⟨_, rfl, _, _, _, m1'⟩ (by
      rintro t s ht ⟨h', rfl, y, th, fa, w⟩
      left
      obtain ⟨h3, th3, fa3, p1, p2⟩ := mstep (t + 1) h' y th fa (by omega) (by omega) w
      rw [if_neg (hno t ht)] at p1
      exact ⟨_, p1, h3, rfl, _, _, _, p2⟩) (by
      rintro s ⟨h', rfl, y, th, fa, w⟩
      refine ⟨_, ?_, h', y, th, fa, rfl, w⟩
      unfold mm_M_might_b39
      have n1 : nI 99 < nI (99 + 1) := nI_lt (by omega) (by omega)
      simp (disch := omega) only [pb_its, pb_l2, pb_ll, nI_add, pb_mul, if_true, if_false, pb_bs, pb_b2n, pb_bz0, pb_bz1, pb_10, pb_01, pb_i31, n1])
    obtain ⟨_, l2, g3, y', th', fa', rfl, m3⟩ := key
    obtain ⟨g4, f4, m4⟩ := bk g3 y' th' fa' m3
    have hkm := mb_mk m3
    refine jo_ask ha0 c3 m4 (r := -nI 2) ?_ ?_
    · unfold mm_S_might mm_S_might_j31 mm_F_leastStrength
      simp (disch := omega) only [pb_its, pb_l2, pb_ll, nI_add, pb_mul, if_true, if_false, pb_bs, pb_b2n, pb_bz0, pb_bz1, pb_10, pb_01, pb_i31, ck_is0 hk, ck_r0_0 hk, ck_r0_1 hk, ck_r0_2 hk, ck_r0_3 hk, ck_r0_4 hk, ck_r0_5 hk, ck_r0_6 hk, ck_r0_7 hk, ck_r0_8 hk, ck_r0_9 hk, ck_is1 hk, ck_r1_0 hk, ck_is3 hk, ck_r3_0 hk, ck_r3_1 hk, ck_is20 hk, ck_r20_0 hk, ck_r20_1 hk, ck_r20_2 hk, ck_is24 hk, ck_r24_1 hk, ck_r24_2 hk, ck_r24_3 hk, ck_r24_4 hk, ck_is33 hk, ck_r33_0 hk, ck_r33_1 hk, ck_is40 hk, ck_r40_0 hk, ck_is102 hk, ck_r102_0 hk, ck_r102_1 hk, ck_r102_2 hk, ck_r102_3 hk, ck_r102_4 hk, ck_r102_5 hk, ck_is103 hk, ck_r103_0 hk, ck_r103_1 hk, ck_is111 hk, ck_r111_0 hk, ck_r111_1 hk, ck_r111_2 hk, ck_r111_3 hk, ck_r111_4 hk, ck_is114 hk, ck_r114_0 hk, ck_r114_1 hk, ck_r114_2 hk, ck_r114_3 hk, ck_r114_4 hk, bV, bI, bT, bF, bD, bS, bH, bR0, bR1, bR2, bR3, bR4, bFo, bX, bNo, bG0, bG1, bG2, bG3, cb_isHouse hb, pb_ct cs, pq_withinC, pb_ct cy, l1]
    · unfold mm_M_might
      simp (disch := omega) only [pb_its, pb_l2, pb_ll, nI_add, pb_mul, if_true, if_false, pb_bs, pb_b2n, pb_bz0, pb_bz1, pb_10, pb_01, pb_i31, mk_is hk2, mk_g0 hk2, mk_g1 hk2, mk_g2 hk2, mk_g3 hk2, mk_g4 hk2, mk_g5 hk2, mk_g6 hk2, mk_g7 hk2, mk_g8 hk2, mk_g9 hk2, mk_g10 hk2, mk_g11 hk2, mk_g12 hk2, mk_g13 hk2, mk_g14 hk2, mk_g15 hk2, mk_g16 hk2, mk_g17 hk2, mk_g18 hk2, mk_g19 hk2, mk_g20 hk2, mk_g21 hk2, mk_g22 hk2, mb_isHouseC hm1 Hl, pb_ct cs, po_inC, pb_ct cy, str, f1, l2, mk_is hkm, mk_g0 hkm, mk_g1 hkm, mk_g2 hkm, mk_g3 hkm, mk_g4 hkm, mk_g5 hkm, mk_g6 hkm, mk_g7 hkm, mk_g8 hkm, mk_g9 hkm, mk_g10 hkm, mk_g11 hkm, mk_g12 hkm, mk_g13 hkm, mk_g14 hkm, mk_g15 hkm, mk_g16 hkm, mk_g17 hkm, mk_g18 hkm, mk_g19 hkm, mk_g20 hkm, mk_g21 hkm, mk_g22 hkm, f4]
  · have key := pb_for (body := mm_F_leastStrength_b2 N (some 111) (nI i) (nI n)) q (fun t s => ∃ h', s = (nI (t + 1), h') ∧ cb_h h h' T a fo x RS US I Z) (fun e => ∃ h', e = .inr (nI (q + 1), h') ∧ cb_h h h' T a fo x RS US I Z) (N := N) (s := (nI 1, h)) (by omega) ⟨_, rfl, hb⟩ (by
      rintro t s ht ⟨h', rfl, w⟩
      left
      obtain ⟨h3, p1, p2⟩ := cstep (t + 1) h' (by omega) (by omega) w
      rw [if_neg (q3 t ht)] at p1
      exact ⟨_, p1, h3, rfl, p2⟩) (by
      rintro s ⟨h', rfl, w⟩
      obtain ⟨h3, p1, p2⟩ := cstep (q + 1) h' (by omega) (by omega) w
      rw [if_pos q2] at p1
      exact ⟨_, p1, h3, rfl, p2⟩)
    obtain ⟨_, l1, h3, rfl, c3⟩ := key
    have key := pb_for (body := mm_M_might_b39 N (some 118) (nI i) (nI n) (pv a (38 + 2 * i + 1))) (q + 1) (fun t s => ∃ h', s = (if t ≤ q then -nI 2 else nI (q + 1), nI (t + 1), h') ∧ ∃ y th fa, mb_h h2 h' T a fo x RS US I fo (a.set (38 + 2 * i + 1) y) th fa (sl a 10 20) dx Y) (fun e => ∃ h' y th fa, e = (nI (q + 1), h') ∧ mb_h h2 h' T a fo x RS US I fo (a.set (38 + 2 * i + 1) y) th fa (sl a 10 20) dx Y) (N := N) (s := (-nI 2, nI 1, g1)) (by omega) ⟨_, by rw [if_pos (Nat.zero_le q)], _, _, _, m1'⟩ (by
      rintro t s ht ⟨h', rfl, y, th, fa, w⟩
      left
      obtain ⟨h3, th3, fa3, p1, p2⟩ := mstep (t + 1) h' y th fa (by omega) (by omega) w
      rw [if_pos (show t ≤ q by omega)]
      refine ⟨_, p1, h3, ?_, _, _, _, p2⟩
      by_cases c : t = q
      · subst c
        rw [if_pos q2, if_neg (by omega)]
      · rw [if_neg (q3 t (by omega)), if_pos (by omega)]) (by
      rintro s ⟨h', rfl, y, th, fa, w⟩
      refine ⟨_, ?_, h', y, th, fa, rfl, w⟩
      rw [if_neg (by omega)]
      unfold mm_M_might_b39
      have n2 : nI 0 ≤ nI (q + 1) := nI_le (by omega) (by omega)
      by_cases c : nI 99 < nI (q + 1 + 1)
      · simp (disch := omega) only [pb_its, pb_l2, pb_ll, nI_add, pb_mul, if_true, if_false, pb_bs, pb_b2n, pb_bz0, pb_bz1, pb_10, pb_01, pb_i31, c]
      · simp (disch := omega) only [pb_its, pb_l2, pb_ll, nI_add, pb_mul, if_true, if_false, pb_bs, pb_b2n, pb_bz0, pb_bz1, pb_10, pb_01, pb_i31, c, n2])
    obtain ⟨_, l2, g3, y', th', fa', rfl, m3⟩ := key
    obtain ⟨g4, f4, m4⟩ := bk g3 y' th' fa' m3
    have hkm := mb_mk m3
    refine jo_ask ha0 c3 m4 (r := nI (q + 1)) ?_ ?_
    · unfold mm_S_might mm_S_might_j31 mm_F_leastStrength
      simp (disch := omega) only [pb_its, pb_l2, pb_ll, nI_add, pb_mul, if_true, if_false, pb_bs, pb_b2n, pb_bz0, pb_bz1, pb_10, pb_01, pb_i31, ck_is0 hk, ck_r0_0 hk, ck_r0_1 hk, ck_r0_2 hk, ck_r0_3 hk, ck_r0_4 hk, ck_r0_5 hk, ck_r0_6 hk, ck_r0_7 hk, ck_r0_8 hk, ck_r0_9 hk, ck_is1 hk, ck_r1_0 hk, ck_is3 hk, ck_r3_0 hk, ck_r3_1 hk, ck_is20 hk, ck_r20_0 hk, ck_r20_1 hk, ck_r20_2 hk, ck_is24 hk, ck_r24_1 hk, ck_r24_2 hk, ck_r24_3 hk, ck_r24_4 hk, ck_is33 hk, ck_r33_0 hk, ck_r33_1 hk, ck_is40 hk, ck_r40_0 hk, ck_is102 hk, ck_r102_0 hk, ck_r102_1 hk, ck_r102_2 hk, ck_r102_3 hk, ck_r102_4 hk, ck_r102_5 hk, ck_is103 hk, ck_r103_0 hk, ck_r103_1 hk, ck_is111 hk, ck_r111_0 hk, ck_r111_1 hk, ck_r111_2 hk, ck_r111_3 hk, ck_r111_4 hk, ck_is114 hk, ck_r114_0 hk, ck_r114_1 hk, ck_r114_2 hk, ck_r114_3 hk, ck_r114_4 hk, bV, bI, bT, bF, bD, bS, bH, bR0, bR1, bR2, bR3, bR4, bFo, bX, bNo, bG0, bG1, bG2, bG3, cb_isHouse hb, pb_ct cs, pq_withinC, pb_ct cy, l1]
    · unfold mm_M_might
      simp (disch := omega) only [pb_its, pb_l2, pb_ll, nI_add, pb_mul, if_true, if_false, pb_bs, pb_b2n, pb_bz0, pb_bz1, pb_10, pb_01, pb_i31, mk_is hk2, mk_g0 hk2, mk_g1 hk2, mk_g2 hk2, mk_g3 hk2, mk_g4 hk2, mk_g5 hk2, mk_g6 hk2, mk_g7 hk2, mk_g8 hk2, mk_g9 hk2, mk_g10 hk2, mk_g11 hk2, mk_g12 hk2, mk_g13 hk2, mk_g14 hk2, mk_g15 hk2, mk_g16 hk2, mk_g17 hk2, mk_g18 hk2, mk_g19 hk2, mk_g20 hk2, mk_g21 hk2, mk_g22 hk2, mb_isHouseC hm1 Hl, pb_ct cs, po_inC, pb_ct cy, str, f1, l2, mk_is hkm, mk_g0 hkm, mk_g1 hkm, mk_g2 hkm, mk_g3 hkm, mk_g4 hkm, mk_g5 hkm, mk_g6 hkm, mk_g7 hkm, mk_g8 hkm, mk_g9 hkm, mk_g10 hkm, mk_g11 hkm, mk_g12 hkm, mk_g13 hkm, mk_g14 hkm, mk_g15 hkm, mk_g16 hkm, mk_g17 hkm, mk_g18 hkm, mk_g19 hkm, mk_g20 hkm, mk_g21 hkm, mk_g22 hkm, f4]
