/-! ===== storms ===== -/
theorem pb_subn {a c : Nat} (h : c ≤ a) : nI a - nI c = nI (a - c) := by
  have e : nI (a - c) + nI c = nI a := by
    rw [nI_add]
    congr 1
    omega
  rw [← e, Int32.add_sub_cancel]
theorem pb_div {a b : Nat} (ha : a < 2 ^ 31) (hb : b < 2 ^ 31) : nI a / nI b = nI (a / b) := by
  have h1 : a / b ≤ a := Nat.div_le_self a b
  apply Int32.toInt_inj.mp
  rw [Int32.toInt_div, nI_toInt ha, nI_toInt hb, nI_toInt (by omega)]
  rw [show ((a : Int).tdiv (b : Int)) = ((a / b : Nat) : Int) from rfl]
  generalize a / b = c at *
  rw [Int.bmod_def]
  split <;> omega
theorem pb_sdiv {a b : Nat} (ha : a < 2 ^ 31) (hb : b < 2 ^ 31) (h0 : 0 < b) : ss_div (nI a) (nI b) = some (nI (a / b)) := by
  unfold ss_div
  rw [if_neg (nI_ne0 h0 hb), pb_div ha hb]
theorem pb_srem {a b : Nat} (ha : a < 2 ^ 31) (hb : b < 2 ^ 31) (h0 : 0 < b) : ss_rem (nI a) (nI b) = some (nI (a % b)) := by
  have h1 : a / b * b ≤ a := Nat.div_mul_le_self a b
  have h2 : a - a / b * b = a % b := by
    have := Nat.div_add_mod a b
    rw [Nat.mul_comm] at this
    omega
  unfold ss_rem
  rw [if_neg (nI_ne0 h0 hb), pb_div ha hb, pb_mul, pb_subn h1, h2]
theorem pl_toInt {n : Nat} (h : n < 2 ^ 63) : (lN n).toInt = (n : Int) := lg_ofNat_toInt h
theorem pl_div {a b : Nat} (ha : a < 2 ^ 63) (hb : b < 2 ^ 63) : lN a / lN b = lN (a / b) := by
  have h1 : a / b ≤ a := Nat.div_le_self a b
  apply Int64.toInt_inj.mp
  rw [Int64.toInt_div, pl_toInt ha, pl_toInt hb, pl_toInt (by omega)]
  rw [show ((a : Int).tdiv (b : Int)) = ((a / b : Nat) : Int) from rfl]
  generalize a / b = c at *
  rw [Int.bmod_def]
  split <;> omega
theorem pl_ne0 {b : Nat} (hb : b < 2 ^ 63) (h0 : 0 < b) : ¬ lN b = 0 := fun e => by
  have e1 := congrArg Int64.toInt e
  rw [pl_toInt hb] at e1
  have e2 : (0 : Int64).toInt = 0 := rfl
  rw [e2] at e1
  omega
theorem pl_sdiv {a b : Nat} (ha : a < 2 ^ 63) (hb : b < 2 ^ 63) (h0 : 0 < b) : ss_ldiv (lN a) (lN b) = some (lN (a / b)) := by
  unfold ss_ldiv
  rw [if_neg (pl_ne0 hb h0), pl_div ha hb]
theorem pl_srem {a b : Nat} (ha : a < 2 ^ 63) (hb : b < 2 ^ 63) (h0 : 0 < b) : ss_lrem (lN a) (lN b) = some (lN (a % b)) := by
  have h1 : a / b * b ≤ a := Nat.div_mul_le_self a b
  have h2 : a - a / b * b = a % b := by
    have := Nat.div_add_mod a b
    rw [Nat.mul_comm] at this
    omega
  unfold ss_lrem
  rw [if_neg (pl_ne0 hb h0), pl_div ha hb, lN_mul, lN_sub h1, h2]
def dw (q : Nat) : Nat := (q * 1103515245 + 12345) % 2147483648
theorem dw_lt (q : Nat) : dw q < 2 ^ 31 := Nat.mod_lt _ (by omega)
theorem pl_and31 (z : Nat) : lN z &&& lN 2147483647 = lN (z % 2147483648) := by
  apply Int64.toBitVec_inj.mp
  apply BitVec.eq_of_toNat_eq
  rw [Int64.toBitVec_and, BitVec.toNat_and]
  have e1 : ∀ w, (lN w).toBitVec.toNat = w % 2 ^ 64 := fun w => rfl
  rw [e1, e1, e1]
  have e2 : (2147483647 : Nat) % 2 ^ 64 = 2 ^ 31 - 1 := by omega
  rw [e2, Nat.and_two_pow_sub_one_eq_mod]
  omega
theorem pb_dw {q : Nat} (hq : q < 2 ^ 31) : (((nI q).toInt64 * lN 1103515245 + lN 12345) &&& lN 2147483647).toInt32 = nI (dw q) := by
  rw [nI_l hq, lN_mul, lN_add, pl_and31, lN_i]
  rfl
theorem pl_dw {q : Nat} (hq : q < 2 ^ 31) : ss_lrem (lN q * lN 1103515245 + lN 12345) (lN 2147483648) = some (lN (dw q)) := by
  rw [lN_mul, lN_add, pl_srem (by omega) (by omega) (by omega)]
  rfl
theorem cw_setx {h0 h : ss_Hp} {T : List Nat} {a : List Int32} {fo x : Int32} {RS : List (List ru_C)} {US : List (List Int32)} {I : Nat → Option (List Int32 × Int32 × Int32)} {Z : Nat → List Int32} {ro : Option (List ru_C)} {b : List Int32} {bu : Int32} {th fa : List Int32} {y : Int32} (hc : cw_h h0 h T a fo x RS US I Z ro b bu th fa) : ∃ h', ss_pi h (some 24) 8 1 y = some h' ∧ cw_h h0 h' T a fo y RS US I Z ro b bu th fa := by
  obtain ⟨n, g, rc, ti, tb, vt, ri, cd, sx, rl, wi, wv, gi, gs, gw, nd, ns, nw, il, ai, yv, yr, yi, ys, yw, yt, yh, yf, yo, yk, fr, fg, pl, pc, pg, rfl, F, hg, z, ⟨w1, w2, w3, w4, w5, w6⟩, ⟨v, hv, hwv, hq⟩, hr⟩ := hc
  subst w1 w2 w3 w4 w5 w6 hv hwv
  obtain ⟨Fn, Frc, Ft, Fr, Fl, ⟨Fw, ⟨v', Fv, Fq⟩, Fg, Fs, Fwl, Fno⟩, Fi, ⟨nx, Fa, Fu⟩, Fy, Ff⟩ := F
  subst Fw
  exact ⟨_, pk_y24_1, n, g, rc, ti, tb, vt, ri, cd, sx, rl, _, _, _, _, _, nd, ns, nw, il, _, _, _, _, _, _, _, _, _, _, _, fr, fg, pl, pc, pg, rfl, ⟨Fn, Frc, Ft, Fr, Fl, ⟨rfl, ⟨v', Fv, Fq⟩, Fg, Fs, Fwl, Fno⟩, Fi, ⟨nx, Fa, Fu⟩, Fy, Ff⟩, hg, z, ⟨rfl, rfl, rfl, rfl, rfl, rfl⟩, ⟨v, rfl, rfl, hq⟩, hr⟩
theorem cw_draw {N : Nat} {h0 h : ss_Hp} {T : List Nat} {a : List Int32} {fo : Int32} {RS : List (List ru_C)} {US : List (List Int32)} {I : Nat → Option (List Int32 × Int32 × Int32)} {Z : Nat → List Int32} {ro : Option (List ru_C)} {b : List Int32} {bu : Int32} {th fa : List Int32} {q : Nat} (hc : cw_h h0 h T a fo (nI q) RS US I Z ro b bu th fa) (hq : q < 2 ^ 31) : ∃ h', mm_F_draw N (some 111) h = some (nI (dw q / 65536), h') ∧ cw_h h0 h' T a fo (nI (dw q)) RS US I Z ro b bu th fa := by
  obtain ⟨v, ⟨⟨bV, bI, bT, bF, bD, bS, bH⟩, ⟨bR0, bR1, bR2, bR3, bR4⟩, ⟨bFo, bX, bNo⟩, ⟨bG0, bG1, bG2, bG3⟩, bOwn, bStr, bBes, bSn, bWl, bNd, bCl⟩⟩ := cb_r (cw_cb hc)
  have hk := cw_ck hc
  obtain ⟨h', e1, c1⟩ := cw_setx (y := nI (dw q)) hc
  obtain ⟨v2, ⟨⟨bVx, bIx, bTx, bFx, bDx, bSx, bHx⟩, ⟨bR0x, bR1x, bR2x, bR3x, bR4x⟩, ⟨bFox, bXx, bNox⟩, ⟨bG0x, bG1x, bG2x, bG3x⟩, bOwnx, bStrx, bBesx, bSnx, bWlx, bNdx, bClx⟩⟩ := cb_r (cw_cb c1)
  have hk2 := cw_ck c1
  have hd := dw_lt q
  refine ⟨h', ?_, c1⟩
  unfold mm_F_draw
  simp (disch := omega) only [pb_its, pb_l2, pb_ll, nI_add, pb_mul, if_true, if_false, pb_bs, pb_b2n, pb_bz0, pb_bz1, pb_10, pb_01, pb_i31, ck_is0 hk, ck_r0_0 hk, ck_r0_1 hk, ck_r0_2 hk, ck_r0_3 hk, ck_r0_4 hk, ck_r0_5 hk, ck_r0_6 hk, ck_r0_7 hk, ck_r0_8 hk, ck_r0_9 hk, ck_is1 hk, ck_r1_0 hk, ck_is3 hk, ck_r3_0 hk, ck_r3_1 hk, ck_is20 hk, ck_r20_0 hk, ck_r20_1 hk, ck_r20_2 hk, ck_is24 hk, ck_r24_1 hk, ck_r24_2 hk, ck_r24_3 hk, ck_r24_4 hk, ck_is33 hk, ck_r33_0 hk, ck_r33_1 hk, ck_is40 hk, ck_r40_0 hk, ck_is102 hk, ck_r102_0 hk, ck_r102_1 hk, ck_r102_2 hk, ck_r102_3 hk, ck_r102_4 hk, ck_r102_5 hk, ck_is103 hk, ck_r103_0 hk, ck_r103_1 hk, ck_is111 hk, ck_r111_0 hk, ck_r111_1 hk, ck_r111_2 hk, ck_r111_3 hk, ck_r111_4 hk, ck_is114 hk, ck_r114_0 hk, ck_r114_1 hk, ck_r114_2 hk, ck_r114_3 hk, ck_r114_4 hk, bV, bI, bT, bF, bD, bS, bH, bR0, bR1, bR2, bR3, bR4, bFo, bX, bNo, bG0, bG1, bG2, bG3, pb_dw hq, e1, ck_r111_0 hk2, bXx, pb_sdiv hd (show 65536 < 2 ^ 31 by omega) (by omega)]
def bl (fl : Int32) (k p : Nat) (b : List Int32) (q : Nat) : List Int32 × Nat := if p ≤ dw q / 65536 % 100 ∨ k = 0 then (b, dw q) else (b.set (14 + dw (dw q) / 65536 % k) (sa_held (pv b (14 + dw (dw q) / 65536 % k) + fl)), dw (dw q))
theorem bl_lt (fl : Int32) (k p : Nat) (b : List Int32) (q : Nat) : (bl fl k p b q).2 < 2 ^ 31 := by
  unfold bl
  split
  · exact dw_lt _
  · exact dw_lt _
theorem bl_pv {fl : Int32} {k p : Nat} {b : List Int32} {q j : Nat} (hk : k ≤ 8) (hj : j < 14 ∨ 22 ≤ j) : pv (bl fl k p b q).1 j = pv b j := by
  unfold bl
  split
  · rfl
  · rename_i h
    have hm : dw (dw q) / 65536 % k < k := Nat.mod_lt _ (by omega)
    exact pv_ne (by omega)
theorem sa_R_sn {a : List Int32} {k m d s q : Nat} (h : sa_R a k m d) (hs : s < k) (hq : q ≤ 999) : sa_R (a.set (14 + s) (nI q)) k m d := by
  obtain ⟨⟨g1, ⟨g2, g3⟩, ⟨g4, g5⟩, ⟨g6, g7⟩, g8, g9, g10⟩, h2', h3, h4, h5, h6⟩ := h
  have e : ∀ j, j ≠ 14 + s → pv (a.set (14 + s) (nI q)) j = pv a j := fun j hj => pv_ne hj
  refine ⟨⟨by rw [List.length_set]; exact g1, ⟨g2, by rw [e _ (by omega)]; exact g3⟩, ⟨g4, by rw [e _ (by omega)]; exact g5⟩, ⟨g6, by rw [e _ (by omega)]; exact g7⟩, fun s hs => by rw [e _ (by omega)]; exact g8 s hs, fun s hs => by rw [e _ (by omega)]; exact g9 s hs, fun i' hi' => by rw [e _ (by omega)]; exact g10 i' hi'⟩, fun s' hs' => ?_, fun i' hi' => by rw [e _ (by omega)]; exact h3 i' hi', by rw [e _ (by omega)]; exact h4, by rw [e _ (by omega)]; exact h5, by rw [e _ (by omega)]; exact h6⟩
  by_cases c : s' = s
  · subst c
    exact ⟨q, hq, pv_eq (by omega), fun hh => by omega⟩
  · rw [e _ (by omega)]
    exact h2' s' hs'
theorem bl_R {fl : Int32} {k m d p : Nat} {b : List Int32} {q : Nat} (h : sa_R b k m d) (hf : ∃ t, t ≤ 9 ∧ fl = nI t) : sa_R (bl fl k p b q).1 k m d := by
  unfold bl
  split
  · exact h
  · rename_i hh
    have hk := h.1.2.1.1
    have hm : dw (dw q) / 65536 % k < k := Nat.mod_lt _ (by omega)
    obtain ⟨t, t1, t2⟩ := hf
    obtain ⟨u, u1, u2, u3⟩ := h.2.1 (dw (dw q) / 65536 % k) (by omega)
    rw [u2, t2, nI_add, sa_held_n (by omega)]
    exact sa_R_sn h hm (by omega)
theorem cw_blow {N : Nat} {h0 h : ss_Hp} {T : List Nat} {a : List Int32} {fo : Int32} {RS : List (List ru_C)} {US : List (List Int32)} {I : Nat → Option (List Int32 × Int32 × Int32)} {Z : Nat → List Int32} {ro : Option (List ru_C)} {b : List Int32} {bu : Int32} {th fa : List Int32} {q p k : Nat} (hc : cw_h h0 h T a fo (nI q) RS US I Z ro b bu th fa) (hq : q < 2 ^ 31) (hp : p ≤ 100) (hk8 : k ≤ 8) (h2 : pv a 2 = nI k) (hl : b.length = 124) : ∃ h', mm_F_blow N (some 111) (nI p) h = some h' ∧ cw_h h0 h' T a fo (nI (bl (pv a 0) k p b q).2) RS US I Z ro (bl (pv a 0) k p b q).1 bu th fa := by
  have hk := cw_ck hc
  obtain ⟨h1, e1, c1⟩ := cw_draw (N := N) hc hq
  have hk1 := cw_ck c1
  obtain ⟨v, ⟨⟨bV, bI, bT, bF, bD, bS, bH⟩, ⟨bR0, bR1, bR2, bR3, bR4⟩, ⟨bFo, bX, bNo⟩, ⟨bG0, bG1, bG2, bG3⟩, bOwn, bStr, bBes, bSn, bWl, bNd, bCl⟩⟩ := cb_r (cw_cb c1)
  have hd := dw_lt q
  have r1 := pb_srem (a := dw q / 65536) (b := 100) (by omega) (by omega) (by omega)
  unfold mm_F_blow mm_F_blow_j16 mm_F_blow_j62 bl
  by_cases cp : p ≤ dw q / 65536 % 100
  · refine ⟨h1, ?_, by rw [if_pos (Or.inl cp)]; exact c1⟩
    have n1 : nI p ≤ nI (dw q / 65536 % 100) := nI_le cp (by omega)
    simp (disch := omega) only [pb_its, pb_l2, pb_ll, nI_add, pb_mul, if_true, if_false, pb_bs, pb_b2n, pb_bz0, pb_bz1, pb_10, pb_01, pb_i31, ck_is0 hk, ck_r0_0 hk, ck_r0_1 hk, ck_r0_2 hk, ck_r0_3 hk, ck_r0_4 hk, ck_r0_5 hk, ck_r0_6 hk, ck_r0_7 hk, ck_r0_8 hk, ck_r0_9 hk, ck_is1 hk, ck_r1_0 hk, ck_is3 hk, ck_r3_0 hk, ck_r3_1 hk, ck_is20 hk, ck_r20_0 hk, ck_r20_1 hk, ck_r20_2 hk, ck_is24 hk, ck_r24_1 hk, ck_r24_2 hk, ck_r24_3 hk, ck_r24_4 hk, ck_is33 hk, ck_r33_0 hk, ck_r33_1 hk, ck_is40 hk, ck_r40_0 hk, ck_is102 hk, ck_r102_0 hk, ck_r102_1 hk, ck_r102_2 hk, ck_r102_3 hk, ck_r102_4 hk, ck_r102_5 hk, ck_is103 hk, ck_r103_0 hk, ck_r103_1 hk, ck_is111 hk, ck_r111_0 hk, ck_r111_1 hk, ck_r111_2 hk, ck_r111_3 hk, ck_r111_4 hk, ck_is114 hk, ck_r114_0 hk, ck_r114_1 hk, ck_r114_2 hk, ck_r114_3 hk, ck_r114_4 hk, e1, r1, n1, ck_is0 hk1, ck_r0_0 hk1, ck_r0_1 hk1, ck_r0_2 hk1, ck_r0_3 hk1, ck_r0_4 hk1, ck_r0_5 hk1, ck_r0_6 hk1, ck_r0_7 hk1, ck_r0_8 hk1, ck_r0_9 hk1, ck_is1 hk1, ck_r1_0 hk1, ck_is3 hk1, ck_r3_0 hk1, ck_r3_1 hk1, ck_is20 hk1, ck_r20_0 hk1, ck_r20_1 hk1, ck_r20_2 hk1, ck_is24 hk1, ck_r24_1 hk1, ck_r24_2 hk1, ck_r24_3 hk1, ck_r24_4 hk1, ck_is33 hk1, ck_r33_0 hk1, ck_r33_1 hk1, ck_is40 hk1, ck_r40_0 hk1, ck_is102 hk1, ck_r102_0 hk1, ck_r102_1 hk1, ck_r102_2 hk1, ck_r102_3 hk1, ck_r102_4 hk1, ck_r102_5 hk1, ck_is103 hk1, ck_r103_0 hk1, ck_r103_1 hk1, ck_is111 hk1, ck_r111_0 hk1, ck_r111_1 hk1, ck_r111_2 hk1, ck_r111_3 hk1, ck_r111_4 hk1, ck_is114 hk1, ck_r114_0 hk1, ck_r114_1 hk1, ck_r114_2 hk1, ck_r114_3 hk1, ck_r114_4 hk1, bV, bI, bT, bF, bD, bS, bH, bR0, bR1, bR2, bR3, bR4, bFo, bX, bNo, bG0, bG1, bG2, bG3]
  · have n1 : ¬ nI p ≤ nI (dw q / 65536 % 100) := nI_ge (by omega) (by omega)
    by_cases ck : k = 0
    · refine ⟨h1, ?_, by rw [if_pos (Or.inr ck)]; exact c1⟩
      subst ck
      have n2 : nI 0 ≤ nI 0 := Int32.le_refl _
      simp (disch := omega) only [pb_its, pb_l2, pb_ll, nI_add, pb_mul, if_true, if_false, pb_bs, pb_b2n, pb_bz0, pb_bz1, pb_10, pb_01, pb_i31, ck_is0 hk, ck_r0_0 hk, ck_r0_1 hk, ck_r0_2 hk, ck_r0_3 hk, ck_r0_4 hk, ck_r0_5 hk, ck_r0_6 hk, ck_r0_7 hk, ck_r0_8 hk, ck_r0_9 hk, ck_is1 hk, ck_r1_0 hk, ck_is3 hk, ck_r3_0 hk, ck_r3_1 hk, ck_is20 hk, ck_r20_0 hk, ck_r20_1 hk, ck_r20_2 hk, ck_is24 hk, ck_r24_1 hk, ck_r24_2 hk, ck_r24_3 hk, ck_r24_4 hk, ck_is33 hk, ck_r33_0 hk, ck_r33_1 hk, ck_is40 hk, ck_r40_0 hk, ck_is102 hk, ck_r102_0 hk, ck_r102_1 hk, ck_r102_2 hk, ck_r102_3 hk, ck_r102_4 hk, ck_r102_5 hk, ck_is103 hk, ck_r103_0 hk, ck_r103_1 hk, ck_is111 hk, ck_r111_0 hk, ck_r111_1 hk, ck_r111_2 hk, ck_r111_3 hk, ck_r111_4 hk, ck_is114 hk, ck_r114_0 hk, ck_r114_1 hk, ck_r114_2 hk, ck_r114_3 hk, ck_r114_4 hk, e1, r1, n1, ck_is0 hk1, ck_r0_0 hk1, ck_r0_1 hk1, ck_r0_2 hk1, ck_r0_3 hk1, ck_r0_4 hk1, ck_r0_5 hk1, ck_r0_6 hk1, ck_r0_7 hk1, ck_r0_8 hk1, ck_r0_9 hk1, ck_is1 hk1, ck_r1_0 hk1, ck_is3 hk1, ck_r3_0 hk1, ck_r3_1 hk1, ck_is20 hk1, ck_r20_0 hk1, ck_r20_1 hk1, ck_r20_2 hk1, ck_is24 hk1, ck_r24_1 hk1, ck_r24_2 hk1, ck_r24_3 hk1, ck_r24_4 hk1, ck_is33 hk1, ck_r33_0 hk1, ck_r33_1 hk1, ck_is40 hk1, ck_r40_0 hk1, ck_is102 hk1, ck_r102_0 hk1, ck_r102_1 hk1, ck_r102_2 hk1, ck_r102_3 hk1, ck_r102_4 hk1, ck_r102_5 hk1, ck_is103 hk1, ck_r103_0 hk1, ck_r103_1 hk1, ck_is111 hk1, ck_r111_0 hk1, ck_r111_1 hk1, ck_r111_2 hk1, ck_r111_3 hk1, ck_r111_4 hk1, ck_is114 hk1, ck_r114_0 hk1, ck_r114_1 hk1, ck_r114_2 hk1, ck_r114_3 hk1, ck_r114_4 hk1, bV, bI, bT, bF, bD, bS, bH, bR0, bR1, bR2, bR3, bR4, bFo, bX, bNo, bG0, bG1, bG2, bG3, h2, n2]
    · have n2 : ¬ nI k ≤ nI 0 := nI_ge (by omega) (by omega)
      obtain ⟨h3, e3, c3⟩ := cw_draw (N := N) c1 hd
      have hk3 := cw_ck c3
      have hd2 := dw_lt (dw q)
      have r2 := pb_srem (a := dw (dw q) / 65536) (b := k) (by omega) (by omega) (by omega)
      have hm : dw (dw q) / 65536 % k < k := Nat.mod_lt _ (by omega)
      obtain ⟨h4, e4, c4⟩ := cw_lay (N := N) (s := dw (dw q) / 65536 % k) (y := pv a 0) c3 hl (by omega)
      obtain ⟨v2, ⟨⟨bVx, bIx, bTx, bFx, bDx, bSx, bHx⟩, ⟨bR0x, bR1x, bR2x, bR3x, bR4x⟩, ⟨bFox, bXx, bNox⟩, ⟨bG0x, bG1x, bG2x, bG3x⟩, bOwnx, bStrx, bBesx, bSnx, bWlx, bNdx, bClx⟩⟩ := cb_r (cw_cb c3)
      refine ⟨h4, ?_, by rw [if_neg (by omega)]; exact c4⟩
      simp (disch := omega) only [pb_its, pb_l2, pb_ll, nI_add, pb_mul, if_true, if_false, pb_bs, pb_b2n, pb_bz0, pb_bz1, pb_10, pb_01, pb_i31, ck_is0 hk, ck_r0_0 hk, ck_r0_1 hk, ck_r0_2 hk, ck_r0_3 hk, ck_r0_4 hk, ck_r0_5 hk, ck_r0_6 hk, ck_r0_7 hk, ck_r0_8 hk, ck_r0_9 hk, ck_is1 hk, ck_r1_0 hk, ck_is3 hk, ck_r3_0 hk, ck_r3_1 hk, ck_is20 hk, ck_r20_0 hk, ck_r20_1 hk, ck_r20_2 hk, ck_is24 hk, ck_r24_1 hk, ck_r24_2 hk, ck_r24_3 hk, ck_r24_4 hk, ck_is33 hk, ck_r33_0 hk, ck_r33_1 hk, ck_is40 hk, ck_r40_0 hk, ck_is102 hk, ck_r102_0 hk, ck_r102_1 hk, ck_r102_2 hk, ck_r102_3 hk, ck_r102_4 hk, ck_r102_5 hk, ck_is103 hk, ck_r103_0 hk, ck_r103_1 hk, ck_is111 hk, ck_r111_0 hk, ck_r111_1 hk, ck_r111_2 hk, ck_r111_3 hk, ck_r111_4 hk, ck_is114 hk, ck_r114_0 hk, ck_r114_1 hk, ck_r114_2 hk, ck_r114_3 hk, ck_r114_4 hk, e1, r1, n1, ck_is0 hk1, ck_r0_0 hk1, ck_r0_1 hk1, ck_r0_2 hk1, ck_r0_3 hk1, ck_r0_4 hk1, ck_r0_5 hk1, ck_r0_6 hk1, ck_r0_7 hk1, ck_r0_8 hk1, ck_r0_9 hk1, ck_is1 hk1, ck_r1_0 hk1, ck_is3 hk1, ck_r3_0 hk1, ck_r3_1 hk1, ck_is20 hk1, ck_r20_0 hk1, ck_r20_1 hk1, ck_r20_2 hk1, ck_is24 hk1, ck_r24_1 hk1, ck_r24_2 hk1, ck_r24_3 hk1, ck_r24_4 hk1, ck_is33 hk1, ck_r33_0 hk1, ck_r33_1 hk1, ck_is40 hk1, ck_r40_0 hk1, ck_is102 hk1, ck_r102_0 hk1, ck_r102_1 hk1, ck_r102_2 hk1, ck_r102_3 hk1, ck_r102_4 hk1, ck_r102_5 hk1, ck_is103 hk1, ck_r103_0 hk1, ck_r103_1 hk1, ck_is111 hk1, ck_r111_0 hk1, ck_r111_1 hk1, ck_r111_2 hk1, ck_r111_3 hk1, ck_r111_4 hk1, ck_is114 hk1, ck_r114_0 hk1, ck_r114_1 hk1, ck_r114_2 hk1, ck_r114_3 hk1, ck_r114_4 hk1, bV, bI, bT, bF, bD, bS, bH, bR0, bR1, bR2, bR3, bR4, bFo, bX, bNo, bG0, bG1, bG2, bG3, h2, n2, e3, r2, ck_r111_0 hk3, bVx, bFx, e4]
def sW (ro : Option (List ru_C)) (fl : Int32) (k m p : Nat) (b : List Int32) (q : Nat) : Nat → List Int32 × Nat
  | 0 => (b, q)
  | i + 1 => (dA ro k m (bl fl k p (sW ro fl k m p b q i).1 (sW ro fl k m p b q i).2).1, (bl fl k p (sW ro fl k m p b q i).1 (sW ro fl k m p b q i).2).2)
theorem sW_R {ro : Option (List ru_C)} {fl : Int32} {k m d p : Nat} {b : List Int32} {q : Nat} (h : sa_R b k m d) (hf : ∃ t, t ≤ 9 ∧ fl = nI t) (hq : q < 2 ^ 31) : ∀ i, d + i < 100000 → sa_R (sW ro fl k m p b q i).1 k m (d + i) ∧ (sW ro fl k m p b q i).2 < 2 ^ 31 ∧ ∀ j, j < 10 ∨ 22 ≤ j → pv (sW ro fl k m p b q i).1 j = pv b j := by
  intro i
  induction i with
  | zero => intro _; exact ⟨h, hq, fun _ _ => rfl⟩
  | succ i ih =>
    intro hi
    obtain ⟨g1, g2, g3⟩ := ih (by omega)
    have hb := bl_R (p := p) (q := (sW ro fl k m p b q i).2) g1 hf
    refine ⟨dA_R hb (by omega), bl_lt _ _ _ _ _, fun j hj => ?_⟩
    rw [sW, dA_pv hb hj, bl_pv h.1.2.1.1 (by omega)]
    exact g3 j hj
theorem mb_draw {N : Nat} {h0 h : ss_Hp} {T : List Nat} {a : List Int32} {fo x : Int32} {RS : List (List ru_C)} {US : List (List Int32)} {I : Nat → Option (List Int32 × Int32 × Int32)} {fo2 : Int32} {b th2 fa2 kp2 : List Int32} {Z : Nat → List Int32} {q u : Nat} (hc : mb_h h0 h T a fo x RS US I fo2 b th2 fa2 kp2 (lN q) Z) (hq : q < 2 ^ 31) (hu : u < 2 ^ 31) (h0u : 0 < u) : ∃ h', mm_M_draw N (some 118) (nI u) h = some (nI (dw q / 65536 % u), h') ∧ mb_h h0 h' T a fo x RS US I fo2 b th2 fa2 kp2 (lN (dw q)) Z := by
  obtain ⟨h', e1, c1⟩ := mb_setdx (y := lN (dw q)) hc
  have hk := mb_mk hc
  have hd := dw_lt q
  refine ⟨h', ?_, c1⟩
  unfold mm_M_draw
  simp (disch := omega) only [pb_its, pb_l2, pb_ll, nI_add, pb_mul, if_true, if_false, pb_bs, pb_b2n, pb_bz0, pb_bz1, pb_10, pb_01, pb_i31, mk_is hk, mk_g0 hk, mk_g1 hk, mk_g2 hk, mk_g3 hk, mk_g4 hk, mk_g5 hk, mk_g6 hk, mk_g7 hk, mk_g8 hk, mk_g9 hk, mk_g10 hk, mk_g11 hk, mk_g12 hk, mk_g13 hk, mk_g14 hk, mk_g15 hk, mk_g16 hk, mk_g17 hk, mk_g18 hk, mk_g19 hk, mk_g20 hk, mk_g21 hk, mk_g22 hk, mb_dx hc, pl_dw hq, e1, mb_dx c1, pl_sdiv (show dw q < 2 ^ 63 by omega) (show 65536 < 2 ^ 63 by omega) (by omega), nI_l hu, pl_srem (show dw q / 65536 < 2 ^ 63 by omega) (show u < 2 ^ 63 by omega) h0u, lN_i]
def oS (ro : Option (List ru_C)) (fl : Int32) (k m p n : Nat) (a : List Int32) (q : Nat) : Nat → Int32 × Int32 × Nat
  | 0 => (nI 0, nI 0, q)
  | j + 1 => ((oS ro fl k m p n a q j).1 + sa_sum (sW ro fl k m p a (oS ro fl k m p n a q j).2.2 n).1 k, (oS ro fl k m p n a q j).2.1 + pc_I (sa_clo (sW ro fl k m p a (oS ro fl k m p n a q j).2.2 n).1 k), (sW ro fl k m p a (oS ro fl k m p n a q j).2.2 n).2)
theorem oS_lt {ro : Option (List ru_C)} {fl : Int32} {k m d p n : Nat} {a : List Int32} {q : Nat} (h : sa_R a k m d) (hf : ∃ t, t ≤ 9 ∧ fl = nI t) (hq : q < 2 ^ 31) (hd : d + n < 100000) : ∀ j, (oS ro fl k m p n a q j).2.2 < 2 ^ 31 := by
  intro j
  induction j with
  | zero => exact hq
  | succ j ih => exact (sW_R h hf ih n hd).2.1
theorem jx_storms {N : Nat} {h h2 : ss_Hp} {z y w u : Int32} {T : List Nat} {a : List Int32} {fo x : Int32} {RS : List (List ru_C)} {US : List (List Int32)} {I : Nat → Option (List Int32 × Int32 × Int32)} (hc : cl_h h T a fo x RS US I) (hm : mo_h h2 T a fo x RS US I) (ha : as_ok T a fo x RS US I) (hN : 5000 < N) : jo (mm_S_storms N (some 0) z y w u h) (mm_M_storms N (some 118) z y w u h2) h h2 := by
  obtain ⟨Z, hb⟩ := cb_of hc
  obtain ⟨v, ⟨⟨bV, bI, bT, bF, bD, bS, bH⟩, ⟨bR0, bR1, bR2, bR3, bR4⟩, ⟨bFo, bX, bNo⟩, ⟨bG0, bG1, bG2, bG3⟩, bOwn, bStr, bBes, bSn, bWl, bNd, bCl⟩⟩ := cb_r hb
  have hk := cb_ck hb
  obtain ⟨th, fa, kp, dx, Y, hm1⟩ := mb_of hm
  have hk2 := mb_mk hm1
  have ha0 := ha
  obtain ⟨⟨Ht1, Ht2⟩, ⟨k, m, d, Hsd, Hul, Hu⟩, HRS, Hfo, Hx, HI⟩ := ha
  have Hok := Hsd.1
  obtain ⟨Hl, ⟨Hk, H2⟩, ⟨Hm, H3⟩, ⟨Hd, H10⟩, Hwl, Hbe, How⟩ := Hok
  by_cases ht : pv a 0 ≤ nI 0
  · have t0 : sa_told a = nI 0 := if_pos ht
    refine jo_no hc hm ha0 (r := -nI 1) ?_ ?_
    · unfold mm_S_storms mm_S_storms_j33
      simp (disch := omega) only [pb_its, pb_l2, pb_ll, nI_add, pb_mul, if_true, if_false, pb_bs, pb_b2n, pb_bz0, pb_bz1, pb_10, pb_01, pb_i31, ck_is0 hk, ck_r0_0 hk, ck_r0_1 hk, ck_r0_2 hk, ck_r0_3 hk, ck_r0_4 hk, ck_r0_5 hk, ck_r0_6 hk, ck_r0_7 hk, ck_r0_8 hk, ck_r0_9 hk, ck_is1 hk, ck_r1_0 hk, ck_is3 hk, ck_r3_0 hk, ck_r3_1 hk, ck_is20 hk, ck_r20_0 hk, ck_r20_1 hk, ck_r20_2 hk, ck_is24 hk, ck_r24_1 hk, ck_r24_2 hk, ck_r24_3 hk, ck_r24_4 hk, ck_is33 hk, ck_r33_0 hk, ck_r33_1 hk, ck_is40 hk, ck_r40_0 hk, ck_is102 hk, ck_r102_0 hk, ck_r102_1 hk, ck_r102_2 hk, ck_r102_3 hk, ck_r102_4 hk, ck_r102_5 hk, ck_is103 hk, ck_r103_0 hk, ck_r103_1 hk, ck_is111 hk, ck_r111_0 hk, ck_r111_1 hk, ck_r111_2 hk, ck_r111_3 hk, ck_r111_4 hk, ck_is114 hk, ck_r114_0 hk, ck_r114_1 hk, ck_r114_2 hk, ck_r114_3 hk, ck_r114_4 hk, bV, bI, bT, bF, bD, bS, bH, bR0, bR1, bR2, bR3, bR4, bFo, bX, bNo, bG0, bG1, bG2, bG3, t0]
    · unfold mm_M_storms mm_M_storms_j54
      simp (disch := omega) only [pb_its, pb_l2, pb_ll, nI_add, pb_mul, if_true, if_false, pb_bs, pb_b2n, pb_bz0, pb_bz1, pb_10, pb_01, pb_i31, mk_is hk2, mk_g0 hk2, mk_g1 hk2, mk_g2 hk2, mk_g3 hk2, mk_g4 hk2, mk_g5 hk2, mk_g6 hk2, mk_g7 hk2, mk_g8 hk2, mk_g9 hk2, mk_g10 hk2, mk_g11 hk2, mk_g12 hk2, mk_g13 hk2, mk_g14 hk2, mk_g15 hk2, mk_g16 hk2, mk_g17 hk2, mk_g18 hk2, mk_g19 hk2, mk_g20 hk2, mk_g21 hk2, mk_g22 hk2, mb_isValley hm1 Hl, t0]
  have t1 : sa_told a = nI 1 := if_neg ht
  have hR := sd_told Hsd ht
  have Hd9 : d ≤ 999 := Hsd.2.2.2.2.1
  by_cases cz : ¬ sp_in z 1 10
  · refine jo_no hc hm ha0 (r := -nI 1) ?_ ?_
    · unfold mm_S_storms mm_S_storms_j33
      simp (disch := omega) only [pb_its, pb_l2, pb_ll, nI_add, pb_mul, if_true, if_false, pb_bs, pb_b2n, pb_bz0, pb_bz1, pb_10, pb_01, pb_i31, ck_is0 hk, ck_r0_0 hk, ck_r0_1 hk, ck_r0_2 hk, ck_r0_3 hk, ck_r0_4 hk, ck_r0_5 hk, ck_r0_6 hk, ck_r0_7 hk, ck_r0_8 hk, ck_r0_9 hk, ck_is1 hk, ck_r1_0 hk, ck_is3 hk, ck_r3_0 hk, ck_r3_1 hk, ck_is20 hk, ck_r20_0 hk, ck_r20_1 hk, ck_r20_2 hk, ck_is24 hk, ck_r24_1 hk, ck_r24_2 hk, ck_r24_3 hk, ck_r24_4 hk, ck_is33 hk, ck_r33_0 hk, ck_r33_1 hk, ck_is40 hk, ck_r40_0 hk, ck_is102 hk, ck_r102_0 hk, ck_r102_1 hk, ck_r102_2 hk, ck_r102_3 hk, ck_r102_4 hk, ck_r102_5 hk, ck_is103 hk, ck_r103_0 hk, ck_r103_1 hk, ck_is111 hk, ck_r111_0 hk, ck_r111_1 hk, ck_r111_2 hk, ck_r111_3 hk, ck_r111_4 hk, ck_is114 hk, ck_r114_0 hk, ck_r114_1 hk, ck_r114_2 hk, ck_r114_3 hk, ck_r114_4 hk, bV, bI, bT, bF, bD, bS, bH, bR0, bR1, bR2, bR3, bR4, bFo, bX, bNo, bG0, bG1, bG2, bG3, t1, pq_withinC, pb_cf cz]
    · unfold mm_M_storms mm_M_storms_j54
      simp (disch := omega) only [pb_its, pb_l2, pb_ll, nI_add, pb_mul, if_true, if_false, pb_bs, pb_b2n, pb_bz0, pb_bz1, pb_10, pb_01, pb_i31, mk_is hk2, mk_g0 hk2, mk_g1 hk2, mk_g2 hk2, mk_g3 hk2, mk_g4 hk2, mk_g5 hk2, mk_g6 hk2, mk_g7 hk2, mk_g8 hk2, mk_g9 hk2, mk_g10 hk2, mk_g11 hk2, mk_g12 hk2, mk_g13 hk2, mk_g14 hk2, mk_g15 hk2, mk_g16 hk2, mk_g17 hk2, mk_g18 hk2, mk_g19 hk2, mk_g20 hk2, mk_g21 hk2, mk_g22 hk2, mb_isValley hm1 Hl, t1, po_inC, pb_cf cz]
  replace cz := Classical.not_not.mp cz
  by_cases cy : ¬ sp_in y 1 60
  · refine jo_no hc hm ha0 (r := -nI 1) ?_ ?_
    · unfold mm_S_storms mm_S_storms_j33
      simp (disch := omega) only [pb_its, pb_l2, pb_ll, nI_add, pb_mul, if_true, if_false, pb_bs, pb_b2n, pb_bz0, pb_bz1, pb_10, pb_01, pb_i31, ck_is0 hk, ck_r0_0 hk, ck_r0_1 hk, ck_r0_2 hk, ck_r0_3 hk, ck_r0_4 hk, ck_r0_5 hk, ck_r0_6 hk, ck_r0_7 hk, ck_r0_8 hk, ck_r0_9 hk, ck_is1 hk, ck_r1_0 hk, ck_is3 hk, ck_r3_0 hk, ck_r3_1 hk, ck_is20 hk, ck_r20_0 hk, ck_r20_1 hk, ck_r20_2 hk, ck_is24 hk, ck_r24_1 hk, ck_r24_2 hk, ck_r24_3 hk, ck_r24_4 hk, ck_is33 hk, ck_r33_0 hk, ck_r33_1 hk, ck_is40 hk, ck_r40_0 hk, ck_is102 hk, ck_r102_0 hk, ck_r102_1 hk, ck_r102_2 hk, ck_r102_3 hk, ck_r102_4 hk, ck_r102_5 hk, ck_is103 hk, ck_r103_0 hk, ck_r103_1 hk, ck_is111 hk, ck_r111_0 hk, ck_r111_1 hk, ck_r111_2 hk, ck_r111_3 hk, ck_r111_4 hk, ck_is114 hk, ck_r114_0 hk, ck_r114_1 hk, ck_r114_2 hk, ck_r114_3 hk, ck_r114_4 hk, bV, bI, bT, bF, bD, bS, bH, bR0, bR1, bR2, bR3, bR4, bFo, bX, bNo, bG0, bG1, bG2, bG3, t1, pq_withinC, pb_ct cz, pb_cf cy]
    · unfold mm_M_storms mm_M_storms_j54
      simp (disch := omega) only [pb_its, pb_l2, pb_ll, nI_add, pb_mul, if_true, if_false, pb_bs, pb_b2n, pb_bz0, pb_bz1, pb_10, pb_01, pb_i31, mk_is hk2, mk_g0 hk2, mk_g1 hk2, mk_g2 hk2, mk_g3 hk2, mk_g4 hk2, mk_g5 hk2, mk_g6 hk2, mk_g7 hk2, mk_g8 hk2, mk_g9 hk2, mk_g10 hk2, mk_g11 hk2, mk_g12 hk2, mk_g13 hk2, mk_g14 hk2, mk_g15 hk2, mk_g16 hk2, mk_g17 hk2, mk_g18 hk2, mk_g19 hk2, mk_g20 hk2, mk_g21 hk2, mk_g22 hk2, mb_isValley hm1 Hl, t1, po_inC, pb_ct cz, pb_cf cy]
  replace cy := Classical.not_not.mp cy
  by_cases cw : ¬ sp_in w 0 100
  · refine jo_no hc hm ha0 (r := -nI 1) ?_ ?_
    · unfold mm_S_storms mm_S_storms_j55
      simp (disch := omega) only [pb_its, pb_l2, pb_ll, nI_add, pb_mul, if_true, if_false, pb_bs, pb_b2n, pb_bz0, pb_bz1, pb_10, pb_01, pb_i31, ck_is0 hk, ck_r0_0 hk, ck_r0_1 hk, ck_r0_2 hk, ck_r0_3 hk, ck_r0_4 hk, ck_r0_5 hk, ck_r0_6 hk, ck_r0_7 hk, ck_r0_8 hk, ck_r0_9 hk, ck_is1 hk, ck_r1_0 hk, ck_is3 hk, ck_r3_0 hk, ck_r3_1 hk, ck_is20 hk, ck_r20_0 hk, ck_r20_1 hk, ck_r20_2 hk, ck_is24 hk, ck_r24_1 hk, ck_r24_2 hk, ck_r24_3 hk, ck_r24_4 hk, ck_is33 hk, ck_r33_0 hk, ck_r33_1 hk, ck_is40 hk, ck_r40_0 hk, ck_is102 hk, ck_r102_0 hk, ck_r102_1 hk, ck_r102_2 hk, ck_r102_3 hk, ck_r102_4 hk, ck_r102_5 hk, ck_is103 hk, ck_r103_0 hk, ck_r103_1 hk, ck_is111 hk, ck_r111_0 hk, ck_r111_1 hk, ck_r111_2 hk, ck_r111_3 hk, ck_r111_4 hk, ck_is114 hk, ck_r114_0 hk, ck_r114_1 hk, ck_r114_2 hk, ck_r114_3 hk, ck_r114_4 hk, bV, bI, bT, bF, bD, bS, bH, bR0, bR1, bR2, bR3, bR4, bFo, bX, bNo, bG0, bG1, bG2, bG3, t1, pq_withinC, pb_ct cz, pb_ct cy, pb_cf cw]
    · unfold mm_M_storms mm_M_storms_j54
      simp (disch := omega) only [pb_its, pb_l2, pb_ll, nI_add, pb_mul, if_true, if_false, pb_bs, pb_b2n, pb_bz0, pb_bz1, pb_10, pb_01, pb_i31, mk_is hk2, mk_g0 hk2, mk_g1 hk2, mk_g2 hk2, mk_g3 hk2, mk_g4 hk2, mk_g5 hk2, mk_g6 hk2, mk_g7 hk2, mk_g8 hk2, mk_g9 hk2, mk_g10 hk2, mk_g11 hk2, mk_g12 hk2, mk_g13 hk2, mk_g14 hk2, mk_g15 hk2, mk_g16 hk2, mk_g17 hk2, mk_g18 hk2, mk_g19 hk2, mk_g20 hk2, mk_g21 hk2, mk_g22 hk2, mb_isValley hm1 Hl, t1, po_inC, pb_ct cz, pb_ct cy, pb_cf cw]
  replace cw := Classical.not_not.mp cw
  by_cases cu : ¬ sp_in u 0 1
  · refine jo_no hc hm ha0 (r := -nI 1) ?_ ?_
    · unfold mm_S_storms mm_S_storms_j55
      simp (disch := omega) only [pb_its, pb_l2, pb_ll, nI_add, pb_mul, if_true, if_false, pb_bs, pb_b2n, pb_bz0, pb_bz1, pb_10, pb_01, pb_i31, ck_is0 hk, ck_r0_0 hk, ck_r0_1 hk, ck_r0_2 hk, ck_r0_3 hk, ck_r0_4 hk, ck_r0_5 hk, ck_r0_6 hk, ck_r0_7 hk, ck_r0_8 hk, ck_r0_9 hk, ck_is1 hk, ck_r1_0 hk, ck_is3 hk, ck_r3_0 hk, ck_r3_1 hk, ck_is20 hk, ck_r20_0 hk, ck_r20_1 hk, ck_r20_2 hk, ck_is24 hk, ck_r24_1 hk, ck_r24_2 hk, ck_r24_3 hk, ck_r24_4 hk, ck_is33 hk, ck_r33_0 hk, ck_r33_1 hk, ck_is40 hk, ck_r40_0 hk, ck_is102 hk, ck_r102_0 hk, ck_r102_1 hk, ck_r102_2 hk, ck_r102_3 hk, ck_r102_4 hk, ck_r102_5 hk, ck_is103 hk, ck_r103_0 hk, ck_r103_1 hk, ck_is111 hk, ck_r111_0 hk, ck_r111_1 hk, ck_r111_2 hk, ck_r111_3 hk, ck_r111_4 hk, ck_is114 hk, ck_r114_0 hk, ck_r114_1 hk, ck_r114_2 hk, ck_r114_3 hk, ck_r114_4 hk, bV, bI, bT, bF, bD, bS, bH, bR0, bR1, bR2, bR3, bR4, bFo, bX, bNo, bG0, bG1, bG2, bG3, t1, pq_withinC, pb_ct cz, pb_ct cy, pb_ct cw, pb_cf cu]
    · unfold mm_M_storms mm_M_storms_j54
      simp (disch := omega) only [pb_its, pb_l2, pb_ll, nI_add, pb_mul, if_true, if_false, pb_bs, pb_b2n, pb_bz0, pb_bz1, pb_10, pb_01, pb_i31, mk_is hk2, mk_g0 hk2, mk_g1 hk2, mk_g2 hk2, mk_g3 hk2, mk_g4 hk2, mk_g5 hk2, mk_g6 hk2, mk_g7 hk2, mk_g8 hk2, mk_g9 hk2, mk_g10 hk2, mk_g11 hk2, mk_g12 hk2, mk_g13 hk2, mk_g14 hk2, mk_g15 hk2, mk_g16 hk2, mk_g17 hk2, mk_g18 hk2, mk_g19 hk2, mk_g20 hk2, mk_g21 hk2, mk_g22 hk2, mb_isValley hm1 Hl, t1, po_inC, pb_ct cz, pb_ct cy, pb_ct cw, pb_cf cu]
  replace cu := Classical.not_not.mp cu
  obtain ⟨mm, -, hmm, rfl⟩ := sp_in_n cz (by omega) (by omega)
  obtain ⟨n, -, hn, rfl⟩ := sp_in_n cy (by omega) (by omega)
  obtain ⟨p, -, hp, rfl⟩ := sp_in_n cw (by omega) (by omega)
  have hu01 : u = nI 0 ∨ u = nI 1 := by
    by_cases c0 : u = nI 0
    · exact Or.inl c0
    · exact Or.inr (Classical.byContradiction (fun h1 => sp_01 c0 h1 cu))
  obtain ⟨q, hq, hxq⟩ := Hx
  have hf : ∃ t, t ≤ 9 ∧ pv a 0 = nI t := by
    obtain ⟨t, -, t1, t2⟩ := hR.2.2.2.1
    exact ⟨t, t1, t2⟩
  subst hxq
  have xlt := fun j => oS_lt (ro := ro_of fo RS) (p := p) (n := n) (q := q) hR hf hq (by omega) j
  have cin : ∀ (x6 x7 : Int32) (q' : Nat) (h' : ss_Hp), q' < 2 ^ 31 → cw_h h h' T a fo (nI q') RS US I Z (ro_of fo RS) a (pv a 13) z8 z8 → ∃ h3 th fa, ss_lp (mm_F_afterStorms_b28 N (some 111) (nI mm) (nI n) (nI p) u (nI q) x6 x7) N (nI 0, h') = some h3 ∧ cw_h h h3 T a fo (nI (sW (ro_of fo RS) (pv a 0) k m p a q' n).2) RS US I Z (ro_of fo RS) (sW (ro_of fo RS) (pv a 0) k m p a q' n).1 (pv (sW (ro_of fo RS) (pv a 0) k m p a q' n).1 13) th fa := by
    intro x6 x7 q' h' hq' w0
    have key := pb_for (body := mm_F_afterStorms_b28 N (some 111) (nI mm) (nI n) (nI p) u (nI q) x6 x7) n (fun i s => ∃ h', s = (nI i, h') ∧ ∃ th fa, cw_h h h' T a fo (nI (sW (ro_of fo RS) (pv a 0) k m p a q' i).2) RS US I Z (ro_of fo RS) (sW (ro_of fo RS) (pv a 0) k m p a q' i).1 (pv (sW (ro_of fo RS) (pv a 0) k m p a q' i).1 13) th fa) (fun e => ∃ th fa, cw_h h e T a fo (nI (sW (ro_of fo RS) (pv a 0) k m p a q' n).2) RS US I Z (ro_of fo RS) (sW (ro_of fo RS) (pv a 0) k m p a q' n).1 (pv (sW (ro_of fo RS) (pv a 0) k m p a q' n).1 13) th fa) (N := N) (s := (nI 0, h')) (by omega) ⟨h', rfl, _, _, w0⟩ (by
      rintro i s hi ⟨h', rfl, th, fa, w⟩
      left
      obtain ⟨g1, g2, g3⟩ := sW_R (ro := ro_of fo RS) (p := p) hR hf hq' i (by omega)
      have hbR := bl_R (p := p) (q := (sW (ro_of fo RS) (pv a 0) k m p a q' i).2) g1 hf
      obtain ⟨h3, e3, w3⟩ := cw_blow (N := N) (p := p) w g2 hp Hk H2 g1.1.1
      obtain ⟨h4, e4, w4⟩ := cw_pass (N := N) w3 (bl_pv Hk (by omega)).symm hbR (by omega) (by omega)
      have ckw := cw_ck w3
      have hlt : ¬ nI n ≤ nI i := nI_ge hi (by omega)
      refine ⟨_, ?_, h4, rfl, _, _, w4⟩
      unfold mm_F_afterStorms_b28
      simp (disch := omega) only [pb_its, pb_l2, pb_ll, nI_add, pb_mul, if_true, if_false, pb_bs, pb_b2n, pb_bz0, pb_bz1, pb_10, pb_01, pb_i31, hlt, e3, ck_r111_2 ckw, e4]) (by
      rintro s ⟨h', rfl, w⟩
      refine ⟨h', ?_, w⟩
      unfold mm_F_afterStorms_b28
      simp (disch := omega) only [pb_its, pb_l2, pb_ll, nI_add, pb_mul, if_true, if_false, pb_bs, pb_b2n, pb_bz0, pb_bz1, pb_10, pb_01, pb_i31, nI_le (Nat.le_refl n) (by omega : n < 2 ^ 31)])
    obtain ⟨h3, l1, th3, fa3, w3⟩ := key
    exact ⟨h3, th3, fa3, l1, w3⟩
  have min : ∀ (x5 x6 x7 : Int32) (q' : Nat) (h' : ss_Hp) (th fa : List Int32), q' < 2 ^ 31 → mb_h h2 h' T a fo (nI q) RS US I fo a th fa (sl a 10 20) (lN q') Y → ∃ h3 th fa, ss_lp (mm_M_storms_b87 N (some 118) (nI mm) (nI n) (nI p) u x5 x6 x7) N (nI 0, h') = some h3 ∧ mb_h h2 h3 T a fo (nI q) RS US I fo (sW (ro_of fo RS) (pv a 0) k m p a q' n).1 th fa (sl a 10 20) (lN (sW (ro_of fo RS) (pv a 0) k m p a q' n).2) Y := by
    intro x5 x6 x7 q' h' th fa hq' w0
    have key := pb_for (body := mm_M_storms_b87 N (some 118) (nI mm) (nI n) (nI p) u x5 x6 x7) n (fun i s => ∃ h', s = (nI i, h') ∧ ∃ th fa, mb_h h2 h' T a fo (nI q) RS US I fo (sW (ro_of fo RS) (pv a 0) k m p a q' i).1 th fa (sl a 10 20) (lN (sW (ro_of fo RS) (pv a 0) k m p a q' i).2) Y) (fun e => ∃ th fa, mb_h h2 e T a fo (nI q) RS US I fo (sW (ro_of fo RS) (pv a 0) k m p a q' n).1 th fa (sl a 10 20) (lN (sW (ro_of fo RS) (pv a 0) k m p a q' n).2) Y) (N := N) (s := (nI 0, h')) (by omega) ⟨h', rfl, _, _, w0⟩ (by
      rintro i s hi ⟨h', rfl, th, fa, w⟩
      left
      obtain ⟨g1, g2, g3⟩ := sW_R (ro := ro_of fo RS) (p := p) hR hf hq' i (by omega)
      have hbR := bl_R (p := p) (q := (sW (ro_of fo RS) (pv a 0) k m p a q' i).2) g1 hf
      have hlt : ¬ nI n ≤ nI i := nI_ge hi (by omega)
      obtain ⟨h3, e3, w3⟩ := mb_draw (N := N) (u := 100) w g2 (by omega) (by omega)
      have hk3 := mb_mk w3
      have s2 := mb_said w3 g1.1.1 (show 2 < 124 by omega)
      rw [g1.1.2.1.2] at s2
      have fin : ∀ h4 b4 q4 th4 fa4, sa_R b4 k m (d + i) → mb_h h2 h4 T a fo (nI q) RS US I fo b4 th4 fa4 (sl a 10 20) (lN q4) Y → ∃ h5 th5 fa5, mm_M_storms_j154 N (some 118) (nI mm) (nI n) (nI p) u x5 x6 x7 (nI i) h4 = some (.inl (nI (i + 1), h5)) ∧ mb_h h2 h5 T a fo (nI q) RS US I fo (dA (ro_of fo RS) k m b4) th5 fa5 (sl a 10 20) (lN q4) Y := by
        intro h4 b4 q4 th4 fa4 hR4 w4
        obtain ⟨h5, e5, w5⟩ := mb_pass (N := N) w4 hR4 Hfo HRS (by omega)
        refine ⟨h5, _, _, ?_, w5⟩
        unfold mm_M_storms_j154
        simp (disch := omega) only [pb_its, pb_l2, pb_ll, nI_add, pb_mul, if_true, if_false, pb_bs, pb_b2n, pb_bz0, pb_bz1, pb_10, pb_01, pb_i31, e5]
      by_cases cp : p ≤ dw (sW (ro_of fo RS) (pv a 0) k m p a q' i).2 / 65536 % 100 ∨ k = 0
      · have eb : bl (pv a 0) k p (sW (ro_of fo RS) (pv a 0) k m p a q' i).1 (sW (ro_of fo RS) (pv a 0) k m p a q' i).2 = ((sW (ro_of fo RS) (pv a 0) k m p a q' i).1, dw (sW (ro_of fo RS) (pv a 0) k m p a q' i).2) := by
          unfold bl
          rw [if_pos cp]
        obtain ⟨h5, th5, fa5, e5, w5⟩ := fin h3 _ _ _ _ g1 w3
        refine ⟨_, ?_, h5, rfl, th5, fa5, ?_⟩
        · unfold mm_M_storms_b87
          by_cases cp2 : p ≤ dw (sW (ro_of fo RS) (pv a 0) k m p a q' i).2 / 65536 % 100
          · have n1 := nI_le cp2 (show dw (sW (ro_of fo RS) (pv a 0) k m p a q' i).2 / 65536 % 100 < 2 ^ 31 by omega)
            simp (disch := omega) only [pb_its, pb_l2, pb_ll, nI_add, pb_mul, if_true, if_false, pb_bs, pb_b2n, pb_bz0, pb_bz1, pb_10, pb_01, pb_i31, hlt, e3, n1, e5]
          · have n1 : ¬ nI p ≤ nI (dw (sW (ro_of fo RS) (pv a 0) k m p a q' i).2 / 65536 % 100) := nI_ge (by omega) (by omega)
            have k0 : k = 0 := by omega
            have n2 : nI k ≤ nI 0 := by rw [k0]; exact Int32.le_refl _
            simp (disch := omega) only [pb_its, pb_l2, pb_ll, nI_add, pb_mul, if_true, if_false, pb_bs, pb_b2n, pb_bz0, pb_bz1, pb_10, pb_01, pb_i31, hlt, e3, n1, mk_is hk3, mk_g0 hk3, mk_g1 hk3, mk_g2 hk3, mk_g3 hk3, mk_g4 hk3, mk_g5 hk3, mk_g6 hk3, mk_g7 hk3, mk_g8 hk3, mk_g9 hk3, mk_g10 hk3, mk_g11 hk3, mk_g12 hk3, mk_g13 hk3, mk_g14 hk3, mk_g15 hk3, mk_g16 hk3, mk_g17 hk3, mk_g18 hk3, mk_g19 hk3, mk_g20 hk3, mk_g21 hk3, mk_g22 hk3, s2, n2, e5]
        · rw [sW, eb]
          exact w5
      · have n1 : ¬ nI p ≤ nI (dw (sW (ro_of fo RS) (pv a 0) k m p a q' i).2 / 65536 % 100) := nI_ge (by omega) (by omega)
        have n2 : ¬ nI k ≤ nI 0 := nI_ge (by omega) (by omega)
        obtain ⟨h4, e4, w4⟩ := mb_draw (N := N) (u := k) w3 (dw_lt _) (by omega) (by omega)
        have hk4 := mb_mk w4
        have hm' : dw (dw (sW (ro_of fo RS) (pv a 0) k m p a q' i).2) / 65536 % k < k := Nat.mod_lt _ (by omega)
        have s4 := mb_said w4 g1.1.1 (show 14 + dw (dw (sW (ro_of fo RS) (pv a 0) k m p a q' i).2) / 65536 % k < 124 by omega)
        have s5 := mb_said w4 g1.1.1 (show 0 < 124 by omega)
        rw [g3 0 (by omega)] at s5
        obtain ⟨h5, e5, w5⟩ := mb_set (i := 14 + dw (dw (sW (ro_of fo RS) (pv a 0) k m p a q' i).2) / 65536 % k) (y := sa_held (pv (sW (ro_of fo RS) (pv a 0) k m p a q' i).1 (14 + dw (dw (sW (ro_of fo RS) (pv a 0) k m p a q' i).2) / 65536 % k) + pv a 0)) w4 g1.1.1 (by omega)
        have eb : bl (pv a 0) k p (sW (ro_of fo RS) (pv a 0) k m p a q' i).1 (sW (ro_of fo RS) (pv a 0) k m p a q' i).2 = ((sW (ro_of fo RS) (pv a 0) k m p a q' i).1.set (14 + dw (dw (sW (ro_of fo RS) (pv a 0) k m p a q' i).2) / 65536 % k) (sa_held (pv (sW (ro_of fo RS) (pv a 0) k m p a q' i).1 (14 + dw (dw (sW (ro_of fo RS) (pv a 0) k m p a q' i).2) / 65536 % k) + pv a 0)), dw (dw (sW (ro_of fo RS) (pv a 0) k m p a q' i).2)) := by
          unfold bl
          rw [if_neg cp]
        rw [eb] at hbR
        obtain ⟨h6, th6, fa6, e6, w6⟩ := fin h5 _ _ _ _ hbR w5
        refine ⟨_, ?_, h6, rfl, th6, fa6, ?_⟩
        · unfold mm_M_storms_b87
          simp (disch := omega) only [pb_its, pb_l2, pb_ll, nI_add, pb_mul, if_true, if_false, pb_bs, pb_b2n, pb_bz0, pb_bz1, pb_10, pb_01, pb_i31, hlt, e3, n1, mk_is hk3, mk_g0 hk3, mk_g1 hk3, mk_g2 hk3, mk_g3 hk3, mk_g4 hk3, mk_g5 hk3, mk_g6 hk3, mk_g7 hk3, mk_g8 hk3, mk_g9 hk3, mk_g10 hk3, mk_g11 hk3, mk_g12 hk3, mk_g13 hk3, mk_g14 hk3, mk_g15 hk3, mk_g16 hk3, mk_g17 hk3, mk_g18 hk3, mk_g19 hk3, mk_g20 hk3, mk_g21 hk3, mk_g22 hk3, s2, n2, e4, mk_is hk4, mk_g0 hk4, mk_g1 hk4, mk_g2 hk4, mk_g3 hk4, mk_g4 hk4, mk_g5 hk4, mk_g6 hk4, mk_g7 hk4, mk_g8 hk4, mk_g9 hk4, mk_g10 hk4, mk_g11 hk4, mk_g12 hk4, mk_g13 hk4, mk_g14 hk4, mk_g15 hk4, mk_g16 hk4, mk_g17 hk4, mk_g18 hk4, mk_g19 hk4, mk_g20 hk4, mk_g21 hk4, mk_g22 hk4, s4, s5, po_held, e5, e6]
        · rw [sW, eb]
          exact w6) (by
      rintro s ⟨h', rfl, w⟩
      refine ⟨h', ?_, w⟩
      unfold mm_M_storms_b87
      simp (disch := omega) only [pb_its, pb_l2, pb_ll, nI_add, pb_mul, if_true, if_false, pb_bs, pb_b2n, pb_bz0, pb_bz1, pb_10, pb_01, pb_i31, nI_le (Nat.le_refl n) (by omega : n < 2 ^ 31)])
    obtain ⟨h3, l1, th3, fa3, w3⟩ := key
    exact ⟨h3, th3, fa3, l1, w3⟩
  obtain ⟨q1, q2, q3, q4, q5⟩ := mb_gi hm1
  obtain ⟨g0, f0, m0⟩ := mb_setdx (y := lN q) hm1
  obtain ⟨g1, f1, m1⟩ := mb_keeps (N := N) m0 Hl (by omega)
  have key := pb_for (body := mm_M_storms_b78 N (some 118) (nI mm) (nI n) (nI p) u) mm (fun j s => ∃ h', s = ((oS (ro_of fo RS) (pv a 0) k m p n a q j).1, (oS (ro_of fo RS) (pv a 0) k m p n a q j).2.1, nI j, h') ∧ ∃ th fa, mb_h h2 h' T a fo (nI q) RS US I fo a th fa (sl a 10 20) (lN (oS (ro_of fo RS) (pv a 0) k m p n a q j).2.2) Y) (fun e => ∃ h' th fa dx, e = ((oS (ro_of fo RS) (pv a 0) k m p n a q mm).1, (oS (ro_of fo RS) (pv a 0) k m p n a q mm).2.1, h') ∧ mb_h h2 h' T a fo (nI q) RS US I fo a th fa (sl a 10 20) dx Y) (N := N) (s := (nI 0, nI 0, nI 0, g1)) (by omega) ⟨g1, rfl, _, _, m1⟩ (by
    rintro j s hj ⟨h', rfl, th, fa, w⟩
    left
    obtain ⟨h3, th3, fa3, e3, w3⟩ := min (oS (ro_of fo RS) (pv a 0) k m p n a q j).1 (oS (ro_of fo RS) (pv a 0) k m p n a q j).2.1 (nI j) _ h' th fa (xlt j) w
    obtain ⟨s1, s2, s3⟩ := sW_R (ro := ro_of fo RS) (p := p) hR hf (xlt j) n (by omega)
    obtain ⟨-, bc2⟩ := pb_clo (N := N) Hk (by omega) (sW (ro_of fo RS) (pv a 0) k m p a (oS (ro_of fo RS) (pv a 0) k m p n a q j).2.2 n).1
    obtain ⟨h4, e4, w4⟩ := mb_lays (N := N) w3 s1.1.1 (by omega)
    rw [sa_back Hl s1.1.1 (fun j hj => s3 j (by omega))] at w4
    have hlt : ¬ nI mm ≤ nI j := nI_ge hj (by omega)
    refine ⟨_, ?_, h4, rfl, th3, fa3, w4⟩
    unfold mm_M_storms_b78
    simp (disch := omega) only [pb_its, pb_l2, pb_ll, nI_add, pb_mul, if_true, if_false, pb_bs, pb_b2n, pb_bz0, pb_bz1, pb_10, pb_01, pb_i31, hlt, e3, mb_sum w3 s1.1.1 Hk s1.1.2.1.2 (by omega : 8 < N), mb_closed w3 s1.1.1 Hk s1.1.2.1.2 (by omega : 8 < N), bc2, e4]
    rfl) (by
    rintro s ⟨h', rfl, th, fa, w⟩
    refine ⟨_, ?_, h', th, fa, _, rfl, w⟩
    unfold mm_M_storms_b78
    simp (disch := omega) only [pb_its, pb_l2, pb_ll, nI_add, pb_mul, if_true, if_false, pb_bs, pb_b2n, pb_bz0, pb_bz1, pb_10, pb_01, pb_i31, nI_le (Nat.le_refl mm) (by omega : mm < 2 ^ 31)])
  obtain ⟨_, l2, g2, th2, fa2, dx2, rfl, m2⟩ := key
  have ckey : ∀ (sel : Nat → Int32), (∀ j, j ≤ mm → sel j = if u = nI 0 then (oS (ro_of fo RS) (pv a 0) k m p n a q j).1 else (oS (ro_of fo RS) (pv a 0) k m p n a q j).2.1) → ∃ h', ss_lp (mm_F_afterStorms_b15 N (some 111) (nI mm) (nI n) (nI p) u (nI q)) N (nI 0, nI 0, h) = some (sel mm, h') ∧ ∃ q', cb_h h h' T a fo (nI q') RS US I Z := by
    intro sel hsel
    have key := pb_for (body := mm_F_afterStorms_b15 N (some 111) (nI mm) (nI n) (nI p) u (nI q)) mm (fun j s => ∃ h', s = (sel j, nI j, h') ∧ cb_h h h' T a fo (nI (oS (ro_of fo RS) (pv a 0) k m p n a q j).2.2) RS US I Z) (fun e => ∃ h', e = (sel mm, h') ∧ ∃ q', cb_h h h' T a fo (nI q') RS US I Z) (N := N) (s := (nI 0, nI 0, h)) (by omega) ⟨h, by rw [hsel 0 (by omega)]; rcases hu01 with c | c <;> subst c <;> rfl, hb⟩ (by
      rintro j s hj ⟨h', rfl, w⟩
      left
      obtain ⟨h3, e3, w3⟩ := cb_start (N := N) w ht Hfo HRS (by omega)
      obtain ⟨h4, th4, fa4, e4, w4⟩ := cin (sel j) (nI j) _ h3 (xlt j) w3
      obtain ⟨s1, s2, s3⟩ := sW_R (ro := ro_of fo RS) (p := p) hR hf (xlt j) n (by omega)
      obtain ⟨bc1, -⟩ := pb_clo (N := N) Hk (by omega) (sW (ro_of fo RS) (pv a 0) k m p a (oS (ro_of fo RS) (pv a 0) k m p n a q j).2.2 n).1
      have hlt : ¬ nI mm ≤ nI j := nI_ge hj (by omega)
      have ck4 := cw_ck w4
      refine ⟨_, ?_, h4, rfl, cw_cb w4⟩
      unfold mm_F_afterStorms_b15 mm_F_afterStorms_j83
      have hs1 := hsel (j + 1) (by omega)
      have hs0 := hsel j (by omega)
      rcases hu01 with c | c <;> subst c
      · have e8 := sd_sum8 (a := (sW (ro_of fo RS) (pv a 0) k m p a (oS (ro_of fo RS) (pv a 0) k m p n a q j).2.2 n).1) Hk s1.2.1
        rw [if_pos rfl] at hs0 hs1
        simp (disch := omega) only [pb_its, pb_l2, pb_ll, nI_add, pb_mul, if_true, if_false, pb_bs, pb_b2n, pb_bz0, pb_bz1, pb_10, pb_01, pb_i31, hlt, e3, e4, ck_is0 ck4, ck_r0_0 ck4, ck_r0_1 ck4, ck_r0_2 ck4, ck_r0_3 ck4, ck_r0_4 ck4, ck_r0_5 ck4, ck_r0_6 ck4, ck_r0_7 ck4, ck_r0_8 ck4, ck_r0_9 ck4, ck_is1 ck4, ck_r1_0 ck4, ck_is3 ck4, ck_r3_0 ck4, ck_r3_1 ck4, ck_is20 ck4, ck_r20_0 ck4, ck_r20_1 ck4, ck_r20_2 ck4, ck_is24 ck4, ck_r24_1 ck4, ck_r24_2 ck4, ck_r24_3 ck4, ck_r24_4 ck4, ck_is33 ck4, ck_r33_0 ck4, ck_r33_1 ck4, ck_is40 ck4, ck_r40_0 ck4, ck_is102 ck4, ck_r102_0 ck4, ck_r102_1 ck4, ck_r102_2 ck4, ck_r102_3 ck4, ck_r102_4 ck4, ck_r102_5 ck4, ck_is103 ck4, ck_r103_0 ck4, ck_r103_1 ck4, ck_is111 ck4, ck_r111_0 ck4, ck_r111_1 ck4, ck_r111_2 ck4, ck_r111_3 ck4, ck_r111_4 ck4, ck_is114 ck4, ck_r114_0 ck4, ck_r114_1 ck4, ck_r114_2 ck4, ck_r114_3 ck4, ck_r114_4 ck4, cw_sum w4 (by omega : 8 < N), e8]
        rw [hs0, hs1]
        rfl
      · rw [if_neg (by rw [pb_10]; exact id)] at hs0 hs1
        simp (disch := omega) only [pb_its, pb_l2, pb_ll, nI_add, pb_mul, if_true, if_false, pb_bs, pb_b2n, pb_bz0, pb_bz1, pb_10, pb_01, pb_i31, hlt, e3, e4, ck_is0 ck4, ck_r0_0 ck4, ck_r0_1 ck4, ck_r0_2 ck4, ck_r0_3 ck4, ck_r0_4 ck4, ck_r0_5 ck4, ck_r0_6 ck4, ck_r0_7 ck4, ck_r0_8 ck4, ck_r0_9 ck4, ck_is1 ck4, ck_r1_0 ck4, ck_is3 ck4, ck_r3_0 ck4, ck_r3_1 ck4, ck_is20 ck4, ck_r20_0 ck4, ck_r20_1 ck4, ck_r20_2 ck4, ck_is24 ck4, ck_r24_1 ck4, ck_r24_2 ck4, ck_r24_3 ck4, ck_r24_4 ck4, ck_is33 ck4, ck_r33_0 ck4, ck_r33_1 ck4, ck_is40 ck4, ck_r40_0 ck4, ck_is102 ck4, ck_r102_0 ck4, ck_r102_1 ck4, ck_r102_2 ck4, ck_r102_3 ck4, ck_r102_4 ck4, ck_r102_5 ck4, ck_is103 ck4, ck_r103_0 ck4, ck_r103_1 ck4, ck_is111 ck4, ck_r111_0 ck4, ck_r111_1 ck4, ck_r111_2 ck4, ck_r111_3 ck4, ck_r111_4 ck4, ck_is114 ck4, ck_r114_0 ck4, ck_r114_1 ck4, ck_r114_2 ck4, ck_r114_3 ck4, ck_r114_4 ck4, cw_closed w4 Hk s1.1.2.1.2 (by omega : 8 < N), bc1]
        rw [hs0, hs1]
        rfl) (by
      rintro s ⟨h', rfl, w⟩
      refine ⟨_, ?_, h', rfl, _, w⟩
      unfold mm_F_afterStorms_b15
      simp (disch := omega) only [pb_its, pb_l2, pb_ll, nI_add, pb_mul, if_true, if_false, pb_bs, pb_b2n, pb_bz0, pb_bz1, pb_10, pb_01, pb_i31, nI_le (Nat.le_refl mm) (by omega : mm < 2 ^ 31)])
    obtain ⟨_, l1, h3, rfl, w3⟩ := key
    exact ⟨h3, l1, w3⟩
  rcases hu01 with c | c <;> subst c
  · obtain ⟨h3, l1, q', c3⟩ := ckey (fun j => (oS (ro_of fo RS) (pv a 0) k m p n a q j).1) (fun j hj => by rw [if_pos rfl])
    obtain ⟨h4, e4, c4⟩ := cb_setx (y := nI q) c3
    have k3 := cb_ck c3
    refine jo_ask ha0 c4 m2 (r := (oS (ro_of fo RS) (pv a 0) k m p n a q mm).1) ?_ ?_
    · unfold mm_S_storms mm_S_storms_j75 mm_F_afterStorms
      simp (disch := omega) only [pb_its, pb_l2, pb_ll, nI_add, pb_mul, if_true, if_false, pb_bs, pb_b2n, pb_bz0, pb_bz1, pb_10, pb_01, pb_i31, ck_is0 hk, ck_r0_0 hk, ck_r0_1 hk, ck_r0_2 hk, ck_r0_3 hk, ck_r0_4 hk, ck_r0_5 hk, ck_r0_6 hk, ck_r0_7 hk, ck_r0_8 hk, ck_r0_9 hk, ck_is1 hk, ck_r1_0 hk, ck_is3 hk, ck_r3_0 hk, ck_r3_1 hk, ck_is20 hk, ck_r20_0 hk, ck_r20_1 hk, ck_r20_2 hk, ck_is24 hk, ck_r24_1 hk, ck_r24_2 hk, ck_r24_3 hk, ck_r24_4 hk, ck_is33 hk, ck_r33_0 hk, ck_r33_1 hk, ck_is40 hk, ck_r40_0 hk, ck_is102 hk, ck_r102_0 hk, ck_r102_1 hk, ck_r102_2 hk, ck_r102_3 hk, ck_r102_4 hk, ck_r102_5 hk, ck_is103 hk, ck_r103_0 hk, ck_r103_1 hk, ck_is111 hk, ck_r111_0 hk, ck_r111_1 hk, ck_r111_2 hk, ck_r111_3 hk, ck_r111_4 hk, ck_is114 hk, ck_r114_0 hk, ck_r114_1 hk, ck_r114_2 hk, ck_r114_3 hk, ck_r114_4 hk, bV, bI, bT, bF, bD, bS, bH, bR0, bR1, bR2, bR3, bR4, bFo, bX, bNo, bG0, bG1, bG2, bG3, t1, pq_withinC, pb_ct cz, pb_ct cy, pb_ct cw, pb_ct cu, l1, ck_is0 k3, ck_r0_0 k3, ck_r0_1 k3, ck_r0_2 k3, ck_r0_3 k3, ck_r0_4 k3, ck_r0_5 k3, ck_r0_6 k3, ck_r0_7 k3, ck_r0_8 k3, ck_r0_9 k3, ck_is1 k3, ck_r1_0 k3, ck_is3 k3, ck_r3_0 k3, ck_r3_1 k3, ck_is20 k3, ck_r20_0 k3, ck_r20_1 k3, ck_r20_2 k3, ck_is24 k3, ck_r24_1 k3, ck_r24_2 k3, ck_r24_3 k3, ck_r24_4 k3, ck_is33 k3, ck_r33_0 k3, ck_r33_1 k3, ck_is40 k3, ck_r40_0 k3, ck_is102 k3, ck_r102_0 k3, ck_r102_1 k3, ck_r102_2 k3, ck_r102_3 k3, ck_r102_4 k3, ck_r102_5 k3, ck_is103 k3, ck_r103_0 k3, ck_r103_1 k3, ck_is111 k3, ck_r111_0 k3, ck_r111_1 k3, ck_r111_2 k3, ck_r111_3 k3, ck_r111_4 k3, ck_is114 k3, ck_r114_0 k3, ck_r114_1 k3, ck_r114_2 k3, ck_r114_3 k3, ck_r114_4 k3, e4]
    · unfold mm_M_storms mm_M_storms_j208
      simp (disch := omega) only [pb_its, pb_l2, pb_ll, nI_add, pb_mul, if_true, if_false, pb_bs, pb_b2n, pb_bz0, pb_bz1, pb_10, pb_01, pb_i31, mk_is hk2, mk_g0 hk2, mk_g1 hk2, mk_g2 hk2, mk_g3 hk2, mk_g4 hk2, mk_g5 hk2, mk_g6 hk2, mk_g7 hk2, mk_g8 hk2, mk_g9 hk2, mk_g10 hk2, mk_g11 hk2, mk_g12 hk2, mk_g13 hk2, mk_g14 hk2, mk_g15 hk2, mk_g16 hk2, mk_g17 hk2, mk_g18 hk2, mk_g19 hk2, mk_g20 hk2, mk_g21 hk2, mk_g22 hk2, mb_isValley hm1 Hl, t1, po_inC, pb_ct cz, pb_ct cy, pb_ct cw, pb_ct cu, q4, nI_l hq, f0, f1, l2]
  · obtain ⟨h3, l1, q', c3⟩ := ckey (fun j => (oS (ro_of fo RS) (pv a 0) k m p n a q j).2.1) (fun j hj => by rw [if_neg (by rw [pb_10]; exact id)])
    obtain ⟨h4, e4, c4⟩ := cb_setx (y := nI q) c3
    have k3 := cb_ck c3
    refine jo_ask ha0 c4 m2 (r := (oS (ro_of fo RS) (pv a 0) k m p n a q mm).2.1) ?_ ?_
    · unfold mm_S_storms mm_S_storms_j75 mm_F_afterStorms
      simp (disch := omega) only [pb_its, pb_l2, pb_ll, nI_add, pb_mul, if_true, if_false, pb_bs, pb_b2n, pb_bz0, pb_bz1, pb_10, pb_01, pb_i31, ck_is0 hk, ck_r0_0 hk, ck_r0_1 hk, ck_r0_2 hk, ck_r0_3 hk, ck_r0_4 hk, ck_r0_5 hk, ck_r0_6 hk, ck_r0_7 hk, ck_r0_8 hk, ck_r0_9 hk, ck_is1 hk, ck_r1_0 hk, ck_is3 hk, ck_r3_0 hk, ck_r3_1 hk, ck_is20 hk, ck_r20_0 hk, ck_r20_1 hk, ck_r20_2 hk, ck_is24 hk, ck_r24_1 hk, ck_r24_2 hk, ck_r24_3 hk, ck_r24_4 hk, ck_is33 hk, ck_r33_0 hk, ck_r33_1 hk, ck_is40 hk, ck_r40_0 hk, ck_is102 hk, ck_r102_0 hk, ck_r102_1 hk, ck_r102_2 hk, ck_r102_3 hk, ck_r102_4 hk, ck_r102_5 hk, ck_is103 hk, ck_r103_0 hk, ck_r103_1 hk, ck_is111 hk, ck_r111_0 hk, ck_r111_1 hk, ck_r111_2 hk, ck_r111_3 hk, ck_r111_4 hk, ck_is114 hk, ck_r114_0 hk, ck_r114_1 hk, ck_r114_2 hk, ck_r114_3 hk, ck_r114_4 hk, bV, bI, bT, bF, bD, bS, bH, bR0, bR1, bR2, bR3, bR4, bFo, bX, bNo, bG0, bG1, bG2, bG3, t1, pq_withinC, pb_ct cz, pb_ct cy, pb_ct cw, pb_ct cu, l1, ck_is0 k3, ck_r0_0 k3, ck_r0_1 k3, ck_r0_2 k3, ck_r0_3 k3, ck_r0_4 k3, ck_r0_5 k3, ck_r0_6 k3, ck_r0_7 k3, ck_r0_8 k3, ck_r0_9 k3, ck_is1 k3, ck_r1_0 k3, ck_is3 k3, ck_r3_0 k3, ck_r3_1 k3, ck_is20 k3, ck_r20_0 k3, ck_r20_1 k3, ck_r20_2 k3, ck_is24 k3, ck_r24_1 k3, ck_r24_2 k3, ck_r24_3 k3, ck_r24_4 k3, ck_is33 k3, ck_r33_0 k3, ck_r33_1 k3, ck_is40 k3, ck_r40_0 k3, ck_is102 k3, ck_r102_0 k3, ck_r102_1 k3, ck_r102_2 k3, ck_r102_3 k3, ck_r102_4 k3, ck_r102_5 k3, ck_is103 k3, ck_r103_0 k3, ck_r103_1 k3, ck_is111 k3, ck_r111_0 k3, ck_r111_1 k3, ck_r111_2 k3, ck_r111_3 k3, ck_r111_4 k3, ck_is114 k3, ck_r114_0 k3, ck_r114_1 k3, ck_r114_2 k3, ck_r114_3 k3, ck_r114_4 k3, e4]
    · unfold mm_M_storms mm_M_storms_j208
      simp (disch := omega) only [pb_its, pb_l2, pb_ll, nI_add, pb_mul, if_true, if_false, pb_bs, pb_b2n, pb_bz0, pb_bz1, pb_10, pb_01, pb_i31, mk_is hk2, mk_g0 hk2, mk_g1 hk2, mk_g2 hk2, mk_g3 hk2, mk_g4 hk2, mk_g5 hk2, mk_g6 hk2, mk_g7 hk2, mk_g8 hk2, mk_g9 hk2, mk_g10 hk2, mk_g11 hk2, mk_g12 hk2, mk_g13 hk2, mk_g14 hk2, mk_g15 hk2, mk_g16 hk2, mk_g17 hk2, mk_g18 hk2, mk_g19 hk2, mk_g20 hk2, mk_g21 hk2, mk_g22 hk2, mb_isValley hm1 Hl, t1, po_inC, pb_ct cz, pb_ct cy, pb_ct cw, pb_ct cu, q4, nI_l hq, f0, f1, l2]
