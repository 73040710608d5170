/-! ===== the winter of the class: a day ===== -/
theorem pb_m1i : (-nI 1 : Int32) = -nI 1 := rfl
theorem pb_m1n {s : Nat} (hs : s < 2 ^ 31) : ¬ nI s = -nI 1 := by
  intro h
  have h1 : nI 0 ≤ nI s := nI_le (by omega) hs
  rw [h] at h1
  exact absurd h1 (by decide)
def rq_R (g : Nat → ss_Cl) (yr : Option Nat) (ro : Option (List ru_C)) : Prop := match ro with
  | none => yr = none
  | some R => ∃ r, yr = some r ∧ rc_R g r R
theorem sa_pd_R {a th : List Int32} {ro : Option (List ru_C)} {k m d : Nat} (h : sa_R a k m d) : ∀ i, i ≤ m → sa_R (sa_pd a th ro d k i).1 k m d ∧ (sa_pd a th ro d k i).2.length = th.length ∧ ∀ j, j ≠ 11 → (j < 14 ∨ 22 ≤ j) → pv (sa_pd a th ro d k i).1 j = pv a j := by
  intro i
  induction i with
  | zero => intro _; exact ⟨h, rfl, fun _ _ _ => rfl⟩
  | succ i ih =>
    intro hi
    obtain ⟨g1, g2, g3⟩ := ih (by omega)
    rw [sa_pd]
    split
    · exact ⟨g1, g2, g3⟩
    · split
      · exact ⟨g1, g2, g3⟩
      · next hc =>
        rcases sa_choice_cases g1.1 ro (i := i) (by omega) with q | ⟨s, hs, q⟩
        · exact absurd pb_m1 (by rw [← q]; exact hc)
        · have hk := h.1.2.1.1
          rw [q, nI_clamp (by omega)]
          refine ⟨sa_R_take g1 (by omega) hs, (sa_takeT_len _ _ _ _).trans g2, fun j h1 h2 => ?_⟩
          rw [← g3 j h1 h2]
          rcases g1.1.2.2.2.2.1 s hs with hw | ⟨t, ht, hw⟩
          · exact sa_take_pv (t := 0) (by omega) (Or.inl hw) h1 h2
          · exact sa_take_pv (t := t) (by omega) (Or.inr ⟨by omega, hw⟩) h1 h2
theorem sa_choice_sn {a : List Int32} {k m d : Nat} (h : sa_R a k m d) (ro : Option (List ru_C)) {i s : Nat} (hi : i < m) (hs : s < 2 ^ 31) (e : sa_choice a ro i d k = nI s) : ¬ pv a (14 + s) = nI 0 := by
  cases ro with
  | none =>
    obtain ⟨o, ho, eo⟩ := h.1.2.2.2.2.2.2 i hi
    have hk := h.1.2.1.1
    obtain ⟨q, q1, q2, q3⟩ := h.2.2.2.2.1
    unfold sa_choice sa_own at e
    simp only [eo, nI_clamp (show o < 2 ^ 31 by omega)] at e
    split at e
    · exact absurd e.symm (pb_m1n hs)
    · next hc =>
      have : o = s := (nI_eq (by omega) hs).mp e
      subst this
      intro z
      rw [z, q3] at hc
      exact hc (nI_lt (by omega) (by omega))
  | some R =>
    unfold sa_choice at e
    simp only at e
    rcases sa_ch_cases a i d k R k with q | ⟨t, h1, h2, h3⟩
    · rw [q] at e
      exact absurd e.symm (pb_m1n hs)
    · have hk := h.1.2.1.1
      rw [h2] at e
      have : t = s := (nI_eq (by omega) hs).mp e
      subst this
      exact h3
theorem qv_take {g : Nat → ss_Cl} {v : Nat} {a b : List Int32} (h : qv_S g v a) (he : ∀ j, j ≠ 11 → (j < 14 ∨ 22 ≤ j) → pv b j = pv a j) : qv_S g v b := qv_of h (fun j hj => he j (by omega) (by omega))
theorem pb_bu : ∀ b, b < 16 → ∀ i, i < 4 → ∃ b', b' < 16 ∧ nI b ||| nI 1 <<< nI i = nI b' ∧ ∀ j, j < 4 → i < j → b'.testBit j = b.testBit j := by
  intro b hb i hi
  refine ⟨b ||| 2 ^ i, Nat.or_lt_two_pow (n := 4) (by omega) (Nat.pow_lt_pow_right (by omega) hi), by rw [pb_sh1 i (by omega), pb_or], fun j hj hij => ?_⟩
  rw [Nat.testBit_or, Nat.testBit_two_pow]
  have : ¬ i = j := by omega
  simp [this]
section QD
variable {n : Nat} {g : Nat → ss_Cl} {rc : Int32} {ti : List Int32} {tb : List Int32} {vt : Option Nat} {ri : List Int32} {cd : List Int32} {sx : List Int32} {rl : List (Option Nat)} {wi : List Int32} {wv : Option Nat} {gi : List Int32} {gs : List Int32} {gw : List Int32} {nd : List Int32} {ns : List Int32} {nw : List Int32} {il : List (Option Nat)} {ai : List Int32} {yv : Option Nat} {yr : Option Nat} {yi : List Int32} {ys : List Int32} {yw : List Int32} {yt : List Int32} {yh : List Int32} {yf : List Int32} {yo : List Int64} {yk : List Int64} {fr : List Int32} {fg : List Int32} {pl : List Int32} {pc : List Int32} {pg : List Int32} {N : Nat}
theorem pq_night {v k m d : Nat} {a : List Int32} {bu : Int32} (h : qv_S g v a) (hR : sa_R a k m d) (hyf : yf.length = 8) (hN : 8 < N) : mm_Wi_passNight N (some 102) (pk_C n g rc ti tb vt ri cd sx rl wi wv gi gs gw nd ns nw il ai (some v) yr [pv a 11, pv a 12, bu, pv a 10] (sl a 14 8) (sl a 22 8) [pv a 39, pv a 41, pv a 43, pv a 45] yh yf yo yk fr fg pl pc pg) = some (pv a 11, (pk_C n g rc ti tb vt ri cd sx rl wi wv gi gs gw nd ns nw il ai (some v) yr [pv (sa_night a yf k) 11, pv (sa_night a yf k) 12, nI 0, pv (sa_night a yf k) 10] (sl (sa_night a yf k) 14 8) (sl (sa_night a yf k) 22 8) [pv (sa_night a yf k) 39, pv (sa_night a yf k) 41, pv (sa_night a yf k) 43, pv (sa_night a yf k) 45] yh (sa_nightF a yf k) yo yk fr fg pl pc pg)) := by
  have hok := hR.1
  have hl := hok.1
  have hk := hok.2.1.1
  have h2 := hok.2.1.2
  have e : ss_lp (mm_Wi_passNight_b10 N (some 102) (pv a 11)) N (nI 0, (pk_C n g rc ti tb vt ri cd sx rl wi wv gi gs gw nd ns nw il ai (some v) yr [pv a 11, pv a 12, bu, pv a 10] (sl a 14 8) (sl a 22 8) [pv a 39, pv a 41, pv a 43, pv a 45] yh yf yo yk fr fg pl pc pg)) = some (pk_C n g rc ti tb vt ri cd sx rl wi wv gi gs gw nd ns nw il ai (some v) yr [pv a 11, pv a 12, bu, pv a 10] (sl (sa_nt a yf (pv a 11) k).1 14 8) (sl a 22 8) [pv a 39, pv a 41, pv a 43, pv a 45] yh ((sa_nt a yf (pv a 11) k).2) yo yk fr fg pl pc pg) := by
    refine pb_lp (fun i => (nI i, (pk_C n g rc ti tb vt ri cd sx rl wi wv gi gs gw nd ns nw il ai (some v) yr [pv a 11, pv a 12, bu, pv a 10] (sl (sa_nt a yf (pv a 11) i).1 14 8) (sl a 22 8) [pv a 39, pv a 41, pv a 43, pv a 45] yh ((sa_nt a yf (pv a 11) i).2) yo yk fr fg pl pc pg))) k (by omega) (fun i hi => ?_) ?_
    · unfold mm_Wi_passNight_b10 mm_Wi_passNight_j61
      have h3 : ¬ nI k ≤ nI i := nI_ge hi (by omega)
      have hll := sa_nt_len a yf (pv a 11) i
      have hsl : (sl (sa_nt a yf (pv a 11) i).1 14 8).length = 8 := sl_len _ _ _
      simp (disch := ((try simp only [List.length_set]); omega)) only [pb_its, pb_l2, nI_add, pb_mul, if_true, if_false, pb_bs, pb_b2n, pb_bz0, pb_bz1, pb_10, pb_01, pb_i31, List.length_set, pk_is0, pk_r0_0, pk_r0_1, pk_r0_2, pk_r0_3, pk_r0_4, pk_r0_5, pk_r0_6, pk_r0_7, pk_r0_8, pk_r0_9, pk_i0, pk_q0, pk_is1, pk_r1_0, pk_i1, pk_q1, pk_a2, pk_u2, pk_is3, pk_r3_0, pk_r3_1, pk_r3_2, pk_p3_2, pk_is20, pk_r20_0, pk_r20_1, pk_r20_2, pk_i20, pk_q20, pk_a21, pk_u21, pk_a22, pk_u22, pk_is24, pk_r24_0, pk_p24_0, pk_r24_1, pk_r24_2, pk_r24_3, pk_r24_4, pk_i24, pk_q24, pk_is33, pk_r33_0, pk_r33_1, pk_i33, pk_q33, pk_a34, pk_u34, pk_a35, pk_u35, pk_a36, pk_u36, pk_a37, pk_u37, pk_a38, pk_u38, pk_is40, pk_r40_0, pk_i40, pk_q40, pk_is102, pk_r102_0, pk_r102_1, pk_r102_2, pk_r102_3, pk_r102_4, pk_r102_5, pk_r102_6, pk_p102_6, pk_r102_7, pk_p102_7, pk_is103, pk_r103_0, pk_r103_1, pk_i103, pk_q103, pk_a104, pk_u104, pk_a105, pk_u105, pk_a106, pk_u106, pk_a107, pk_u107, pk_a108, pk_u108, pk_a109, pk_u109, pk_a110, pk_u110, pk_is111, pk_r111_0, pk_r111_1, pk_r111_2, pk_r111_3, pk_r111_4, pk_a112, pk_u112, pk_a113, pk_u113, pk_is114, pk_r114_0, pk_r114_1, pk_r114_2, pk_r114_3, pk_r114_4, pk_a115, pk_u115, pk_a116, pk_u116, pk_a117, pk_u117, vr_steps h, h2, h3]
      by_cases c : (pv a 11 >>> nI i) &&& nI 1 = nI 1
      · simp (disch := ((try simp only [List.length_set]); omega)) only [pb_its, pb_l2, nI_add, pb_mul, if_true, if_false, pb_bs, pb_b2n, pb_bz0, pb_bz1, pb_10, pb_01, pb_i31, List.length_set, pk_is0, pk_r0_0, pk_r0_1, pk_r0_2, pk_r0_3, pk_r0_4, pk_r0_5, pk_r0_6, pk_r0_7, pk_r0_8, pk_r0_9, pk_i0, pk_q0, pk_is1, pk_r1_0, pk_i1, pk_q1, pk_a2, pk_u2, pk_is3, pk_r3_0, pk_r3_1, pk_r3_2, pk_p3_2, pk_is20, pk_r20_0, pk_r20_1, pk_r20_2, pk_i20, pk_q20, pk_a21, pk_u21, pk_a22, pk_u22, pk_is24, pk_r24_0, pk_p24_0, pk_r24_1, pk_r24_2, pk_r24_3, pk_r24_4, pk_i24, pk_q24, pk_is33, pk_r33_0, pk_r33_1, pk_i33, pk_q33, pk_a34, pk_u34, pk_a35, pk_u35, pk_a36, pk_u36, pk_a37, pk_u37, pk_a38, pk_u38, pk_is40, pk_r40_0, pk_i40, pk_q40, pk_is102, pk_r102_0, pk_r102_1, pk_r102_2, pk_r102_3, pk_r102_4, pk_r102_5, pk_r102_6, pk_p102_6, pk_r102_7, pk_p102_7, pk_is103, pk_r103_0, pk_r103_1, pk_i103, pk_q103, pk_a104, pk_u104, pk_a105, pk_u105, pk_a106, pk_u106, pk_a107, pk_u107, pk_a108, pk_u108, pk_a109, pk_u109, pk_a110, pk_u110, pk_is111, pk_r111_0, pk_r111_1, pk_r111_2, pk_r111_3, pk_r111_4, pk_a112, pk_u112, pk_a113, pk_u113, pk_is114, pk_r114_0, pk_r114_1, pk_r114_2, pk_r114_3, pk_r114_4, pk_a115, pk_u115, pk_a116, pk_u116, pk_a117, pk_u117, c, vr_fall h, pq_lay]
        rw [sa_nt, if_pos c, ← sl_set (by omega) (by omega), sl_pv (by omega), sa_nt_low _ _ _ _ 0 (by omega)]
      · simp (disch := ((try simp only [List.length_set]); omega)) only [pb_its, pb_l2, nI_add, pb_mul, if_true, if_false, pb_bs, pb_b2n, pb_bz0, pb_bz1, pb_10, pb_01, pb_i31, List.length_set, pk_is0, pk_r0_0, pk_r0_1, pk_r0_2, pk_r0_3, pk_r0_4, pk_r0_5, pk_r0_6, pk_r0_7, pk_r0_8, pk_r0_9, pk_i0, pk_q0, pk_is1, pk_r1_0, pk_i1, pk_q1, pk_a2, pk_u2, pk_is3, pk_r3_0, pk_r3_1, pk_r3_2, pk_p3_2, pk_is20, pk_r20_0, pk_r20_1, pk_r20_2, pk_i20, pk_q20, pk_a21, pk_u21, pk_a22, pk_u22, pk_is24, pk_r24_0, pk_p24_0, pk_r24_1, pk_r24_2, pk_r24_3, pk_r24_4, pk_i24, pk_q24, pk_is33, pk_r33_0, pk_r33_1, pk_i33, pk_q33, pk_a34, pk_u34, pk_a35, pk_u35, pk_a36, pk_u36, pk_a37, pk_u37, pk_a38, pk_u38, pk_is40, pk_r40_0, pk_i40, pk_q40, pk_is102, pk_r102_0, pk_r102_1, pk_r102_2, pk_r102_3, pk_r102_4, pk_r102_5, pk_r102_6, pk_p102_6, pk_r102_7, pk_p102_7, pk_is103, pk_r103_0, pk_r103_1, pk_i103, pk_q103, pk_a104, pk_u104, pk_a105, pk_u105, pk_a106, pk_u106, pk_a107, pk_u107, pk_a108, pk_u108, pk_a109, pk_u109, pk_a110, pk_u110, pk_is111, pk_r111_0, pk_r111_1, pk_r111_2, pk_r111_3, pk_r111_4, pk_a112, pk_u112, pk_a113, pk_u113, pk_is114, pk_r114_0, pk_r114_1, pk_r114_2, pk_r114_3, pk_r114_4, pk_a115, pk_u115, pk_a116, pk_u116, pk_a117, pk_u117, c]
        rw [sa_nt, if_neg c]
    · unfold mm_Wi_passNight_b10
      simp (disch := ((try simp only [List.length_set]); omega)) only [pb_its, pb_l2, nI_add, pb_mul, if_true, if_false, pb_bs, pb_b2n, pb_bz0, pb_bz1, pb_10, pb_01, pb_i31, List.length_set, pk_is0, pk_r0_0, pk_r0_1, pk_r0_2, pk_r0_3, pk_r0_4, pk_r0_5, pk_r0_6, pk_r0_7, pk_r0_8, pk_r0_9, pk_i0, pk_q0, pk_is1, pk_r1_0, pk_i1, pk_q1, pk_a2, pk_u2, pk_is3, pk_r3_0, pk_r3_1, pk_r3_2, pk_p3_2, pk_is20, pk_r20_0, pk_r20_1, pk_r20_2, pk_i20, pk_q20, pk_a21, pk_u21, pk_a22, pk_u22, pk_is24, pk_r24_0, pk_p24_0, pk_r24_1, pk_r24_2, pk_r24_3, pk_r24_4, pk_i24, pk_q24, pk_is33, pk_r33_0, pk_r33_1, pk_i33, pk_q33, pk_a34, pk_u34, pk_a35, pk_u35, pk_a36, pk_u36, pk_a37, pk_u37, pk_a38, pk_u38, pk_is40, pk_r40_0, pk_i40, pk_q40, pk_is102, pk_r102_0, pk_r102_1, pk_r102_2, pk_r102_3, pk_r102_4, pk_r102_5, pk_r102_6, pk_p102_6, pk_r102_7, pk_p102_7, pk_is103, pk_r103_0, pk_r103_1, pk_i103, pk_q103, pk_a104, pk_u104, pk_a105, pk_u105, pk_a106, pk_u106, pk_a107, pk_u107, pk_a108, pk_u108, pk_a109, pk_u109, pk_a110, pk_u110, pk_is111, pk_r111_0, pk_r111_1, pk_r111_2, pk_r111_3, pk_r111_4, pk_a112, pk_u112, pk_a113, pk_u113, pk_is114, pk_r114_0, pk_r114_1, pk_r114_2, pk_r114_3, pk_r114_4, pk_a115, pk_u115, pk_a116, pk_u116, pk_a117, pk_u117, vr_steps h, h2, nI_le (Nat.le_refl k) (by omega : k < 2 ^ 31)]
  have ew : sl (sa_night a yf k) 22 8 = sl a 22 8 := sl_of (fun j hj => sa_night_pv hk (by omega))
  have es : sl (sa_night a yf k) 14 8 = sl (sa_nt a yf (pv a 11) k).1 14 8 := sl_of (fun j hj => sa_night_sn hj)
  rw [ew, es, sa_night_10 hl, sa_night_11 hl, sa_night_12 hl, sa_night_pv hk (show 39 < 10 ∨ 22 ≤ 39 by omega), sa_night_pv hk (show 41 < 10 ∨ 22 ≤ 41 by omega), sa_night_pv hk (show 43 < 10 ∨ 22 ≤ 43 by omega), sa_night_pv hk (show 45 < 10 ∨ 22 ≤ 45 by omega)]
  unfold mm_Wi_passNight sa_nightF
  simp (disch := ((try simp only [List.length_set]); omega)) only [pb_its, pb_l2, nI_add, pb_mul, if_true, if_false, pb_bs, pb_b2n, pb_bz0, pb_bz1, pb_10, pb_01, pb_i31, List.length_set, pk_is0, pk_r0_0, pk_r0_1, pk_r0_2, pk_r0_3, pk_r0_4, pk_r0_5, pk_r0_6, pk_r0_7, pk_r0_8, pk_r0_9, pk_i0, pk_q0, pk_is1, pk_r1_0, pk_i1, pk_q1, pk_a2, pk_u2, pk_is3, pk_r3_0, pk_r3_1, pk_r3_2, pk_p3_2, pk_is20, pk_r20_0, pk_r20_1, pk_r20_2, pk_i20, pk_q20, pk_a21, pk_u21, pk_a22, pk_u22, pk_is24, pk_r24_0, pk_p24_0, pk_r24_1, pk_r24_2, pk_r24_3, pk_r24_4, pk_i24, pk_q24, pk_is33, pk_r33_0, pk_r33_1, pk_i33, pk_q33, pk_a34, pk_u34, pk_a35, pk_u35, pk_a36, pk_u36, pk_a37, pk_u37, pk_a38, pk_u38, pk_is40, pk_r40_0, pk_i40, pk_q40, pk_is102, pk_r102_0, pk_r102_1, pk_r102_2, pk_r102_3, pk_r102_4, pk_r102_5, pk_r102_6, pk_p102_6, pk_r102_7, pk_p102_7, pk_is103, pk_r103_0, pk_r103_1, pk_i103, pk_q103, pk_a104, pk_u104, pk_a105, pk_u105, pk_a106, pk_u106, pk_a107, pk_u107, pk_a108, pk_u108, pk_a109, pk_u109, pk_a110, pk_u110, pk_is111, pk_r111_0, pk_r111_1, pk_r111_2, pk_r111_3, pk_r111_4, pk_a112, pk_u112, pk_a113, pk_u113, pk_is114, pk_r114_0, pk_r114_1, pk_r114_2, pk_r114_3, pk_r114_4, pk_a115, pk_u115, pk_a116, pk_u116, pk_a117, pk_u117, e, pk_x103_0, pk_x103_3, pk_y103_0, pk_y103_1, pk_y103_2, pk_y103_3]
theorem pq_choice {v i d k m : Nat} {a : List Int32} {bu : Int32} {ro : Option (List ru_C)} (h : qv_S g v a) (hyo : yo.length = 12) (hyk : yk.length = 32) (hR : sa_R a k m d) (hro : rq_R g yr ro) (hi : i < m) (hN : 400 < N) : ∃ yo' yk', yo'.length = 12 ∧ yk'.length = 32 ∧ mm_Wi_choice N (some 102) (nI i) (pk_C n g rc ti tb vt ri cd sx rl wi wv gi gs gw nd ns nw il ai (some v) yr [pv a 11, pv a 12, bu, pv a 10] (sl a 14 8) (sl a 22 8) [pv a 39, pv a 41, pv a 43, pv a 45] yh yf yo yk fr fg pl pc pg) = some (sa_choice a ro i d k, (pk_C n g rc ti tb vt ri cd sx rl wi wv gi gs gw nd ns nw il ai (some v) yr [pv a 11, pv a 12, bu, pv a 10] (sl a 14 8) (sl a 22 8) [pv a 39, pv a 41, pv a 43, pv a 45] yh yf yo' yk' fr fg pl pc pg)) := by
  obtain ⟨hsd, ⟨hk, h2⟩, ⟨hm, h3⟩, ⟨hd, h10⟩, hwl, hbe, how⟩ := hR.1
  have hi4 : i < 4 := by omega
  cases ro with
  | none =>
    have hyr : yr = none := hro
    subst hyr
    obtain ⟨o, ho, eo⟩ := how i hi
    refine ⟨yo, yk, hyo, hyk, ?_⟩
    unfold mm_Wi_choice mm_Wi_choice_j36 sa_choice sa_own
    simp (disch := ((try simp only [List.length_set]); omega)) only [pb_its, pb_l2, nI_add, pb_mul, if_true, if_false, pb_bs, pb_b2n, pb_bz0, pb_bz1, pb_10, pb_01, pb_i31, List.length_set, pk_is0, pk_r0_0, pk_r0_1, pk_r0_2, pk_r0_3, pk_r0_4, pk_r0_5, pk_r0_6, pk_r0_7, pk_r0_8, pk_r0_9, pk_i0, pk_q0, pk_is1, pk_r1_0, pk_i1, pk_q1, pk_a2, pk_u2, pk_is3, pk_r3_0, pk_r3_1, pk_r3_2, pk_p3_2, pk_is20, pk_r20_0, pk_r20_1, pk_r20_2, pk_i20, pk_q20, pk_a21, pk_u21, pk_a22, pk_u22, pk_is24, pk_r24_0, pk_p24_0, pk_r24_1, pk_r24_2, pk_r24_3, pk_r24_4, pk_i24, pk_q24, pk_is33, pk_r33_0, pk_r33_1, pk_i33, pk_q33, pk_a34, pk_u34, pk_a35, pk_u35, pk_a36, pk_u36, pk_a37, pk_u37, pk_a38, pk_u38, pk_is40, pk_r40_0, pk_i40, pk_q40, pk_is102, pk_r102_0, pk_r102_1, pk_r102_2, pk_r102_3, pk_r102_4, pk_r102_5, pk_r102_6, pk_p102_6, pk_r102_7, pk_p102_7, pk_is103, pk_r103_0, pk_r103_1, pk_i103, pk_q103, pk_a104, pk_u104, pk_a105, pk_u105, pk_a106, pk_u106, pk_a107, pk_u107, pk_a108, pk_u108, pk_a109, pk_u109, pk_a110, pk_u110, pk_is111, pk_r111_0, pk_r111_1, pk_r111_2, pk_r111_3, pk_r111_4, pk_a112, pk_u112, pk_a113, pk_u113, pk_is114, pk_r114_0, pk_r114_1, pk_r114_2, pk_r114_3, pk_r114_4, pk_a115, pk_u115, pk_a116, pk_u116, pk_a117, pk_u117, pq_Wclosed h hk h2 (by omega : 8 < N), Option.isSome_none, Bool.false_eq_true, vr_r0 h, vr_own h hi4, eo, sa_clo_bit hk ho, nI_clamp (show o < 2 ^ 31 by omega)]
    by_cases c : pv a (14 + o) < pv a 1
    · simp only [c, if_true, not_true, if_false]
    · simp only [c, if_false, not_false_iff, if_true]
  | some R =>
    obtain ⟨r, hyr, hrc⟩ := hro
    subst hyr
    have key := pb_inv (body := mm_Wi_choice_b45 N (some 102) (nI i) (sa_clo a k)) (fun z => ∃ q yo' yk', q ≤ k ∧ yo'.length = 12 ∧ yk'.length = 32 ∧ z = ((sa_ch a i d k R q).1, (sa_ch a i d k R q).2, nI q, (pk_C n g rc ti tb vt ri cd sx rl wi wv gi gs gw nd ns nw il ai (some v) (some r) [pv a 11, pv a 12, bu, pv a 10] (sl a 14 8) (sl a 22 8) [pv a 39, pv a 41, pv a 43, pv a 45] yh yf yo' yk' fr fg pl pc pg))) (fun z => k - z.2.2.1.toNatClampNeg) (fun e => ∃ yo' yk', yo'.length = 12 ∧ yk'.length = 32 ∧ e = ((sa_ch a i d k R k).1, (pk_C n g rc ti tb vt ri cd sx rl wi wv gi gs gw nd ns nw il ai (some v) (some r) [pv a 11, pv a 12, bu, pv a 10] (sl a 14 8) (sl a 22 8) [pv a 39, pv a 41, pv a 43, pv a 45] yh yf yo' yk' fr fg pl pc pg))) (by
      rintro z ⟨q, yo1, yk1, hq, ho1, hk1, rfl⟩
      by_cases hqk : q < k
      · left
        have h9 : ¬ nI k ≤ nI q := nI_ge hqk (by omega)
        have hmu : ∀ x : Int32, x = nI (q + 1) → k - x.toNatClampNeg < k - (nI q).toNatClampNeg := fun x hx => by rw [hx, nI_clamp (by omega), nI_clamp (by omega)]; omega
        obtain ⟨sn, s1, s2, s3⟩ := hR.2.1 q (by omega)
        by_cases c : pv a (14 + q) = nI 0
        · have c' : pv a (14 + q) ≤ nI 0 := by rw [c]; exact Int32.le_refl _
          refine ⟨_, ?_, ⟨q + 1, yo1, yk1, hqk, ho1, hk1, rfl⟩, hmu _ rfl⟩
          unfold mm_Wi_choice_b45 mm_Wi_choice_j110
          simp (disch := ((try simp only [List.length_set]); omega)) only [pb_its, pb_l2, nI_add, pb_mul, if_true, if_false, pb_bs, pb_b2n, pb_bz0, pb_bz1, pb_10, pb_01, pb_i31, List.length_set, pk_is0, pk_r0_0, pk_r0_1, pk_r0_2, pk_r0_3, pk_r0_4, pk_r0_5, pk_r0_6, pk_r0_7, pk_r0_8, pk_r0_9, pk_i0, pk_q0, pk_is1, pk_r1_0, pk_i1, pk_q1, pk_a2, pk_u2, pk_is3, pk_r3_0, pk_r3_1, pk_r3_2, pk_p3_2, pk_is20, pk_r20_0, pk_r20_1, pk_r20_2, pk_i20, pk_q20, pk_a21, pk_u21, pk_a22, pk_u22, pk_is24, pk_r24_0, pk_p24_0, pk_r24_1, pk_r24_2, pk_r24_3, pk_r24_4, pk_i24, pk_q24, pk_is33, pk_r33_0, pk_r33_1, pk_i33, pk_q33, pk_a34, pk_u34, pk_a35, pk_u35, pk_a36, pk_u36, pk_a37, pk_u37, pk_a38, pk_u38, pk_is40, pk_r40_0, pk_i40, pk_q40, pk_is102, pk_r102_0, pk_r102_1, pk_r102_2, pk_r102_3, pk_r102_4, pk_r102_5, pk_r102_6, pk_p102_6, pk_r102_7, pk_p102_7, pk_is103, pk_r103_0, pk_r103_1, pk_i103, pk_q103, pk_a104, pk_u104, pk_a105, pk_u105, pk_a106, pk_u106, pk_a107, pk_u107, pk_a108, pk_u108, pk_a109, pk_u109, pk_a110, pk_u110, pk_is111, pk_r111_0, pk_r111_1, pk_r111_2, pk_r111_3, pk_r111_4, pk_a112, pk_u112, pk_a113, pk_u113, pk_is114, pk_r114_0, pk_r114_1, pk_r114_2, pk_r114_3, pk_r114_4, pk_a115, pk_u115, pk_a116, pk_u116, pk_a117, pk_u117, vr_steps h, h2, h9, pk_x104 (show q < 8 by omega), c']
          rw [sa_ch, if_pos c]
        · have c' : ¬ pv a (14 + q) ≤ nI 0 := by
            rw [s2]
            refine nI_ge ?_ (by omega)
            rcases Nat.eq_zero_or_pos sn with z | z
            · rw [s2, z] at c
              exact absurd rfl c
            · exact z
          obtain ⟨yo2, w1, w2, w3⟩ := pq_lookAt (n := n) (g := g) (rc := rc) (ti := ti) (tb := tb) (vt := vt) (ri := ri) (cd := cd) (sx := sx) (rl := rl) (wi := wi) (wv := wv) (gi := gi) (gs := gs) (gw := gw) (nd := nd) (ns := ns) (nw := nw) (il := il) (ai := ai) (yh := yh) (yf := yf) (fr := fr) (fg := fg) (pl := pl) (pc := pc) (pg := pg) (N := N) (yo := yo1) (yk := yk1) (yr := some r) (a := a) (bu := bu) (v := v) (i := i) (s := q) (d := d) (k := k) h ho1 hi4 (by omega) hk hd h10 (hbe q (by omega))
          obtain ⟨yk2, t1, t2⟩ := pq_worth (n := n) (g := g) (rc := rc) (ti := ti) (tb := tb) (vt := vt) (ri := ri) (cd := cd) (sx := sx) (rl := rl) (wi := wi) (wv := wv) (gi := gi) (gs := gs) (gw := gw) (nd := nd) (ns := ns) (nw := nw) (il := il) (ai := ai) (yv := some v) (yr := some r) (yi := [pv a 11, pv a 12, bu, pv a 10]) (ys := sl a 14 8) (yw := sl a 22 8) (yt := [pv a 39, pv a 41, pv a 43, pv a 45]) (yh := yh) (yf := yf) (yo := yo2) (yk := yk1) (fr := fr) (fg := fg) (pl := pl) (pc := pc) (pg := pg) (N := N) (w := sa_w a i q d k) (r := r) (R := R) w1 hk1 w2 hrc hN
          by_cases c2 : (sa_ch a i d k R q).2 < ev_rule (sa_w a i q d k) R
          · have c3 : ¬ ev_rule (sa_w a i q d k) R ≤ (sa_ch a i d k R q).2 := Int64.not_le.mpr c2
            refine ⟨_, ?_, ⟨q + 1, yo2, yk2, hqk, w1, t1, rfl⟩, hmu _ rfl⟩
            unfold mm_Wi_choice_b45 mm_Wi_choice_j110
            simp (disch := ((try simp only [List.length_set]); omega)) only [pb_its, pb_l2, nI_add, pb_mul, if_true, if_false, pb_bs, pb_b2n, pb_bz0, pb_bz1, pb_10, pb_01, pb_i31, List.length_set, pk_is0, pk_r0_0, pk_r0_1, pk_r0_2, pk_r0_3, pk_r0_4, pk_r0_5, pk_r0_6, pk_r0_7, pk_r0_8, pk_r0_9, pk_i0, pk_q0, pk_is1, pk_r1_0, pk_i1, pk_q1, pk_a2, pk_u2, pk_is3, pk_r3_0, pk_r3_1, pk_r3_2, pk_p3_2, pk_is20, pk_r20_0, pk_r20_1, pk_r20_2, pk_i20, pk_q20, pk_a21, pk_u21, pk_a22, pk_u22, pk_is24, pk_r24_0, pk_p24_0, pk_r24_1, pk_r24_2, pk_r24_3, pk_r24_4, pk_i24, pk_q24, pk_is33, pk_r33_0, pk_r33_1, pk_i33, pk_q33, pk_a34, pk_u34, pk_a35, pk_u35, pk_a36, pk_u36, pk_a37, pk_u37, pk_a38, pk_u38, pk_is40, pk_r40_0, pk_i40, pk_q40, pk_is102, pk_r102_0, pk_r102_1, pk_r102_2, pk_r102_3, pk_r102_4, pk_r102_5, pk_r102_6, pk_p102_6, pk_r102_7, pk_p102_7, pk_is103, pk_r103_0, pk_r103_1, pk_i103, pk_q103, pk_a104, pk_u104, pk_a105, pk_u105, pk_a106, pk_u106, pk_a107, pk_u107, pk_a108, pk_u108, pk_a109, pk_u109, pk_a110, pk_u110, pk_is111, pk_r111_0, pk_r111_1, pk_r111_2, pk_r111_3, pk_r111_4, pk_a112, pk_u112, pk_a113, pk_u113, pk_is114, pk_r114_0, pk_r114_1, pk_r114_2, pk_r114_3, pk_r114_4, pk_a115, pk_u115, pk_a116, pk_u116, pk_a117, pk_u117, vr_steps h, h2, h9, pk_x104 (show q < 8 by omega), c', w3, t2, pl_le, c3]
            rw [sa_ch, if_neg c, if_pos c2]
          · have c3 : ev_rule (sa_w a i q d k) R ≤ (sa_ch a i d k R q).2 := Int64.not_lt.mp c2
            refine ⟨_, ?_, ⟨q + 1, yo2, yk2, hqk, w1, t1, rfl⟩, hmu _ rfl⟩
            unfold mm_Wi_choice_b45 mm_Wi_choice_j110
            simp (disch := ((try simp only [List.length_set]); omega)) only [pb_its, pb_l2, nI_add, pb_mul, if_true, if_false, pb_bs, pb_b2n, pb_bz0, pb_bz1, pb_10, pb_01, pb_i31, List.length_set, pk_is0, pk_r0_0, pk_r0_1, pk_r0_2, pk_r0_3, pk_r0_4, pk_r0_5, pk_r0_6, pk_r0_7, pk_r0_8, pk_r0_9, pk_i0, pk_q0, pk_is1, pk_r1_0, pk_i1, pk_q1, pk_a2, pk_u2, pk_is3, pk_r3_0, pk_r3_1, pk_r3_2, pk_p3_2, pk_is20, pk_r20_0, pk_r20_1, pk_r20_2, pk_i20, pk_q20, pk_a21, pk_u21, pk_a22, pk_u22, pk_is24, pk_r24_0, pk_p24_0, pk_r24_1, pk_r24_2, pk_r24_3, pk_r24_4, pk_i24, pk_q24, pk_is33, pk_r33_0, pk_r33_1, pk_i33, pk_q33, pk_a34, pk_u34, pk_a35, pk_u35, pk_a36, pk_u36, pk_a37, pk_u37, pk_a38, pk_u38, pk_is40, pk_r40_0, pk_i40, pk_q40, pk_is102, pk_r102_0, pk_r102_1, pk_r102_2, pk_r102_3, pk_r102_4, pk_r102_5, pk_r102_6, pk_p102_6, pk_r102_7, pk_p102_7, pk_is103, pk_r103_0, pk_r103_1, pk_i103, pk_q103, pk_a104, pk_u104, pk_a105, pk_u105, pk_a106, pk_u106, pk_a107, pk_u107, pk_a108, pk_u108, pk_a109, pk_u109, pk_a110, pk_u110, pk_is111, pk_r111_0, pk_r111_1, pk_r111_2, pk_r111_3, pk_r111_4, pk_a112, pk_u112, pk_a113, pk_u113, pk_is114, pk_r114_0, pk_r114_1, pk_r114_2, pk_r114_3, pk_r114_4, pk_a115, pk_u115, pk_a116, pk_u116, pk_a117, pk_u117, vr_steps h, h2, h9, pk_x104 (show q < 8 by omega), c', w3, t2, pl_le, c3]
            rw [sa_ch, if_neg c, if_neg c2]
      · right
        have hqe : q = k := by omega
        subst hqe
        refine ⟨_, ?_, ⟨yo1, yk1, ho1, hk1, rfl⟩⟩
        unfold mm_Wi_choice_b45
        simp (disch := ((try simp only [List.length_set]); omega)) only [pb_its, pb_l2, nI_add, pb_mul, if_true, if_false, pb_bs, pb_b2n, pb_bz0, pb_bz1, pb_10, pb_01, pb_i31, List.length_set, pk_is0, pk_r0_0, pk_r0_1, pk_r0_2, pk_r0_3, pk_r0_4, pk_r0_5, pk_r0_6, pk_r0_7, pk_r0_8, pk_r0_9, pk_i0, pk_q0, pk_is1, pk_r1_0, pk_i1, pk_q1, pk_a2, pk_u2, pk_is3, pk_r3_0, pk_r3_1, pk_r3_2, pk_p3_2, pk_is20, pk_r20_0, pk_r20_1, pk_r20_2, pk_i20, pk_q20, pk_a21, pk_u21, pk_a22, pk_u22, pk_is24, pk_r24_0, pk_p24_0, pk_r24_1, pk_r24_2, pk_r24_3, pk_r24_4, pk_i24, pk_q24, pk_is33, pk_r33_0, pk_r33_1, pk_i33, pk_q33, pk_a34, pk_u34, pk_a35, pk_u35, pk_a36, pk_u36, pk_a37, pk_u37, pk_a38, pk_u38, pk_is40, pk_r40_0, pk_i40, pk_q40, pk_is102, pk_r102_0, pk_r102_1, pk_r102_2, pk_r102_3, pk_r102_4, pk_r102_5, pk_r102_6, pk_p102_6, pk_r102_7, pk_p102_7, pk_is103, pk_r103_0, pk_r103_1, pk_i103, pk_q103, pk_a104, pk_u104, pk_a105, pk_u105, pk_a106, pk_u106, pk_a107, pk_u107, pk_a108, pk_u108, pk_a109, pk_u109, pk_a110, pk_u110, pk_is111, pk_r111_0, pk_r111_1, pk_r111_2, pk_r111_3, pk_r111_4, pk_a112, pk_u112, pk_a113, pk_u113, pk_is114, pk_r114_0, pk_r114_1, pk_r114_2, pk_r114_3, pk_r114_4, pk_a115, pk_u115, pk_a116, pk_u116, pk_a117, pk_u117, vr_steps h, h2, nI_le (Nat.le_refl q) (by omega : q < 2 ^ 31)])
    obtain ⟨e, g1, yo', yk', g2, g3, g4⟩ := key N (-nI 1, 0, nI 0, (pk_C n g rc ti tb vt ri cd sx rl wi wv gi gs gw nd ns nw il ai (some v) (some r) [pv a 11, pv a 12, bu, pv a 10] (sl a 14 8) (sl a 22 8) [pv a 39, pv a 41, pv a 43, pv a 45] yh yf yo yk fr fg pl pc pg)) ⟨0, yo, yk, by omega, hyo, hyk, rfl⟩ (by show k - _ < N; omega)
    refine ⟨yo', yk', g2, g3, ?_⟩
    subst g4
    unfold mm_Wi_choice sa_choice
    simp (disch := ((try simp only [List.length_set]); omega)) only [pb_its, pb_l2, nI_add, pb_mul, if_true, if_false, pb_bs, pb_b2n, pb_bz0, pb_bz1, pb_10, pb_01, pb_i31, List.length_set, pk_is0, pk_r0_0, pk_r0_1, pk_r0_2, pk_r0_3, pk_r0_4, pk_r0_5, pk_r0_6, pk_r0_7, pk_r0_8, pk_r0_9, pk_i0, pk_q0, pk_is1, pk_r1_0, pk_i1, pk_q1, pk_a2, pk_u2, pk_is3, pk_r3_0, pk_r3_1, pk_r3_2, pk_p3_2, pk_is20, pk_r20_0, pk_r20_1, pk_r20_2, pk_i20, pk_q20, pk_a21, pk_u21, pk_a22, pk_u22, pk_is24, pk_r24_0, pk_p24_0, pk_r24_1, pk_r24_2, pk_r24_3, pk_r24_4, pk_i24, pk_q24, pk_is33, pk_r33_0, pk_r33_1, pk_i33, pk_q33, pk_a34, pk_u34, pk_a35, pk_u35, pk_a36, pk_u36, pk_a37, pk_u37, pk_a38, pk_u38, pk_is40, pk_r40_0, pk_i40, pk_q40, pk_is102, pk_r102_0, pk_r102_1, pk_r102_2, pk_r102_3, pk_r102_4, pk_r102_5, pk_r102_6, pk_p102_6, pk_r102_7, pk_p102_7, pk_is103, pk_r103_0, pk_r103_1, pk_i103, pk_q103, pk_a104, pk_u104, pk_a105, pk_u105, pk_a106, pk_u106, pk_a107, pk_u107, pk_a108, pk_u108, pk_a109, pk_u109, pk_a110, pk_u110, pk_is111, pk_r111_0, pk_r111_1, pk_r111_2, pk_r111_3, pk_r111_4, pk_a112, pk_u112, pk_a113, pk_u113, pk_is114, pk_r114_0, pk_r114_1, pk_r114_2, pk_r114_3, pk_r114_4, pk_a115, pk_u115, pk_a116, pk_u116, pk_a117, pk_u117, pq_Wclosed h hk h2 (by omega : 8 < N), Option.isSome_some, g1]
theorem pq_passDay {v d k m : Nat} {a : List Int32} {ro : Option (List ru_C)} (h : qv_S g v a) (hyo : yo.length = 12) (hyk : yk.length = 32) (hyh : yh.length = 8) (hyf : yf.length = 8) (hR : sa_R a k m d) (hro : rq_R g yr ro) (hN : 400 < N) : ∃ yo' yk', yo'.length = 12 ∧ yk'.length = 32 ∧ mm_Wi_passDay N (some 102) (pk_C n g rc ti tb vt ri cd sx rl wi wv gi gs gw nd ns nw il ai (some v) yr [pv a 11, pv a 12, pv a 13, pv a 10] (sl a 14 8) (sl a 22 8) [pv a 39, pv a 41, pv a 43, pv a 45] yh yf yo yk fr fg pl pc pg) = some (pv (sa_pd a yh ro d k m).1 11, (pk_C n g rc ti tb vt ri cd sx rl wi wv gi gs gw nd ns nw il ai (some v) yr [pv (sa_night (sa_pd a yh ro d k m).1 yf k) 11, pv (sa_night (sa_pd a yh ro d k m).1 yf k) 12, nI 0, pv (sa_night (sa_pd a yh ro d k m).1 yf k) 10] (sl (sa_night (sa_pd a yh ro d k m).1 yf k) 14 8) (sl (sa_night (sa_pd a yh ro d k m).1 yf k) 22 8) [pv (sa_night (sa_pd a yh ro d k m).1 yf k) 39, pv (sa_night (sa_pd a yh ro d k m).1 yf k) 41, pv (sa_night (sa_pd a yh ro d k m).1 yf k) 43, pv (sa_night (sa_pd a yh ro d k m).1 yf k) 45] ((sa_pd a yh ro d k m).2) (sa_nightF (sa_pd a yh ro d k m).1 yf k) yo' yk' fr fg pl pc pg)) := by
  have hm := hR.1.2.2.1.1
  have hk := hR.1.2.1.1
  obtain ⟨b, hb, eb⟩ := hR.2.2.2.2.2
  have key := pb_inv (body := mm_Wi_passDay_b2 N (some 102)) (fun z => ∃ q yo' yk' b', q ≤ m ∧ yo'.length = 12 ∧ yk'.length = 32 ∧ b' < 16 ∧ (∀ j, q ≤ j → j < 4 → b'.testBit j = b.testBit j) ∧ z = (nI q, (pk_C n g rc ti tb vt ri cd sx rl wi wv gi gs gw nd ns nw il ai (some v) yr [pv ((sa_pd a yh ro d k q).1) 11, pv ((sa_pd a yh ro d k q).1) 12, nI b', pv ((sa_pd a yh ro d k q).1) 10] (sl ((sa_pd a yh ro d k q).1) 14 8) (sl ((sa_pd a yh ro d k q).1) 22 8) [pv ((sa_pd a yh ro d k q).1) 39, pv ((sa_pd a yh ro d k q).1) 41, pv ((sa_pd a yh ro d k q).1) 43, pv ((sa_pd a yh ro d k q).1) 45] ((sa_pd a yh ro d k q).2) yf yo' yk' fr fg pl pc pg))) (fun z => m - z.1.toNatClampNeg) (fun e => ∃ yo' yk' b', yo'.length = 12 ∧ yk'.length = 32 ∧ e = (pk_C n g rc ti tb vt ri cd sx rl wi wv gi gs gw nd ns nw il ai (some v) yr [pv ((sa_pd a yh ro d k m).1) 11, pv ((sa_pd a yh ro d k m).1) 12, nI b', pv ((sa_pd a yh ro d k m).1) 10] (sl ((sa_pd a yh ro d k m).1) 14 8) (sl ((sa_pd a yh ro d k m).1) 22 8) [pv ((sa_pd a yh ro d k m).1) 39, pv ((sa_pd a yh ro d k m).1) 41, pv ((sa_pd a yh ro d k m).1) 43, pv ((sa_pd a yh ro d k m).1) 45] ((sa_pd a yh ro d k m).2) yf yo' yk' fr fg pl pc pg)) (by
    rintro z ⟨q, yo1, yk1, b1, hq, ho1, hk1, hb1, hbb, rfl⟩
    obtain ⟨R1, tl1, pe1⟩ := sa_pd_R (th := yh) (ro := ro) hR q hq
    have hv1 := qv_take h pe1
    have h31 := R1.1.2.2.1.2
    have e13 : pv (sa_pd a yh ro d k q).1 13 = nI b := by rw [pe1 13 (by omega) (by omega), eb]
    by_cases hqm : q < m
    · left
      have h9 : ¬ nI m ≤ nI q := nI_ge hqm (by omega)
      have hmu : ∀ x : Int32, x = nI (q + 1) → m - x.toNatClampNeg < m - (nI q).toNatClampNeg := fun x hx => by rw [hx, nI_clamp (by omega), nI_clamp (by omega)]; omega
      have hbq : ((nI b1 >>> nI q) &&& nI 1 = nI 1) = ((nI b >>> nI q) &&& nI 1 = nI 1) := by rw [pb_bit (by omega) (by omega), pb_bit (by omega) (by omega), hbb q (Nat.le_refl q) (by omega)]
      by_cases c : (nI b >>> nI q) &&& nI 1 = nI 1
      · have c0 : ¬ (nI b1 >>> nI q) &&& nI 1 = nI 0 := by rw [pb_bit0, hbq]; exact fun z => z c
        refine ⟨_, ?_, ⟨q + 1, yo1, yk1, b1, hqm, ho1, hk1, hb1, fun j h1 h2 => hbb j (by omega) h2, rfl⟩, hmu _ rfl⟩
        unfold mm_Wi_passDay_b2 mm_Wi_passDay_j45
        simp (disch := ((try simp only [List.length_set]); omega)) only [pb_its, pb_l2, nI_add, pb_mul, if_true, if_false, pb_bs, pb_b2n, pb_bz0, pb_bz1, pb_10, pb_01, pb_i31, List.length_set, pk_is0, pk_r0_0, pk_r0_1, pk_r0_2, pk_r0_3, pk_r0_4, pk_r0_5, pk_r0_6, pk_r0_7, pk_r0_8, pk_r0_9, pk_i0, pk_q0, pk_is1, pk_r1_0, pk_i1, pk_q1, pk_a2, pk_u2, pk_is3, pk_r3_0, pk_r3_1, pk_r3_2, pk_p3_2, pk_is20, pk_r20_0, pk_r20_1, pk_r20_2, pk_i20, pk_q20, pk_a21, pk_u21, pk_a22, pk_u22, pk_is24, pk_r24_0, pk_p24_0, pk_r24_1, pk_r24_2, pk_r24_3, pk_r24_4, pk_i24, pk_q24, pk_is33, pk_r33_0, pk_r33_1, pk_i33, pk_q33, pk_a34, pk_u34, pk_a35, pk_u35, pk_a36, pk_u36, pk_a37, pk_u37, pk_a38, pk_u38, pk_is40, pk_r40_0, pk_i40, pk_q40, pk_is102, pk_r102_0, pk_r102_1, pk_r102_2, pk_r102_3, pk_r102_4, pk_r102_5, pk_r102_6, pk_p102_6, pk_r102_7, pk_p102_7, pk_is103, pk_r103_0, pk_r103_1, pk_i103, pk_q103, pk_a104, pk_u104, pk_a105, pk_u105, pk_a106, pk_u106, pk_a107, pk_u107, pk_a108, pk_u108, pk_a109, pk_u109, pk_a110, pk_u110, pk_is111, pk_r111_0, pk_r111_1, pk_r111_2, pk_r111_3, pk_r111_4, pk_a112, pk_u112, pk_a113, pk_u113, pk_is114, pk_r114_0, pk_r114_1, pk_r114_2, pk_r114_3, pk_r114_4, pk_a115, pk_u115, pk_a116, pk_u116, pk_a117, pk_u117, vr_houses hv1, h31, h9, pk_x103_2, c0]
        rw [sa_pd, e13, if_pos c]
      · have c0 : (nI b1 >>> nI q) &&& nI 1 = nI 0 := by rw [pb_bit0, hbq]; exact c
        obtain ⟨yo2, yk2, s1, s2, s3⟩ := pq_choice (n := n) (g := g) (rc := rc) (ti := ti) (tb := tb) (vt := vt) (ri := ri) (cd := cd) (sx := sx) (rl := rl) (wi := wi) (wv := wv) (gi := gi) (gs := gs) (gw := gw) (nd := nd) (ns := ns) (nw := nw) (il := il) (ai := ai) (yr := yr) (yf := yf) (fr := fr) (fg := fg) (pl := pl) (pc := pc) (pg := pg) (N := N) (yo := yo1) (yk := yk1) (yh := (sa_pd a yh ro d k q).2) (a := (sa_pd a yh ro d k q).1) (bu := nI b1) (v := v) (i := q) (d := d) (k := k) (m := m) (ro := ro) hv1 ho1 hk1 R1 hro hqm hN
        rcases sa_choice_cases R1.1 ro (i := q) hqm with e | ⟨s, hs, e⟩
        · refine ⟨_, ?_, ⟨q + 1, yo2, yk2, b1, hqm, s1, s2, hb1, fun j h1 h2 => hbb j (by omega) h2, rfl⟩, hmu _ rfl⟩
          unfold mm_Wi_passDay_b2 mm_Wi_passDay_j45
          simp (disch := ((try simp only [List.length_set]); omega)) only [pb_its, pb_l2, nI_add, pb_mul, if_true, if_false, pb_bs, pb_b2n, pb_bz0, pb_bz1, pb_10, pb_01, pb_i31, List.length_set, pk_is0, pk_r0_0, pk_r0_1, pk_r0_2, pk_r0_3, pk_r0_4, pk_r0_5, pk_r0_6, pk_r0_7, pk_r0_8, pk_r0_9, pk_i0, pk_q0, pk_is1, pk_r1_0, pk_i1, pk_q1, pk_a2, pk_u2, pk_is3, pk_r3_0, pk_r3_1, pk_r3_2, pk_p3_2, pk_is20, pk_r20_0, pk_r20_1, pk_r20_2, pk_i20, pk_q20, pk_a21, pk_u21, pk_a22, pk_u22, pk_is24, pk_r24_0, pk_p24_0, pk_r24_1, pk_r24_2, pk_r24_3, pk_r24_4, pk_i24, pk_q24, pk_is33, pk_r33_0, pk_r33_1, pk_i33, pk_q33, pk_a34, pk_u34, pk_a35, pk_u35, pk_a36, pk_u36, pk_a37, pk_u37, pk_a38, pk_u38, pk_is40, pk_r40_0, pk_i40, pk_q40, pk_is102, pk_r102_0, pk_r102_1, pk_r102_2, pk_r102_3, pk_r102_4, pk_r102_5, pk_r102_6, pk_p102_6, pk_r102_7, pk_p102_7, pk_is103, pk_r103_0, pk_r103_1, pk_i103, pk_q103, pk_a104, pk_u104, pk_a105, pk_u105, pk_a106, pk_u106, pk_a107, pk_u107, pk_a108, pk_u108, pk_a109, pk_u109, pk_a110, pk_u110, pk_is111, pk_r111_0, pk_r111_1, pk_r111_2, pk_r111_3, pk_r111_4, pk_a112, pk_u112, pk_a113, pk_u113, pk_is114, pk_r114_0, pk_r114_1, pk_r114_2, pk_r114_3, pk_r114_4, pk_a115, pk_u115, pk_a116, pk_u116, pk_a117, pk_u117, vr_houses hv1, h31, h9, pk_x103_2, c0, s3, e]
          rw [sa_pd, e13, if_neg c, e, if_pos pb_m1]
        · have hn : ¬ nI s < nI 0 := nI_nlt (by omega) (by omega)
          have hn1 : ¬ nI s = -nI 1 := pb_m1n (by omega)
          obtain ⟨b2, hb2, eb2, hbb2⟩ := pb_bu b1 hb1 q (by omega)
          have tk := pq_sweepBy (n := n) (g := g) (rc := rc) (ti := ti) (tb := tb) (vt := vt) (ri := ri) (cd := cd) (sx := sx) (rl := rl) (wi := wi) (wv := wv) (gi := gi) (gs := gs) (gw := gw) (nd := nd) (ns := ns) (nw := nw) (il := il) (ai := ai) (yr := yr) (yf := yf) (fr := fr) (fg := fg) (pl := pl) (pc := pc) (pg := pg) (N := N) (yv := some v) (yo := yo2) (yk := yk2) (yh := (sa_pd a yh ro d k q).2) (a := (sa_pd a yh ro d k q).1) (bu := nI b1) (i := q) (s := s) (k := k) (m := m) (d := d) R1 (tl1.trans hyh) hqm hs (sa_choice_sn R1 ro hqm (by omega) e)
          rw [eb2] at tk
          refine ⟨_, ?_, ⟨q + 1, yo2, yk2, b2, hqm, s1, s2, hb2, fun j h1 h2 => by rw [hbb2 j h2 (by omega)]; exact hbb j (by omega) h2, rfl⟩, hmu _ rfl⟩
          unfold mm_Wi_passDay_b2 mm_Wi_passDay_j45
          simp (disch := ((try simp only [List.length_set]); omega)) only [pb_its, pb_l2, nI_add, pb_mul, if_true, if_false, pb_bs, pb_b2n, pb_bz0, pb_bz1, pb_10, pb_01, pb_i31, List.length_set, pk_is0, pk_r0_0, pk_r0_1, pk_r0_2, pk_r0_3, pk_r0_4, pk_r0_5, pk_r0_6, pk_r0_7, pk_r0_8, pk_r0_9, pk_i0, pk_q0, pk_is1, pk_r1_0, pk_i1, pk_q1, pk_a2, pk_u2, pk_is3, pk_r3_0, pk_r3_1, pk_r3_2, pk_p3_2, pk_is20, pk_r20_0, pk_r20_1, pk_r20_2, pk_i20, pk_q20, pk_a21, pk_u21, pk_a22, pk_u22, pk_is24, pk_r24_0, pk_p24_0, pk_r24_1, pk_r24_2, pk_r24_3, pk_r24_4, pk_i24, pk_q24, pk_is33, pk_r33_0, pk_r33_1, pk_i33, pk_q33, pk_a34, pk_u34, pk_a35, pk_u35, pk_a36, pk_u36, pk_a37, pk_u37, pk_a38, pk_u38, pk_is40, pk_r40_0, pk_i40, pk_q40, pk_is102, pk_r102_0, pk_r102_1, pk_r102_2, pk_r102_3, pk_r102_4, pk_r102_5, pk_r102_6, pk_p102_6, pk_r102_7, pk_p102_7, pk_is103, pk_r103_0, pk_r103_1, pk_i103, pk_q103, pk_a104, pk_u104, pk_a105, pk_u105, pk_a106, pk_u106, pk_a107, pk_u107, pk_a108, pk_u108, pk_a109, pk_u109, pk_a110, pk_u110, pk_is111, pk_r111_0, pk_r111_1, pk_r111_2, pk_r111_3, pk_r111_4, pk_a112, pk_u112, pk_a113, pk_u113, pk_is114, pk_r114_0, pk_r114_1, pk_r114_2, pk_r114_3, pk_r114_4, pk_a115, pk_u115, pk_a116, pk_u116, pk_a117, pk_u117, vr_houses hv1, h31, h9, pk_x103_2, c0, s3, e, hn1, tk]
          rw [sa_pd, e13, if_neg c, e, if_neg hn, nI_clamp (by omega)]
    · right
      have hqe : q = m := by omega
      subst hqe
      refine ⟨_, ?_, ⟨yo1, yk1, b1, ho1, hk1, rfl⟩⟩
      unfold mm_Wi_passDay_b2
      simp (disch := ((try simp only [List.length_set]); omega)) only [pb_its, pb_l2, nI_add, pb_mul, if_true, if_false, pb_bs, pb_b2n, pb_bz0, pb_bz1, pb_10, pb_01, pb_i31, List.length_set, pk_is0, pk_r0_0, pk_r0_1, pk_r0_2, pk_r0_3, pk_r0_4, pk_r0_5, pk_r0_6, pk_r0_7, pk_r0_8, pk_r0_9, pk_i0, pk_q0, pk_is1, pk_r1_0, pk_i1, pk_q1, pk_a2, pk_u2, pk_is3, pk_r3_0, pk_r3_1, pk_r3_2, pk_p3_2, pk_is20, pk_r20_0, pk_r20_1, pk_r20_2, pk_i20, pk_q20, pk_a21, pk_u21, pk_a22, pk_u22, pk_is24, pk_r24_0, pk_p24_0, pk_r24_1, pk_r24_2, pk_r24_3, pk_r24_4, pk_i24, pk_q24, pk_is33, pk_r33_0, pk_r33_1, pk_i33, pk_q33, pk_a34, pk_u34, pk_a35, pk_u35, pk_a36, pk_u36, pk_a37, pk_u37, pk_a38, pk_u38, pk_is40, pk_r40_0, pk_i40, pk_q40, pk_is102, pk_r102_0, pk_r102_1, pk_r102_2, pk_r102_3, pk_r102_4, pk_r102_5, pk_r102_6, pk_p102_6, pk_r102_7, pk_p102_7, pk_is103, pk_r103_0, pk_r103_1, pk_i103, pk_q103, pk_a104, pk_u104, pk_a105, pk_u105, pk_a106, pk_u106, pk_a107, pk_u107, pk_a108, pk_u108, pk_a109, pk_u109, pk_a110, pk_u110, pk_is111, pk_r111_0, pk_r111_1, pk_r111_2, pk_r111_3, pk_r111_4, pk_a112, pk_u112, pk_a113, pk_u113, pk_is114, pk_r114_0, pk_r114_1, pk_r114_2, pk_r114_3, pk_r114_4, pk_a115, pk_u115, pk_a116, pk_u116, pk_a117, pk_u117, vr_houses hv1, h31, nI_le (Nat.le_refl q) (by omega : q < 2 ^ 31)])
  obtain ⟨e, g1, yo', yk', b', g2, g3, g4⟩ := key N (nI 0, (pk_C n g rc ti tb vt ri cd sx rl wi wv gi gs gw nd ns nw il ai (some v) yr [pv a 11, pv a 12, pv a 13, pv a 10] (sl a 14 8) (sl a 22 8) [pv a 39, pv a 41, pv a 43, pv a 45] yh yf yo yk fr fg pl pc pg)) ⟨0, yo, yk, b, by omega, hyo, hyk, hb, fun _ _ _ => rfl, by rw [eb]; rfl⟩ (by show m - _ < N; omega)
  subst g4
  obtain ⟨R1, tl1, pe1⟩ := sa_pd_R (th := yh) (ro := ro) hR m (Nat.le_refl m)
  have hv1 := qv_take h pe1
  have sn := pq_night (n := n) (g := g) (rc := rc) (ti := ti) (tb := tb) (vt := vt) (ri := ri) (cd := cd) (sx := sx) (rl := rl) (wi := wi) (wv := wv) (gi := gi) (gs := gs) (gw := gw) (nd := nd) (ns := ns) (nw := nw) (il := il) (ai := ai) (yr := yr) (yf := yf) (fr := fr) (fg := fg) (pl := pl) (pc := pc) (pg := pg) (N := N) (yo := yo') (yk := yk') (yh := (sa_pd a yh ro d k m).2) (a := (sa_pd a yh ro d k m).1) (bu := nI b') (v := v) (k := k) (m := m) (d := d) hv1 R1 hyf (by omega)
  refine ⟨yo', yk', g2, g3, ?_⟩
  unfold mm_Wi_passDay
  simp (disch := ((try simp only [List.length_set]); omega)) only [pb_its, pb_l2, nI_add, pb_mul, if_true, if_false, pb_bs, pb_b2n, pb_bz0, pb_bz1, pb_10, pb_01, pb_i31, List.length_set, pk_is0, pk_r0_0, pk_r0_1, pk_r0_2, pk_r0_3, pk_r0_4, pk_r0_5, pk_r0_6, pk_r0_7, pk_r0_8, pk_r0_9, pk_i0, pk_q0, pk_is1, pk_r1_0, pk_i1, pk_q1, pk_a2, pk_u2, pk_is3, pk_r3_0, pk_r3_1, pk_r3_2, pk_p3_2, pk_is20, pk_r20_0, pk_r20_1, pk_r20_2, pk_i20, pk_q20, pk_a21, pk_u21, pk_a22, pk_u22, pk_is24, pk_r24_0, pk_p24_0, pk_r24_1, pk_r24_2, pk_r24_3, pk_r24_4, pk_i24, pk_q24, pk_is33, pk_r33_0, pk_r33_1, pk_i33, pk_q33, pk_a34, pk_u34, pk_a35, pk_u35, pk_a36, pk_u36, pk_a37, pk_u37, pk_a38, pk_u38, pk_is40, pk_r40_0, pk_i40, pk_q40, pk_is102, pk_r102_0, pk_r102_1, pk_r102_2, pk_r102_3, pk_r102_4, pk_r102_5, pk_r102_6, pk_p102_6, pk_r102_7, pk_p102_7, pk_is103, pk_r103_0, pk_r103_1, pk_i103, pk_q103, pk_a104, pk_u104, pk_a105, pk_u105, pk_a106, pk_u106, pk_a107, pk_u107, pk_a108, pk_u108, pk_a109, pk_u109, pk_a110, pk_u110, pk_is111, pk_r111_0, pk_r111_1, pk_r111_2, pk_r111_3, pk_r111_4, pk_a112, pk_u112, pk_a113, pk_u113, pk_is114, pk_r114_0, pk_r114_1, pk_r114_2, pk_r114_3, pk_r114_4, pk_a115, pk_u115, pk_a116, pk_u116, pk_a117, pk_u117, g1, sn]
end QD
