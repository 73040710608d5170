/-! ===== valley and winter of the class: what is read ===== -/
/-- the valley at v tells what a says (but strengths and the first ground) -/
def qv_S (g : Nat → ss_Cl) (v : Nat) (a : List Int32) : Prop := (v = 25 ∨ 142 ≤ v) ∧ ∃ (tl : Int32) (nds : List Int32), g v = (5, [tl, pv a 0, pv a 1, pv a 2, pv a 3], [], [some (v + 1), some (v + 2), some (v + 3), some (v + 4), some (v + 5)]) ∧ g (v + 1) = (20, [pv a 38, pv a 40, pv a 42, pv a 44], [], []) ∧ g (v + 3) = (20, sl a 30 8, [], []) ∧ g (v + 4) = (20, nds, [], []) ∧ nd_R nds a
theorem qv_fr {g : Nat → ss_Cl} {v : Nat} {a : List Int32} (h : qv_S g v a) {j : Nat} (hj : j < 8) : pk_fr (v + j) := by
  rcases h.1 with e | e <;> unfold pk_fr <;> omega
theorem qv_of {g : Nat → ss_Cl} {v : Nat} {a b : List Int32} (h : qv_S g v a) (h1 : ∀ j, j < 4 ∨ (30 ≤ j ∧ j < 38) ∨ (j = 38 ∨ j = 40 ∨ j = 42 ∨ j = 44) ∨ 62 ≤ j ∧ j < 93 → pv b j = pv a j) : qv_S g v b := by
  obtain ⟨h0, tl, nds, g0, g1, g3, g4, gl, gn⟩ := h
  refine ⟨h0, tl, nds, ?_, ?_, ?_, g4, gl, fun s hs => ?_⟩
  · rw [g0, h1 0 (by omega), h1 1 (by omega), h1 2 (by omega), h1 3 (by omega)]
  · rw [g1, h1 38 (by omega), h1 40 (by omega), h1 42 (by omega), h1 44 (by omega)]
  · rw [g3, sl_of (fun i hi => h1 (30 + i) (by omega))]
  · obtain ⟨m, q1, q2, q3⟩ := gn s hs
    refine ⟨m, q1, q2, fun d hd => ?_⟩
    rw [h1 (62 + d) (by omega)]
    exact q3 d hd
theorem pq_cloH {N v q qs k : Nat} {h : ss_Hp} {a : List Int32} (h1 : ss_is h (some v) 5 = true) (h2 : ss_gi h (some v) 5 3 = some (nI k)) (h3 : ss_gi h (some v) 5 2 = some (pv a 1)) (h4 : ss_gr h (some q) 0 0 = some (some qs)) (h5 : ∀ i, i < 8 → ss_ai h (some qs) 20 (nI i) = some (pv a (14 + i))) (hk : k ≤ 8) (hN : 8 < N) : mm_V_closedBits N (some v) (some q) h = some (sa_clo a k) := by
  unfold mm_V_closedBits
  have e : ss_lp (mm_V_closedBits_b4 N (some v) (some q) h) N (nI 0, nI 0) = some (sa_clo a k) := by
    refine pb_lp (fun i => (sa_clo a i, nI i)) k (by omega) (fun i hi => ?_) ?_
    · unfold mm_V_closedBits_b4 mm_V_closedBits_j31
      have h6 : ¬ nI k ≤ nI i := nI_ge hi (by omega)
      have h7 := h5 i (by omega)
      simp (disch := ((try simp only [List.length_set]); omega)) only [pb_its, pb_l2, nI_add, pb_mul, if_true, if_false, pb_bs, pb_b2n, pb_bz0, pb_bz1, pb_10, pb_01, pb_i31, List.length_set, pk_is0, pk_r0_0, pk_r0_1, pk_r0_2, pk_r0_3, pk_r0_4, pk_r0_5, pk_r0_6, pk_r0_7, pk_r0_8, pk_r0_9, pk_i0, pk_q0, pk_is1, pk_r1_0, pk_i1, pk_q1, pk_a2, pk_u2, pk_is3, pk_r3_0, pk_r3_1, pk_r3_2, pk_p3_2, pk_is20, pk_r20_0, pk_r20_1, pk_r20_2, pk_i20, pk_q20, pk_a21, pk_u21, pk_a22, pk_u22, pk_is24, pk_r24_0, pk_p24_0, pk_r24_1, pk_r24_2, pk_r24_3, pk_r24_4, pk_i24, pk_q24, pk_is33, pk_r33_0, pk_r33_1, pk_i33, pk_q33, pk_a34, pk_u34, pk_a35, pk_u35, pk_a36, pk_u36, pk_a37, pk_u37, pk_a38, pk_u38, pk_is40, pk_r40_0, pk_i40, pk_q40, pk_is102, pk_r102_0, pk_r102_1, pk_r102_2, pk_r102_3, pk_r102_4, pk_r102_5, pk_r102_6, pk_p102_6, pk_r102_7, pk_p102_7, pk_is103, pk_r103_0, pk_r103_1, pk_i103, pk_q103, pk_a104, pk_u104, pk_a105, pk_u105, pk_a106, pk_u106, pk_a107, pk_u107, pk_a108, pk_u108, pk_a109, pk_u109, pk_a110, pk_u110, pk_is111, pk_r111_0, pk_r111_1, pk_r111_2, pk_r111_3, pk_r111_4, pk_a112, pk_u112, pk_a113, pk_u113, pk_is114, pk_r114_0, pk_r114_1, pk_r114_2, pk_r114_3, pk_r114_4, pk_a115, pk_u115, pk_a116, pk_u116, pk_a117, pk_u117, h2, h3, h4, h6, h7]
      by_cases c : pv a (14 + i) < pv a 1
      · rw [if_pos c, sa_clo, if_pos c]
        congr 3
        exact (Int32.or_zero).symm
      · rw [if_neg c, sa_clo, if_neg c]
    · unfold mm_V_closedBits_b4
      simp (disch := ((try simp only [List.length_set]); omega)) only [pb_its, pb_l2, nI_add, pb_mul, if_true, if_false, pb_bs, pb_b2n, pb_bz0, pb_bz1, pb_10, pb_01, pb_i31, List.length_set, pk_is0, pk_r0_0, pk_r0_1, pk_r0_2, pk_r0_3, pk_r0_4, pk_r0_5, pk_r0_6, pk_r0_7, pk_r0_8, pk_r0_9, pk_i0, pk_q0, pk_is1, pk_r1_0, pk_i1, pk_q1, pk_a2, pk_u2, pk_is3, pk_r3_0, pk_r3_1, pk_r3_2, pk_p3_2, pk_is20, pk_r20_0, pk_r20_1, pk_r20_2, pk_i20, pk_q20, pk_a21, pk_u21, pk_a22, pk_u22, pk_is24, pk_r24_0, pk_p24_0, pk_r24_1, pk_r24_2, pk_r24_3, pk_r24_4, pk_i24, pk_q24, pk_is33, pk_r33_0, pk_r33_1, pk_i33, pk_q33, pk_a34, pk_u34, pk_a35, pk_u35, pk_a36, pk_u36, pk_a37, pk_u37, pk_a38, pk_u38, pk_is40, pk_r40_0, pk_i40, pk_q40, pk_is102, pk_r102_0, pk_r102_1, pk_r102_2, pk_r102_3, pk_r102_4, pk_r102_5, pk_r102_6, pk_p102_6, pk_r102_7, pk_p102_7, pk_is103, pk_r103_0, pk_r103_1, pk_i103, pk_q103, pk_a104, pk_u104, pk_a105, pk_u105, pk_a106, pk_u106, pk_a107, pk_u107, pk_a108, pk_u108, pk_a109, pk_u109, pk_a110, pk_u110, pk_is111, pk_r111_0, pk_r111_1, pk_r111_2, pk_r111_3, pk_r111_4, pk_a112, pk_u112, pk_a113, pk_u113, pk_is114, pk_r114_0, pk_r114_1, pk_r114_2, pk_r114_3, pk_r114_4, pk_a115, pk_u115, pk_a116, pk_u116, pk_a117, pk_u117, h2, nI_le (Nat.le_refl k) (by omega : k < 2 ^ 31)]
  simp (disch := ((try simp only [List.length_set]); omega)) only [pb_its, pb_l2, nI_add, pb_mul, if_true, if_false, pb_bs, pb_b2n, pb_bz0, pb_bz1, pb_10, pb_01, pb_i31, List.length_set, pk_is0, pk_r0_0, pk_r0_1, pk_r0_2, pk_r0_3, pk_r0_4, pk_r0_5, pk_r0_6, pk_r0_7, pk_r0_8, pk_r0_9, pk_i0, pk_q0, pk_is1, pk_r1_0, pk_i1, pk_q1, pk_a2, pk_u2, pk_is3, pk_r3_0, pk_r3_1, pk_r3_2, pk_p3_2, pk_is20, pk_r20_0, pk_r20_1, pk_r20_2, pk_i20, pk_q20, pk_a21, pk_u21, pk_a22, pk_u22, pk_is24, pk_r24_0, pk_p24_0, pk_r24_1, pk_r24_2, pk_r24_3, pk_r24_4, pk_i24, pk_q24, pk_is33, pk_r33_0, pk_r33_1, pk_i33, pk_q33, pk_a34, pk_u34, pk_a35, pk_u35, pk_a36, pk_u36, pk_a37, pk_u37, pk_a38, pk_u38, pk_is40, pk_r40_0, pk_i40, pk_q40, pk_is102, pk_r102_0, pk_r102_1, pk_r102_2, pk_r102_3, pk_r102_4, pk_r102_5, pk_r102_6, pk_p102_6, pk_r102_7, pk_p102_7, pk_is103, pk_r103_0, pk_r103_1, pk_i103, pk_q103, pk_a104, pk_u104, pk_a105, pk_u105, pk_a106, pk_u106, pk_a107, pk_u107, pk_a108, pk_u108, pk_a109, pk_u109, pk_a110, pk_u110, pk_is111, pk_r111_0, pk_r111_1, pk_r111_2, pk_r111_3, pk_r111_4, pk_a112, pk_u112, pk_a113, pk_u113, pk_is114, pk_r114_0, pk_r114_1, pk_r114_2, pk_r114_3, pk_r114_4, pk_a115, pk_u115, pk_a116, pk_u116, pk_a117, pk_u117, h1, e]
section QV
variable {n : Nat} {g : Nat → ss_Cl} {rc : Int32} {ti : List Int32} {tb : List Int32} {vt : Option Nat} {ri : List Int32} {cd : List Int32} {sx : List Int32} {rl : List (Option Nat)} {wi : List Int32} {wv : Option Nat} {gi : List Int32} {gs : List Int32} {gw : List Int32} {nd : List Int32} {ns : List Int32} {nw : List Int32} {il : List (Option Nat)} {ai : List Int32} {yv : Option Nat} {yr : Option Nat} {yi : List Int32} {ys : List Int32} {yw : List Int32} {yt : List Int32} {yh : List Int32} {yf : List Int32} {yo : List Int64} {yk : List Int64} {fr : List Int32} {fg : List Int32} {pl : List Int32} {pc : List Int32} {pg : List Int32} {N : Nat}
theorem vr_is {v : Nat} {a : List Int32} (h : qv_S g v a) : ss_is (pk_C n g rc ti tb vt ri cd sx rl wi wv gi gs gw nd ns nw il ai yv yr yi ys yw yt yh yf yo yk fr fg pl pc pg) (some v) 5 = true := by
  have hf := qv_fr h (j := 0) (by omega)
  obtain ⟨h0, tl, nds, g0, g1, g3, g4, gl, gn⟩ := h
  exact pk_os hf g0
theorem vr_fall {v : Nat} {a : List Int32} (h : qv_S g v a) : ss_gi (pk_C n g rc ti tb vt ri cd sx rl wi wv gi gs gw nd ns nw il ai yv yr yi ys yw yt yh yf yo yk fr fg pl pc pg) (some v) 5 1 = some (pv a 0) := by
  have hf := qv_fr h (j := 0) (by omega)
  obtain ⟨h0, tl, nds, g0, g1, g3, g4, gl, gn⟩ := h
  exact pk_oi hf g0 (j := 1) (by simp)
theorem vr_deep {v : Nat} {a : List Int32} (h : qv_S g v a) : ss_gi (pk_C n g rc ti tb vt ri cd sx rl wi wv gi gs gw nd ns nw il ai yv yr yi ys yw yt yh yf yo yk fr fg pl pc pg) (some v) 5 2 = some (pv a 1) := by
  have hf := qv_fr h (j := 0) (by omega)
  obtain ⟨h0, tl, nds, g0, g1, g3, g4, gl, gn⟩ := h
  exact pk_oi hf g0 (j := 2) (by simp)
theorem vr_steps {v : Nat} {a : List Int32} (h : qv_S g v a) : ss_gi (pk_C n g rc ti tb vt ri cd sx rl wi wv gi gs gw nd ns nw il ai yv yr yi ys yw yt yh yf yo yk fr fg pl pc pg) (some v) 5 3 = some (pv a 2) := by
  have hf := qv_fr h (j := 0) (by omega)
  obtain ⟨h0, tl, nds, g0, g1, g3, g4, gl, gn⟩ := h
  exact pk_oi hf g0 (j := 3) (by simp)
theorem vr_houses {v : Nat} {a : List Int32} (h : qv_S g v a) : ss_gi (pk_C n g rc ti tb vt ri cd sx rl wi wv gi gs gw nd ns nw il ai yv yr yi ys yw yt yh yf yo yk fr fg pl pc pg) (some v) 5 4 = some (pv a 3) := by
  have hf := qv_fr h (j := 0) (by omega)
  obtain ⟨h0, tl, nds, g0, g1, g3, g4, gl, gn⟩ := h
  exact pk_oi hf g0 (j := 4) (by simp)
theorem vr_r0 {v : Nat} {a : List Int32} (h : qv_S g v a) : ss_gr (pk_C n g rc ti tb vt ri cd sx rl wi wv gi gs gw nd ns nw il ai yv yr yi ys yw yt yh yf yo yk fr fg pl pc pg) (some v) 5 0 = some (some (v + 1)) := by
  have hf := qv_fr h (j := 0) (by omega)
  obtain ⟨h0, tl, nds, g0, g1, g3, g4, gl, gn⟩ := h
  exact pk_or hf g0 rfl
theorem vr_r1 {v : Nat} {a : List Int32} (h : qv_S g v a) : ss_gr (pk_C n g rc ti tb vt ri cd sx rl wi wv gi gs gw nd ns nw il ai yv yr yi ys yw yt yh yf yo yk fr fg pl pc pg) (some v) 5 1 = some (some (v + 2)) := by
  have hf := qv_fr h (j := 0) (by omega)
  obtain ⟨h0, tl, nds, g0, g1, g3, g4, gl, gn⟩ := h
  exact pk_or hf g0 rfl
theorem vr_r2 {v : Nat} {a : List Int32} (h : qv_S g v a) : ss_gr (pk_C n g rc ti tb vt ri cd sx rl wi wv gi gs gw nd ns nw il ai yv yr yi ys yw yt yh yf yo yk fr fg pl pc pg) (some v) 5 2 = some (some (v + 3)) := by
  have hf := qv_fr h (j := 0) (by omega)
  obtain ⟨h0, tl, nds, g0, g1, g3, g4, gl, gn⟩ := h
  exact pk_or hf g0 rfl
theorem vr_r3 {v : Nat} {a : List Int32} (h : qv_S g v a) : ss_gr (pk_C n g rc ti tb vt ri cd sx rl wi wv gi gs gw nd ns nw il ai yv yr yi ys yw yt yh yf yo yk fr fg pl pc pg) (some v) 5 3 = some (some (v + 4)) := by
  have hf := qv_fr h (j := 0) (by omega)
  obtain ⟨h0, tl, nds, g0, g1, g3, g4, gl, gn⟩ := h
  exact pk_or hf g0 rfl
theorem vr_r4 {v : Nat} {a : List Int32} (h : qv_S g v a) : ss_gr (pk_C n g rc ti tb vt ri cd sx rl wi wv gi gs gw nd ns nw il ai yv yr yi ys yw yt yh yf yo yk fr fg pl pc pg) (some v) 5 4 = some (some (v + 5)) := by
  have hf := qv_fr h (j := 0) (by omega)
  obtain ⟨h0, tl, nds, g0, g1, g3, g4, gl, gn⟩ := h
  exact pk_or hf g0 rfl
theorem vr_own {v i : Nat} {a : List Int32} (h : qv_S g v a) (hi : i < 4) : ss_ai (pk_C n g rc ti tb vt ri cd sx rl wi wv gi gs gw nd ns nw il ai yv yr yi ys yw yt yh yf yo yk fr fg pl pc pg) (some (v + 1)) 20 (nI i) = some (pv a (38 + 2 * i)) := by
  have hf := qv_fr h (j := 1) (by omega)
  obtain ⟨h0, tl, nds, g0, g1, g3, g4, gl, gn⟩ := h
  rw [pk_oa hf g1 (i := i) (by simpa using hi) (by omega), pb_own hi]
theorem vr_beside {v s : Nat} {a : List Int32} (h : qv_S g v a) (hs : s < 8) : ss_ai (pk_C n g rc ti tb vt ri cd sx rl wi wv gi gs gw nd ns nw il ai yv yr yi ys yw yt yh yf yo yk fr fg pl pc pg) (some (v + 3)) 20 (nI s) = some (pv a (30 + s)) := by
  have hf := qv_fr h (j := 3) (by omega)
  obtain ⟨h0, tl, nds, g0, g1, g3, g4, gl, gn⟩ := h
  rw [pk_oa hf g3 (i := s) (by rw [sl_len]; exact hs) (by omega), sl_pv hs]
theorem vr_needs {v s : Nat} {a : List Int32} (h : qv_S g v a) (hs : s < 8) : ∃ m, m < 2 ^ 31 ∧ (∀ d, d < 31 → ((pv a (62 + d) >>> nI s) &&& nI 1 = nI 1 ↔ m.testBit d = true)) ∧ ss_ai (pk_C n g rc ti tb vt ri cd sx rl wi wv gi gs gw nd ns nw il ai yv yr yi ys yw yt yh yf yo yk fr fg pl pc pg) (some (v + 4)) 20 (nI s) = some (nI m) := by
  have hf := qv_fr h (j := 4) (by omega)
  obtain ⟨h0, tl, nds, g0, g1, g3, g4, gl, gn⟩ := h
  obtain ⟨m, q1, q2, q3⟩ := gn s hs
  refine ⟨m, q1, q3, ?_⟩
  rw [pk_oa hf g4 (i := s) (by omega) (by omega), q2]
theorem pq_isNeeded {v s d : Nat} {a : List Int32} (h : qv_S g v a) (hs : s < 8) (hd : d < 2 ^ 31) : mm_V_isNeeded N (some v) (nI s) (nI d) (pk_C n g rc ti tb vt ri cd sx rl wi wv gi gs gw nd ns nw il ai yv yr yi ys yw yt yh yf yo yk fr fg pl pc pg) = some (if (sa_need a d >>> nI s) &&& nI 1 = nI 1 then nI 1 else nI 0) := by
  obtain ⟨m, m1, m2, m3⟩ := vr_needs (n := n) (g := g) (rc := rc) (ti := ti) (tb := tb) (vt := vt) (ri := ri) (cd := cd) (sx := sx) (rl := rl) (wi := wi) (wv := wv) (gi := gi) (gs := gs) (gw := gw) (nd := nd) (ns := ns) (nw := nw) (il := il) (ai := ai) (yv := yv) (yr := yr) (yi := yi) (ys := ys) (yw := yw) (yt := yt) (yh := yh) (yf := yf) (yo := yo) (yk := yk) (fr := fr) (fg := fg) (pl := pl) (pc := pc) (pg := pg) h hs
  unfold mm_V_isNeeded mm_V_isNeeded_j24 mm_V_isNeeded_j25 sa_need
  by_cases c : d ≤ 30
  · have h3 : ¬ nI 30 < nI d := nI_nlt c (by omega)
    have e := m2 d (by omega)
    have e2 := pb_bit m1 (k := d) (by omega)
    rw [if_pos c]
    simp (disch := ((try simp only [List.length_set]); omega)) only [pb_its, pb_l2, nI_add, pb_mul, if_true, if_false, pb_bs, pb_b2n, pb_bz0, pb_bz1, pb_10, pb_01, pb_i31, List.length_set, pk_is0, pk_r0_0, pk_r0_1, pk_r0_2, pk_r0_3, pk_r0_4, pk_r0_5, pk_r0_6, pk_r0_7, pk_r0_8, pk_r0_9, pk_i0, pk_q0, pk_is1, pk_r1_0, pk_i1, pk_q1, pk_a2, pk_u2, pk_is3, pk_r3_0, pk_r3_1, pk_r3_2, pk_p3_2, pk_is20, pk_r20_0, pk_r20_1, pk_r20_2, pk_i20, pk_q20, pk_a21, pk_u21, pk_a22, pk_u22, pk_is24, pk_r24_0, pk_p24_0, pk_r24_1, pk_r24_2, pk_r24_3, pk_r24_4, pk_i24, pk_q24, pk_is33, pk_r33_0, pk_r33_1, pk_i33, pk_q33, pk_a34, pk_u34, pk_a35, pk_u35, pk_a36, pk_u36, pk_a37, pk_u37, pk_a38, pk_u38, pk_is40, pk_r40_0, pk_i40, pk_q40, pk_is102, pk_r102_0, pk_r102_1, pk_r102_2, pk_r102_3, pk_r102_4, pk_r102_5, pk_r102_6, pk_p102_6, pk_r102_7, pk_p102_7, pk_is103, pk_r103_0, pk_r103_1, pk_i103, pk_q103, pk_a104, pk_u104, pk_a105, pk_u105, pk_a106, pk_u106, pk_a107, pk_u107, pk_a108, pk_u108, pk_a109, pk_u109, pk_a110, pk_u110, pk_is111, pk_r111_0, pk_r111_1, pk_r111_2, pk_r111_3, pk_r111_4, pk_a112, pk_u112, pk_a113, pk_u113, pk_is114, pk_r114_0, pk_r114_1, pk_r114_2, pk_r114_3, pk_r114_4, pk_a115, pk_u115, pk_a116, pk_u116, pk_a117, pk_u117, vr_is h, h3, vr_r3 h, m3, e2, e]
  · have h3 : nI 30 < nI d := nI_lt (by omega) hd
    have e0 : ∀ s, s < 8 → ¬ (nI 0 >>> nI s) &&& nI 1 = nI 1 := by decide +kernel
    rw [if_neg c]
    simp (disch := ((try simp only [List.length_set]); omega)) only [pb_its, pb_l2, nI_add, pb_mul, if_true, if_false, pb_bs, pb_b2n, pb_bz0, pb_bz1, pb_10, pb_01, pb_i31, List.length_set, pk_is0, pk_r0_0, pk_r0_1, pk_r0_2, pk_r0_3, pk_r0_4, pk_r0_5, pk_r0_6, pk_r0_7, pk_r0_8, pk_r0_9, pk_i0, pk_q0, pk_is1, pk_r1_0, pk_i1, pk_q1, pk_a2, pk_u2, pk_is3, pk_r3_0, pk_r3_1, pk_r3_2, pk_p3_2, pk_is20, pk_r20_0, pk_r20_1, pk_r20_2, pk_i20, pk_q20, pk_a21, pk_u21, pk_a22, pk_u22, pk_is24, pk_r24_0, pk_p24_0, pk_r24_1, pk_r24_2, pk_r24_3, pk_r24_4, pk_i24, pk_q24, pk_is33, pk_r33_0, pk_r33_1, pk_i33, pk_q33, pk_a34, pk_u34, pk_a35, pk_u35, pk_a36, pk_u36, pk_a37, pk_u37, pk_a38, pk_u38, pk_is40, pk_r40_0, pk_i40, pk_q40, pk_is102, pk_r102_0, pk_r102_1, pk_r102_2, pk_r102_3, pk_r102_4, pk_r102_5, pk_r102_6, pk_p102_6, pk_r102_7, pk_p102_7, pk_is103, pk_r103_0, pk_r103_1, pk_i103, pk_q103, pk_a104, pk_u104, pk_a105, pk_u105, pk_a106, pk_u106, pk_a107, pk_u107, pk_a108, pk_u108, pk_a109, pk_u109, pk_a110, pk_u110, pk_is111, pk_r111_0, pk_r111_1, pk_r111_2, pk_r111_3, pk_r111_4, pk_a112, pk_u112, pk_a113, pk_u113, pk_is114, pk_r114_0, pk_r114_1, pk_r114_2, pk_r114_3, pk_r114_4, pk_a115, pk_u115, pk_a116, pk_u116, pk_a117, pk_u117, vr_is h, h3, e0 s hs]
theorem pq_daysToNeed {v s d : Nat} {a : List Int32} (h : qv_S g v a) (hs : s < 8) (hd : d < 2 ^ 31) : mm_V_daysToNeed N (some v) (nI s) (nI d) (pk_C n g rc ti tb vt ri cd sx rl wi wv gi gs gw nd ns nw il ai yv yr yi ys yw yt yh yf yo yk fr fg pl pc pg) = some (sa_next a s d) := by
  obtain ⟨m, m1, m2, m3⟩ := vr_needs (n := n) (g := g) (rc := rc) (ti := ti) (tb := tb) (vt := vt) (ri := ri) (cd := cd) (sx := sx) (rl := rl) (wi := wi) (wv := wv) (gi := gi) (gs := gs) (gw := gw) (nd := nd) (ns := ns) (nw := nw) (il := il) (ai := ai) (yv := yv) (yr := yr) (yi := yi) (ys := ys) (yw := yw) (yt := yt) (yh := yh) (yf := yf) (yo := yo) (yk := yk) (fr := fr) (fg := fg) (pl := pl) (pc := pc) (pg := pg) h hs
  unfold mm_V_daysToNeed mm_V_daysToNeed_j18 mm_V_daysToNeed_j37
  by_cases c : d ≤ 30
  · have h3 : ¬ nI 30 < nI d := nI_nlt c (by omega)
    have h4 : m / 2 ^ d < 2 ^ 31 := Nat.lt_of_le_of_lt (Nat.div_le_self _ _) m1
    rw [nd_next m1 c m2]
    simp (disch := ((try simp only [List.length_set]); omega)) only [pb_its, pb_l2, nI_add, pb_mul, if_true, if_false, pb_bs, pb_b2n, pb_bz0, pb_bz1, pb_10, pb_01, pb_i31, List.length_set, pk_is0, pk_r0_0, pk_r0_1, pk_r0_2, pk_r0_3, pk_r0_4, pk_r0_5, pk_r0_6, pk_r0_7, pk_r0_8, pk_r0_9, pk_i0, pk_q0, pk_is1, pk_r1_0, pk_i1, pk_q1, pk_a2, pk_u2, pk_is3, pk_r3_0, pk_r3_1, pk_r3_2, pk_p3_2, pk_is20, pk_r20_0, pk_r20_1, pk_r20_2, pk_i20, pk_q20, pk_a21, pk_u21, pk_a22, pk_u22, pk_is24, pk_r24_0, pk_p24_0, pk_r24_1, pk_r24_2, pk_r24_3, pk_r24_4, pk_i24, pk_q24, pk_is33, pk_r33_0, pk_r33_1, pk_i33, pk_q33, pk_a34, pk_u34, pk_a35, pk_u35, pk_a36, pk_u36, pk_a37, pk_u37, pk_a38, pk_u38, pk_is40, pk_r40_0, pk_i40, pk_q40, pk_is102, pk_r102_0, pk_r102_1, pk_r102_2, pk_r102_3, pk_r102_4, pk_r102_5, pk_r102_6, pk_p102_6, pk_r102_7, pk_p102_7, pk_is103, pk_r103_0, pk_r103_1, pk_i103, pk_q103, pk_a104, pk_u104, pk_a105, pk_u105, pk_a106, pk_u106, pk_a107, pk_u107, pk_a108, pk_u108, pk_a109, pk_u109, pk_a110, pk_u110, pk_is111, pk_r111_0, pk_r111_1, pk_r111_2, pk_r111_3, pk_r111_4, pk_a112, pk_u112, pk_a113, pk_u113, pk_is114, pk_r114_0, pk_r114_1, pk_r114_2, pk_r114_3, pk_r114_4, pk_a115, pk_u115, pk_a116, pk_u116, pk_a117, pk_u117, vr_is h, h3, vr_r3 h, m3, pb_shr m1 (show d < 32 by omega)]
    by_cases c0 : m / 2 ^ d = 0
    · rw [if_pos c0, c0, if_pos rfl]
    · rw [if_neg c0, if_neg (fun z => c0 ((nI_eq h4 (by omega)).mp z)), pc_ctz (Nat.pos_of_ne_zero c0) h4]
      rfl
  · have h3 : nI 30 < nI d := nI_lt (by omega) hd
    rw [sa_next_late (by omega)]
    simp (disch := ((try simp only [List.length_set]); omega)) only [pb_its, pb_l2, nI_add, pb_mul, if_true, if_false, pb_bs, pb_b2n, pb_bz0, pb_bz1, pb_10, pb_01, pb_i31, List.length_set, pk_is0, pk_r0_0, pk_r0_1, pk_r0_2, pk_r0_3, pk_r0_4, pk_r0_5, pk_r0_6, pk_r0_7, pk_r0_8, pk_r0_9, pk_i0, pk_q0, pk_is1, pk_r1_0, pk_i1, pk_q1, pk_a2, pk_u2, pk_is3, pk_r3_0, pk_r3_1, pk_r3_2, pk_p3_2, pk_is20, pk_r20_0, pk_r20_1, pk_r20_2, pk_i20, pk_q20, pk_a21, pk_u21, pk_a22, pk_u22, pk_is24, pk_r24_0, pk_p24_0, pk_r24_1, pk_r24_2, pk_r24_3, pk_r24_4, pk_i24, pk_q24, pk_is33, pk_r33_0, pk_r33_1, pk_i33, pk_q33, pk_a34, pk_u34, pk_a35, pk_u35, pk_a36, pk_u36, pk_a37, pk_u37, pk_a38, pk_u38, pk_is40, pk_r40_0, pk_i40, pk_q40, pk_is102, pk_r102_0, pk_r102_1, pk_r102_2, pk_r102_3, pk_r102_4, pk_r102_5, pk_r102_6, pk_p102_6, pk_r102_7, pk_p102_7, pk_is103, pk_r103_0, pk_r103_1, pk_i103, pk_q103, pk_a104, pk_u104, pk_a105, pk_u105, pk_a106, pk_u106, pk_a107, pk_u107, pk_a108, pk_u108, pk_a109, pk_u109, pk_a110, pk_u110, pk_is111, pk_r111_0, pk_r111_1, pk_r111_2, pk_r111_3, pk_r111_4, pk_a112, pk_u112, pk_a113, pk_u113, pk_is114, pk_r114_0, pk_r114_1, pk_r114_2, pk_r114_3, pk_r114_4, pk_a115, pk_u115, pk_a116, pk_u116, pk_a117, pk_u117, vr_is h, h3]
theorem pq_Wclosed {v k : Nat} {a : List Int32} {bu : Int32} (h : qv_S g v a) (hk : k ≤ 8) (h2 : pv a 2 = nI k) (hN : 8 < N) : mm_Wi_closedBits N (some 102) (pk_C n g rc ti tb vt ri cd sx rl wi wv gi gs gw nd ns nw il ai (some v) yr [pv a 11, pv a 12, bu, pv a 10] (sl a 14 8) (sl a 22 8) [pv a 39, pv a 41, pv a 43, pv a 45] yh yf yo yk fr fg pl pc pg) = some (sa_clo a k) := by
  have e : mm_V_closedBits N (some v) (some 103) (pk_C n g rc ti tb vt ri cd sx rl wi wv gi gs gw nd ns nw il ai (some v) yr [pv a 11, pv a 12, bu, pv a 10] (sl a 14 8) (sl a 22 8) [pv a 39, pv a 41, pv a 43, pv a 45] yh yf yo yk fr fg pl pc pg) = some (sa_clo a k) := pq_cloH (vr_is h) (h2 ▸ vr_steps h) (vr_deep h) pk_r103_0 (fun i hi => by rw [pk_a104 (by rw [sl_len]; exact hi) (by omega), sl_pv hi]) hk hN
  unfold mm_Wi_closedBits
  simp (disch := ((try simp only [List.length_set]); omega)) only [pb_its, pb_l2, nI_add, pb_mul, if_true, if_false, pb_bs, pb_b2n, pb_bz0, pb_bz1, pb_10, pb_01, pb_i31, List.length_set, pk_is0, pk_r0_0, pk_r0_1, pk_r0_2, pk_r0_3, pk_r0_4, pk_r0_5, pk_r0_6, pk_r0_7, pk_r0_8, pk_r0_9, pk_i0, pk_q0, pk_is1, pk_r1_0, pk_i1, pk_q1, pk_a2, pk_u2, pk_is3, pk_r3_0, pk_r3_1, pk_r3_2, pk_p3_2, pk_is20, pk_r20_0, pk_r20_1, pk_r20_2, pk_i20, pk_q20, pk_a21, pk_u21, pk_a22, pk_u22, pk_is24, pk_r24_0, pk_p24_0, pk_r24_1, pk_r24_2, pk_r24_3, pk_r24_4, pk_i24, pk_q24, pk_is33, pk_r33_0, pk_r33_1, pk_i33, pk_q33, pk_a34, pk_u34, pk_a35, pk_u35, pk_a36, pk_u36, pk_a37, pk_u37, pk_a38, pk_u38, pk_is40, pk_r40_0, pk_i40, pk_q40, pk_is102, pk_r102_0, pk_r102_1, pk_r102_2, pk_r102_3, pk_r102_4, pk_r102_5, pk_r102_6, pk_p102_6, pk_r102_7, pk_p102_7, pk_is103, pk_r103_0, pk_r103_1, pk_i103, pk_q103, pk_a104, pk_u104, pk_a105, pk_u105, pk_a106, pk_u106, pk_a107, pk_u107, pk_a108, pk_u108, pk_a109, pk_u109, pk_a110, pk_u110, pk_is111, pk_r111_0, pk_r111_1, pk_r111_2, pk_r111_3, pk_r111_4, pk_a112, pk_u112, pk_a113, pk_u113, pk_is114, pk_r114_0, pk_r114_1, pk_r114_2, pk_r114_3, pk_r114_4, pk_a115, pk_u115, pk_a116, pk_u116, pk_a117, pk_u117, e]
end QV
