/-! ===== a rule's worth: run and worth ===== -/
def wo_fin (N : Nat) (this a1 a2 : Option Nat) (e_2 : ss_Hp ⊕ (Int32 × Int32 × ss_Hp)) : Option (Int64 × ss_Hp) := match e_2 with
    | (.inl h_2_83) =>
      some ((0 : Int64), h_2_83)
    | (.inr (y4_2_66, y5_2_66, h_2_66)) =>
      ss_b2 (mm_Ru_run N this y4_2_66 y5_2_66 a1 a2 h_2_66) fun v1 h2 =>
      some (v1, h2)
section QS
variable {n : Nat} {g : Nat → ss_Cl} {rc : Int32} {ti : List Int32} {tb : List Int32} {vt : Option Nat} {ri : List Int32} {cd : List Int32} {sx : List Int32} {rl : List (Option Nat)} {wi : List Int32} {wv : Option Nat} {gi : List Int32} {gs : List Int32} {gw : List Int32} {nd : List Int32} {ns : List Int32} {nw : List Int32} {il : List (Option Nat)} {ai : List Int32} {yv : Option Nat} {yr : Option Nat} {yi : List Int32} {ys : List Int32} {yw : List Int32} {yt : List Int32} {yh : List Int32} {yf : List Int32} {yo : List Int64} {yk : List Int64} {fr : List Int32} {fg : List Int32} {pl : List Int32} {pc : List Int32} {pg : List Int32} {N : Nat}
theorem pk_oi {a t : Nat} {I : List Int32} {L : List Int64} {R : List (Option Nat)} (ha : pk_fr a) (h0 : g a = (t, I, L, R)) {j : Nat} (hj : j < I.length) : ss_gi (pk_C n g rc ti tb vt ri cd sx rl wi wv gi gs gw nd ns nw il ai yv yr yi ys yw yt yh yf yo yk fr fg pl pc pg) (some a) t j = some (pv I j) := by
  have e : (pk_C n g rc ti tb vt ri cd sx rl wi wv gi gs gw nd ns nw il ai yv yr yi ys yw yt yh yf yo yk fr fg pl pc pg).2 a = (t, I, L, R) := (pk_out ha).trans h0
  exact (pb_gi e j).trans (pv_get hj)
theorem pk_or {a t : Nat} {I : List Int32} {L : List Int64} {R : List (Option Nat)} (ha : pk_fr a) (h0 : g a = (t, I, L, R)) {j : Nat} {x : Option Nat} (hj : R[j]? = some x) : ss_gr (pk_C n g rc ti tb vt ri cd sx rl wi wv gi gs gw nd ns nw il ai yv yr yi ys yw yt yh yf yo yk fr fg pl pc pg) (some a) t j = some x := by
  have e : (pk_C n g rc ti tb vt ri cd sx rl wi wv gi gs gw nd ns nw il ai yv yr yi ys yw yt yh yf yo yk fr fg pl pc pg).2 a = (t, I, L, R) := (pk_out ha).trans h0
  exact (pb_gr e j).trans hj
theorem pk_os {a t : Nat} {q : List Int32 × List Int64 × List (Option Nat)} (ha : pk_fr a) (h0 : g a = (t, q)) : ss_is (pk_C n g rc ti tb vt ri cd sx rl wi wv gi gs gw nd ns nw il ai yv yr yi ys yw yt yh yf yo yk fr fg pl pc pg) (some a) t = true := by
  have e : (pk_C n g rc ti tb vt ri cd sx rl wi wv gi gs gw nd ns nw il ai yv yr yi ys yw yt yh yf yo yk fr fg pl pc pg).2 a = (t, q) := (pk_out ha).trans h0
  exact pb_is e
theorem pq_run {w : Nat → Int64} {r b0 : Nat} {code : List Int32} {I1 : List Int32} {ts : List (Nat × Nat)} {v : Int64} (hyo : yo.length = 12) (hyk : yk.length = 32) (hw : ∀ k, k < 12 → pvl yo k = w k) (hr : 142 ≤ r) (h0 : g r = (1, I1, [], [some (r + 1), some (r + 2)])) (h1 : g (r + 1) = (20, code, [], [])) (hcl : code.length ≤ 400) (hq : b0 + ts.length ≤ code.length) (hat : tc_at code b0 ts) (hev : ev_run w ts [] = some [v]) (hN : 400 < N) : ∃ yk', yk'.length = 32 ∧ mm_Ru_run N (some r) (nI b0) (nI (b0 + ts.length)) (some 109) (some 110) (pk_C n g rc ti tb vt ri cd sx rl wi wv gi gs gw nd ns nw il ai yv yr yi ys yw yt yh yf yo yk fr fg pl pc pg) = some (v, (pk_C n g rc ti tb vt ri cd sx rl wi wv gi gs gw nd ns nw il ai yv yr yi ys yw yt yh yf yo yk' fr fg pl pc pg)) := by
  obtain ⟨yk', g1, g2, g3, g4⟩ := pq_runL (n := n) (g := g) (rc := rc) (ti := ti) (tb := tb) (vt := vt) (ri := ri) (cd := cd) (sx := sx) (rl := rl) (wi := wi) (wv := wv) (gi := gi) (gs := gs) (gw := gw) (nd := nd) (ns := ns) (nw := nw) (il := il) (ai := ai) (yv := yv) (yr := yr) (yi := yi) (ys := ys) (yw := yw) (yt := yt) (yh := yh) (yf := yf) (yo := yo) (fr := fr) (fg := fg) (pl := pl) (pc := pc) (pg := pg) (N := N) (q := b0 + ts.length) hyo hw hr h0 h1 hcl hq ts b0 [] [v] yk N hyk rfl hat hev (fun i hi => by simp at hi) (by simp) (by omega)
  refine ⟨yk', g1, ?_⟩
  have e1 : pvl yk' 0 = v := sk_top (s := []) g2
  have e2 : ¬ nI 1 ≤ nI 0 := by decide
  simp only [List.length_nil, List.length_cons, Nat.zero_add] at g4
  unfold mm_Ru_run mm_Ru_run_j164
  simp (disch := ((try simp only [List.length_set]); omega)) only [pb_its, pb_l2, nI_add, pb_mul, if_true, if_false, pb_bs, pb_b2n, pb_bz0, pb_bz1, pb_10, pb_01, pb_i31, List.length_set, pk_is0, pk_r0_0, pk_r0_1, pk_r0_2, pk_r0_3, pk_r0_4, pk_r0_5, pk_r0_6, pk_r0_7, pk_r0_8, pk_r0_9, pk_i0, pk_q0, pk_is1, pk_r1_0, pk_i1, pk_q1, pk_a2, pk_u2, pk_is3, pk_r3_0, pk_r3_1, pk_r3_2, pk_p3_2, pk_is20, pk_r20_0, pk_r20_1, pk_r20_2, pk_i20, pk_q20, pk_a21, pk_u21, pk_a22, pk_u22, pk_is24, pk_r24_0, pk_p24_0, pk_r24_1, pk_r24_2, pk_r24_3, pk_r24_4, pk_i24, pk_q24, pk_is33, pk_r33_0, pk_r33_1, pk_i33, pk_q33, pk_a34, pk_u34, pk_a35, pk_u35, pk_a36, pk_u36, pk_a37, pk_u37, pk_a38, pk_u38, pk_is40, pk_r40_0, pk_i40, pk_q40, pk_is102, pk_r102_0, pk_r102_1, pk_r102_2, pk_r102_3, pk_r102_4, pk_r102_5, pk_r102_6, pk_p102_6, pk_r102_7, pk_p102_7, pk_is103, pk_r103_0, pk_r103_1, pk_i103, pk_q103, pk_a104, pk_u104, pk_a105, pk_u105, pk_a106, pk_u106, pk_a107, pk_u107, pk_a108, pk_u108, pk_a109, pk_u109, pk_a110, pk_u110, pk_is111, pk_r111_0, pk_r111_1, pk_r111_2, pk_r111_3, pk_r111_4, pk_a112, pk_u112, pk_a113, pk_u113, pk_is114, pk_r114_0, pk_r114_1, pk_r114_2, pk_r114_3, pk_r114_4, pk_a115, pk_u115, pk_a116, pk_u116, pk_a117, pk_u117, pk_os (a := r) (by unfold pk_fr; omega) h0, g4, e1, e2]
theorem pq_wL {w : Nat → Int64} {r nc : Nat} {code starts : List Int32} (hyo : yo.length = 12) (hw : ∀ k, k < 12 → pvl yo k = w k) (hr : 142 ≤ r) (hnc : nc ≤ 12) (h0 : g r = (1, [nI nc], [], [some (r + 1), some (r + 2)])) (h1 : g (r + 1) = (20, code, [], [])) (h2 : g (r + 2) = (20, starts, [], [])) (hsl : starts.length = 2 * nc + 1) (hcl : code.length ≤ 400) (hN : 400 < N) :
    ∀ (R : List ru_C) (c : Nat) (yk : List Int64) (L : Nat), yk.length = 32 → c + R.length = nc → (∀ j, j < R.length → ru_okc (R.getD j ([], none)) ∧ ∃ b, pv starts (2 * (c + j)) = nI b ∧ pv starts (2 * (c + j) + 1) = nI (b + (R.getD j ([], none)).1.length) ∧ pv starts (2 * (c + j) + 2) = nI (b + (R.getD j ([], none)).1.length + ((R.getD j ([], none)).2.getD []).length) ∧ tc_at code b (R.getD j ([], none)).1 ∧ tc_at code (b + (R.getD j ([], none)).1.length) ((R.getD j ([], none)).2.getD []) ∧ b + (R.getD j ([], none)).1.length + ((R.getD j ([], none)).2.getD []).length ≤ code.length) → R.length < L → ∃ yk', yk'.length = 32 ∧ (ss_lp (mm_Ru_worth_b2 N (some r) (some 109) (some 110)) L (nI c, (pk_C n g rc ti tb vt ri cd sx rl wi wv gi gs gw nd ns nw il ai yv yr yi ys yw yt yh yf yo yk fr fg pl pc pg))).bind (wo_fin N (some r) (some 109) (some 110)) = some (ev_rule w R, (pk_C n g rc ti tb vt ri cd sx rl wi wv gi gs gw nd ns nw il ai yv yr yi ys yw yt yh yf yo yk' fr fg pl pc pg)) := by
  have f0 : pk_fr r := by unfold pk_fr; omega
  have f2 : pk_fr (r + 2) := by unfold pk_fr; omega
  have c0 : ∀ yk, ss_gi (pk_C n g rc ti tb vt ri cd sx rl wi wv gi gs gw nd ns nw il ai yv yr yi ys yw yt yh yf yo yk fr fg pl pc pg) (some r) 1 0 = some (nI nc) := fun yk => pk_oi f0 h0 (by simp)
  have c1 : ∀ yk, ss_gr (pk_C n g rc ti tb vt ri cd sx rl wi wv gi gs gw nd ns nw il ai yv yr yi ys yw yt yh yf yo yk fr fg pl pc pg) (some r) 1 1 = some (some (r + 2)) := fun yk => pk_or f0 h0 rfl
  have c2 : ∀ yk i, i < starts.length → ss_ai (pk_C n g rc ti tb vt ri cd sx rl wi wv gi gs gw nd ns nw il ai yv yr yi ys yw yt yh yf yo yk fr fg pl pc pg) (some (r + 2)) 20 (nI i) = some (pv starts i) := fun yk i hi => pk_oa f2 h2 hi (by omega)
  intro R
  induction R with
  | nil =>
    intro c yk L hyk hcn _ hL
    obtain ⟨L, rfl⟩ : ∃ L', L = L' + 1 := ⟨L - 1, by simp at hL; omega⟩
    have hcq : c = nc := by simpa using hcn
    subst hcq
    refine ⟨yk, hyk, ?_⟩
    rw [pb_stop (e := .inl (pk_C n g rc ti tb vt ri cd sx rl wi wv gi gs gw nd ns nw il ai yv yr yi ys yw yt yh yf yo yk fr fg pl pc pg))]
    · rfl
    · unfold mm_Ru_worth_b2
      simp (disch := ((try simp only [List.length_set]); omega)) only [pb_its, pb_l2, nI_add, pb_mul, if_true, if_false, pb_bs, pb_b2n, pb_bz0, pb_bz1, pb_10, pb_01, pb_i31, List.length_set, pk_is0, pk_r0_0, pk_r0_1, pk_r0_2, pk_r0_3, pk_r0_4, pk_r0_5, pk_r0_6, pk_r0_7, pk_r0_8, pk_r0_9, pk_i0, pk_q0, pk_is1, pk_r1_0, pk_i1, pk_q1, pk_a2, pk_u2, pk_is3, pk_r3_0, pk_r3_1, pk_r3_2, pk_p3_2, pk_is20, pk_r20_0, pk_r20_1, pk_r20_2, pk_i20, pk_q20, pk_a21, pk_u21, pk_a22, pk_u22, pk_is24, pk_r24_0, pk_p24_0, pk_r24_1, pk_r24_2, pk_r24_3, pk_r24_4, pk_i24, pk_q24, pk_is33, pk_r33_0, pk_r33_1, pk_i33, pk_q33, pk_a34, pk_u34, pk_a35, pk_u35, pk_a36, pk_u36, pk_a37, pk_u37, pk_a38, pk_u38, pk_is40, pk_r40_0, pk_i40, pk_q40, pk_is102, pk_r102_0, pk_r102_1, pk_r102_2, pk_r102_3, pk_r102_4, pk_r102_5, pk_r102_6, pk_p102_6, pk_r102_7, pk_p102_7, pk_is103, pk_r103_0, pk_r103_1, pk_i103, pk_q103, pk_a104, pk_u104, pk_a105, pk_u105, pk_a106, pk_u106, pk_a107, pk_u107, pk_a108, pk_u108, pk_a109, pk_u109, pk_a110, pk_u110, pk_is111, pk_r111_0, pk_r111_1, pk_r111_2, pk_r111_3, pk_r111_4, pk_a112, pk_u112, pk_a113, pk_u113, pk_is114, pk_r114_0, pk_r114_1, pk_r114_2, pk_r114_3, pk_r114_4, pk_a115, pk_u115, pk_a116, pk_u116, pk_a117, pk_u117, c0, nI_le (Nat.le_refl c) (by omega : c < 2 ^ 31)]
  | cons x R ih =>
    intro c yk L hyk hcn hat hL
    obtain ⟨L, rfl⟩ : ∃ L', L = L' + 1 := ⟨L - 1, by simp at hL; omega⟩
    have hcn2 : c + 1 + R.length = nc := by simp at hcn; omega
    have hL2 : R.length < L := by simp at hL; omega
    have hz := hat 0 (by simp)
    rw [Nat.add_zero, List.getD_cons_zero] at hz
    have h3 : ¬ nI nc ≤ nI c := nI_ge (by omega) (by omega)
    obtain ⟨su, te⟩ := x
    obtain ⟨hok, b, hb1, hb2, hb3, ht1, ht2, hb4⟩ := hz
    obtain ⟨⟨v, hv⟩, hokt⟩ := hok w
    simp only at hb1 hb2 hb3 ht1 ht2 hb4 hv hokt
    have fin : ∀ (yk2 : List Int64), yk2.length = 32 → ∃ yk', yk'.length = 32 ∧ wo_fin N (some r) (some 109) (some 110) (.inr (nI b, nI (b + su.length), (pk_C n g rc ti tb vt ri cd sx rl wi wv gi gs gw nd ns nw il ai yv yr yi ys yw yt yh yf yo yk2 fr fg pl pc pg))) = some (ev_val w su, (pk_C n g rc ti tb vt ri cd sx rl wi wv gi gs gw nd ns nw il ai yv yr yi ys yw yt yh yf yo yk' fr fg pl pc pg)) := by
      intro yk2 hyk2
      obtain ⟨yk', g1, g2⟩ := pq_run (n := n) (g := g) (rc := rc) (ti := ti) (tb := tb) (vt := vt) (ri := ri) (cd := cd) (sx := sx) (rl := rl) (wi := wi) (wv := wv) (gi := gi) (gs := gs) (gw := gw) (nd := nd) (ns := ns) (nw := nw) (il := il) (ai := ai) (yv := yv) (yr := yr) (yi := yi) (ys := ys) (yw := yw) (yt := yt) (yh := yh) (yf := yf) (yo := yo) (fr := fr) (fg := fg) (pl := pl) (pc := pc) (pg := pg) (N := N) (yk := yk2) (b0 := b) (ts := su) (v := v) hyo hyk2 hw hr h0 h1 hcl (by omega) ht1 hv hN
      refine ⟨yk', g1, ?_⟩
      unfold wo_fin
      simp (disch := ((try simp only [List.length_set]); omega)) only [pb_its, pb_l2, nI_add, pb_mul, if_true, if_false, pb_bs, pb_b2n, pb_bz0, pb_bz1, pb_10, pb_01, pb_i31, List.length_set, pk_is0, pk_r0_0, pk_r0_1, pk_r0_2, pk_r0_3, pk_r0_4, pk_r0_5, pk_r0_6, pk_r0_7, pk_r0_8, pk_r0_9, pk_i0, pk_q0, pk_is1, pk_r1_0, pk_i1, pk_q1, pk_a2, pk_u2, pk_is3, pk_r3_0, pk_r3_1, pk_r3_2, pk_p3_2, pk_is20, pk_r20_0, pk_r20_1, pk_r20_2, pk_i20, pk_q20, pk_a21, pk_u21, pk_a22, pk_u22, pk_is24, pk_r24_0, pk_p24_0, pk_r24_1, pk_r24_2, pk_r24_3, pk_r24_4, pk_i24, pk_q24, pk_is33, pk_r33_0, pk_r33_1, pk_i33, pk_q33, pk_a34, pk_u34, pk_a35, pk_u35, pk_a36, pk_u36, pk_a37, pk_u37, pk_a38, pk_u38, pk_is40, pk_r40_0, pk_i40, pk_q40, pk_is102, pk_r102_0, pk_r102_1, pk_r102_2, pk_r102_3, pk_r102_4, pk_r102_5, pk_r102_6, pk_p102_6, pk_r102_7, pk_p102_7, pk_is103, pk_r103_0, pk_r103_1, pk_i103, pk_q103, pk_a104, pk_u104, pk_a105, pk_u105, pk_a106, pk_u106, pk_a107, pk_u107, pk_a108, pk_u108, pk_a109, pk_u109, pk_a110, pk_u110, pk_is111, pk_r111_0, pk_r111_1, pk_r111_2, pk_r111_3, pk_r111_4, pk_a112, pk_u112, pk_a113, pk_u113, pk_is114, pk_r114_0, pk_r114_1, pk_r114_2, pk_r114_3, pk_r114_4, pk_a115, pk_u115, pk_a116, pk_u116, pk_a117, pk_u117, g2, ev_val_of hv]
    cases te with
    | none =>
      simp only [Option.getD_none, List.length_nil, Nat.add_zero] at hb3 ht2 hb4
      obtain ⟨yk', g1, g2⟩ := fin yk hyk
      refine ⟨yk', g1, ?_⟩
      rw [pb_stop (e := .inr (nI b, nI (b + su.length), (pk_C n g rc ti tb vt ri cd sx rl wi wv gi gs gw nd ns nw il ai yv yr yi ys yw yt yh yf yo yk fr fg pl pc pg)))]
      · exact g2
      · unfold mm_Ru_worth_b2
        simp (disch := ((try simp only [List.length_set]); omega)) only [pb_its, pb_l2, nI_add, pb_mul, if_true, if_false, pb_bs, pb_b2n, pb_bz0, pb_bz1, pb_10, pb_01, pb_i31, List.length_set, pk_is0, pk_r0_0, pk_r0_1, pk_r0_2, pk_r0_3, pk_r0_4, pk_r0_5, pk_r0_6, pk_r0_7, pk_r0_8, pk_r0_9, pk_i0, pk_q0, pk_is1, pk_r1_0, pk_i1, pk_q1, pk_a2, pk_u2, pk_is3, pk_r3_0, pk_r3_1, pk_r3_2, pk_p3_2, pk_is20, pk_r20_0, pk_r20_1, pk_r20_2, pk_i20, pk_q20, pk_a21, pk_u21, pk_a22, pk_u22, pk_is24, pk_r24_0, pk_p24_0, pk_r24_1, pk_r24_2, pk_r24_3, pk_r24_4, pk_i24, pk_q24, pk_is33, pk_r33_0, pk_r33_1, pk_i33, pk_q33, pk_a34, pk_u34, pk_a35, pk_u35, pk_a36, pk_u36, pk_a37, pk_u37, pk_a38, pk_u38, pk_is40, pk_r40_0, pk_i40, pk_q40, pk_is102, pk_r102_0, pk_r102_1, pk_r102_2, pk_r102_3, pk_r102_4, pk_r102_5, pk_r102_6, pk_p102_6, pk_r102_7, pk_p102_7, pk_is103, pk_r103_0, pk_r103_1, pk_i103, pk_q103, pk_a104, pk_u104, pk_a105, pk_u105, pk_a106, pk_u106, pk_a107, pk_u107, pk_a108, pk_u108, pk_a109, pk_u109, pk_a110, pk_u110, pk_is111, pk_r111_0, pk_r111_1, pk_r111_2, pk_r111_3, pk_r111_4, pk_a112, pk_u112, pk_a113, pk_u113, pk_is114, pk_r114_0, pk_r114_1, pk_r114_2, pk_r114_3, pk_r114_4, pk_a115, pk_u115, pk_a116, pk_u116, pk_a117, pk_u117, c0, c1, c2, h3, hb1, hb2, hb3]
    | some t =>
      simp only [Option.getD_some] at hb3 ht2 hb4
      obtain ⟨u, hu, hev⟩ := hokt t rfl
      have htl : 0 < t.length := by
        cases t with
        | nil => simp [ev_run] at hev
        | cons => simp
      obtain ⟨yk2, g1, g2⟩ := pq_run (n := n) (g := g) (rc := rc) (ti := ti) (tb := tb) (vt := vt) (ri := ri) (cd := cd) (sx := sx) (rl := rl) (wi := wi) (wv := wv) (gi := gi) (gs := gs) (gw := gw) (nd := nd) (ns := ns) (nw := nw) (il := il) (ai := ai) (yv := yv) (yr := yr) (yi := yi) (ys := ys) (yw := yw) (yt := yt) (yh := yh) (yf := yf) (yo := yo) (fr := fr) (fg := fg) (pl := pl) (pc := pc) (pg := pg) (N := N) (b0 := b + su.length) (ts := t) (v := u) hyo hyk hw hr h0 h1 hcl hb4 ht2 hev hN
      have hn : ¬ nI (b + su.length) = nI (b + su.length + t.length) := by
        rw [nI_eq (by omega) (by omega)]
        omega
      by_cases cu : u = 1
      · obtain ⟨yk', k1, k2⟩ := fin yk2 g1
        refine ⟨yk', k1, ?_⟩
        have cu0 : ¬ u = 0 := by rw [cu]; decide
        rw [pb_stop (e := .inr (nI b, nI (b + su.length), (pk_C n g rc ti tb vt ri cd sx rl wi wv gi gs gw nd ns nw il ai yv yr yi ys yw yt yh yf yo yk2 fr fg pl pc pg)))]
        · rw [ev_rule, ev_val_of hev, if_pos cu]
          exact k2
        · unfold mm_Ru_worth_b2
          simp (disch := ((try simp only [List.length_set]); omega)) only [pb_its, pb_l2, nI_add, pb_mul, if_true, if_false, pb_bs, pb_b2n, pb_bz0, pb_bz1, pb_10, pb_01, pb_i31, List.length_set, pk_is0, pk_r0_0, pk_r0_1, pk_r0_2, pk_r0_3, pk_r0_4, pk_r0_5, pk_r0_6, pk_r0_7, pk_r0_8, pk_r0_9, pk_i0, pk_q0, pk_is1, pk_r1_0, pk_i1, pk_q1, pk_a2, pk_u2, pk_is3, pk_r3_0, pk_r3_1, pk_r3_2, pk_p3_2, pk_is20, pk_r20_0, pk_r20_1, pk_r20_2, pk_i20, pk_q20, pk_a21, pk_u21, pk_a22, pk_u22, pk_is24, pk_r24_0, pk_p24_0, pk_r24_1, pk_r24_2, pk_r24_3, pk_r24_4, pk_i24, pk_q24, pk_is33, pk_r33_0, pk_r33_1, pk_i33, pk_q33, pk_a34, pk_u34, pk_a35, pk_u35, pk_a36, pk_u36, pk_a37, pk_u37, pk_a38, pk_u38, pk_is40, pk_r40_0, pk_i40, pk_q40, pk_is102, pk_r102_0, pk_r102_1, pk_r102_2, pk_r102_3, pk_r102_4, pk_r102_5, pk_r102_6, pk_p102_6, pk_r102_7, pk_p102_7, pk_is103, pk_r103_0, pk_r103_1, pk_i103, pk_q103, pk_a104, pk_u104, pk_a105, pk_u105, pk_a106, pk_u106, pk_a107, pk_u107, pk_a108, pk_u108, pk_a109, pk_u109, pk_a110, pk_u110, pk_is111, pk_r111_0, pk_r111_1, pk_r111_2, pk_r111_3, pk_r111_4, pk_a112, pk_u112, pk_a113, pk_u113, pk_is114, pk_r114_0, pk_r114_1, pk_r114_2, pk_r114_3, pk_r114_4, pk_a115, pk_u115, pk_a116, pk_u116, pk_a117, pk_u117, c0, c1, c2, h3, hb1, hb2, hb3, hn, g2, pl_eq, cu0]
      · have cu0 : u = 0 := by
          rcases hu with h | h
          · exact h
          · exact absurd h cu
        obtain ⟨yk', k1, k2⟩ := ih (c + 1) yk2 L g1 hcn2 (fun j hj => by
          have h1 := hat (j + 1) (by simp; omega)
          rw [show c + (j + 1) = c + 1 + j by omega, List.getD_cons_succ] at h1
          exact h1) hL2
        refine ⟨yk', k1, ?_⟩
        rw [ev_rule, ev_val_of hev, if_neg cu, ← k2]
        rw [ss_lp]
        have e : mm_Ru_worth_b2 N (some r) (some 109) (some 110) (nI c, (pk_C n g rc ti tb vt ri cd sx rl wi wv gi gs gw nd ns nw il ai yv yr yi ys yw yt yh yf yo yk fr fg pl pc pg)) = some (.inl (nI (c + 1), (pk_C n g rc ti tb vt ri cd sx rl wi wv gi gs gw nd ns nw il ai yv yr yi ys yw yt yh yf yo yk2 fr fg pl pc pg))) := by
          unfold mm_Ru_worth_b2
          simp (disch := ((try simp only [List.length_set]); omega)) only [pb_its, pb_l2, nI_add, pb_mul, if_true, if_false, pb_bs, pb_b2n, pb_bz0, pb_bz1, pb_10, pb_01, pb_i31, List.length_set, pk_is0, pk_r0_0, pk_r0_1, pk_r0_2, pk_r0_3, pk_r0_4, pk_r0_5, pk_r0_6, pk_r0_7, pk_r0_8, pk_r0_9, pk_i0, pk_q0, pk_is1, pk_r1_0, pk_i1, pk_q1, pk_a2, pk_u2, pk_is3, pk_r3_0, pk_r3_1, pk_r3_2, pk_p3_2, pk_is20, pk_r20_0, pk_r20_1, pk_r20_2, pk_i20, pk_q20, pk_a21, pk_u21, pk_a22, pk_u22, pk_is24, pk_r24_0, pk_p24_0, pk_r24_1, pk_r24_2, pk_r24_3, pk_r24_4, pk_i24, pk_q24, pk_is33, pk_r33_0, pk_r33_1, pk_i33, pk_q33, pk_a34, pk_u34, pk_a35, pk_u35, pk_a36, pk_u36, pk_a37, pk_u37, pk_a38, pk_u38, pk_is40, pk_r40_0, pk_i40, pk_q40, pk_is102, pk_r102_0, pk_r102_1, pk_r102_2, pk_r102_3, pk_r102_4, pk_r102_5, pk_r102_6, pk_p102_6, pk_r102_7, pk_p102_7, pk_is103, pk_r103_0, pk_r103_1, pk_i103, pk_q103, pk_a104, pk_u104, pk_a105, pk_u105, pk_a106, pk_u106, pk_a107, pk_u107, pk_a108, pk_u108, pk_a109, pk_u109, pk_a110, pk_u110, pk_is111, pk_r111_0, pk_r111_1, pk_r111_2, pk_r111_3, pk_r111_4, pk_a112, pk_u112, pk_a113, pk_u113, pk_is114, pk_r114_0, pk_r114_1, pk_r114_2, pk_r114_3, pk_r114_4, pk_a115, pk_u115, pk_a116, pk_u116, pk_a117, pk_u117, c0, c1, c2, h3, hb1, hb2, hb3, hn, g2, pl_eq, cu0]
        rw [e]
theorem pq_worth {w : Nat → Int64} {r : Nat} {R : List ru_C} (hyo : yo.length = 12) (hyk : yk.length = 32) (hw : ∀ k, k < 12 → pvl yo k = w k) (hR : rc_R g r R) (hN : 400 < N) : ∃ yk', yk'.length = 32 ∧ mm_Ru_worth N (some r) (some 109) (some 110) (pk_C n g rc ti tb vt ri cd sx rl wi wv gi gs gw nd ns nw il ai yv yr yi ys yw yt yh yf yo yk fr fg pl pc pg) = some (ev_rule w R, (pk_C n g rc ti tb vt ri cd sx rl wi wv gi gs gw nd ns nw il ai yv yr yi ys yw yt yh yf yo yk' fr fg pl pc pg)) := by
  obtain ⟨hr, hn, code, starts, h0, h1, h2, h3, h4, h5⟩ := hR
  obtain ⟨yk', g1, g2⟩ := pq_wL (n := n) (g := g) (rc := rc) (ti := ti) (tb := tb) (vt := vt) (ri := ri) (cd := cd) (sx := sx) (rl := rl) (wi := wi) (wv := wv) (gi := gi) (gs := gs) (gw := gw) (nd := nd) (ns := ns) (nw := nw) (il := il) (ai := ai) (yv := yv) (yr := yr) (yi := yi) (ys := ys) (yw := yw) (yt := yt) (yh := yh) (yf := yf) (yo := yo) (fr := fr) (fg := fg) (pl := pl) (pc := pc) (pg := pg) (N := N) (r := r) (nc := R.length) hyo hw hr hn h0 h1 h2 h3 h4 hN R 0 yk N hyk (by omega) (fun j hj => by rw [Nat.zero_add]; exact h5 j hj) (by omega)
  refine ⟨yk', g1, ?_⟩
  rw [← g2]
  unfold mm_Ru_worth
  rw [if_pos (pk_os (by unfold pk_fr; omega) h0)]
  rfl
end QS
