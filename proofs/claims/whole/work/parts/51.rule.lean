/-! ===== a rule's worth, on the class's side ===== -/
def ec_op (k : Nat) : Nat := if k = 2 then 1 else if k = 3 then 2 else if k = 4 then 3 else if k = 5 then 4 else if k = 14 then 5 else if k = 12 then 11 else if k = 13 then 12 else if k = 11 then 13 else k
/-- a token as the class keeps it -/
def tk_C (t : Nat × Nat) : Int32 := if t.1 = 0 then nI t.2 else if t.1 = 1 then -nI (14 + t.2) else -nI (ec_op t.1)
theorem tk_C_0 (v : Nat) : tk_C (0, v) = nI v := by simp only [tk_C, if_true]
theorem tk_C_1 (v : Nat) : tk_C (1, v) = -nI (14 + v) := by simp only [tk_C, Nat.one_ne_zero, if_false, if_true]
def tc_ok (t : Nat × Nat) : Prop := t.1 < 15 ∧ t.2 < 100000 ∧ (t.1 = 1 → t.2 < 12)
def tc_at (a : List Int32) (p : Nat) (ts : List (Nat × Nat)) : Prop := ∀ j, j < ts.length → pv a (p + j) = tk_C (ts.getD j (0, 0)) ∧ tc_ok (ts.getD j (0, 0))
theorem tc_at_cons {a : List Int32} {p : Nat} {x : Nat × Nat} {ts : List (Nat × Nat)} (h : tc_at a p (x :: ts)) : pv a p = tk_C x ∧ tc_ok x ∧ tc_at a (p + 1) ts := by
  have h0 := h 0 (by simp)
  refine ⟨by simpa using h0.1, by simpa using h0.2, fun j hj => ?_⟩
  have h1 := h (j + 1) (by simp; omega)
  rw [show p + (j + 1) = p + 1 + j by omega, List.getD_cons_succ] at h1
  exact h1
theorem pq_join {N k : Nat} {x y : Int64} (hk : 1 < k ∧ k < 15 ∧ k ≠ 11) : mm_Ru_join N (-nI (ec_op k)) x y = some (ev_op k x y) := by
  obtain ⟨h1, h2, h3⟩ := hk
  rcases (by omega : k = 2 ∨ k = 3 ∨ k = 4 ∨ k = 5 ∨ k = 6 ∨ k = 7 ∨ k = 8 ∨ k = 9 ∨ k = 10 ∨ k = 12 ∨ k = 13 ∨ k = 14) with h | h | h | h | h | h | h | h | h | h | h | h <;> subst h <;>
    simp (config := { decide := true }) only [mm_Ru_join, mm_Ru_join_j85, mm_Ru_join_j99, mm_Ru_join_j111, mm_Ru_join_j123, mm_Ru_join_j135, mm_Ru_join_j147, mm_Ru_join_j159, ev_op, ec_op, ss_ldiv, ss_lrem, if_true, if_false, lg_cmp_ge, lg_cmp_le, lg_cmp_gt, lg_cmp_lt, lg_cmp_eq, pb_its] <;>
    (try split) <;> (try rfl) <;> (try simp_all)
theorem pq_word : ∀ v, v < 12 → (-nI (14 + v) < nI 0 ∧ ¬ nI 0 ≤ -nI (14 + v)) ∧ ¬ -nI 14 < -nI (14 + v) ∧ -nI 14 - -nI (14 + v) = nI v := by decide +kernel
theorem pq_opc : ∀ k, k < 15 → 1 < k → ¬ nI 0 ≤ -nI (ec_op k) ∧ -nI 14 < -nI (ec_op k) ∧ ((-nI (ec_op k) = -nI 13) = (k = 11)) := by decide +kernel
theorem pq_e3 {v : Nat} (hv : v < 100000) : ¬ nI 12 ≤ -nI 14 - nI v := by
  intro h
  have hv1 : (nI v).toInt = v := nI_toInt (by omega)
  have := Int32.le_iff_toInt_le.mp h
  rw [Int32.toInt_sub, hv1] at this
  have e14 : (-nI 14).toInt = -14 := by decide
  rw [e14, show (nI 12).toInt = 12 by decide, Int.bmod_eq_of_le (by omega) (by omega)] at this
  omega
/-- the class's rule at r is R -/
def rc_R (g : Nat → ss_Cl) (r : Nat) (R : List ru_C) : Prop := 142 ≤ r ∧ R.length ≤ 12 ∧ (∃ code starts, g r = (1, [nI R.length], [], [some (r + 1), some (r + 2)]) ∧ g (r + 1) = (20, code, [], []) ∧ g (r + 2) = (20, starts, [], []) ∧ starts.length = 2 * R.length + 1 ∧ code.length ≤ 400 ∧ ∀ j, j < R.length → ru_okc (R.getD j ([], none)) ∧ ∃ b, pv starts (2 * j) = nI b ∧ pv starts (2 * j + 1) = nI (b + (R.getD j ([], none)).1.length) ∧ pv starts (2 * j + 2) = nI (b + (R.getD j ([], none)).1.length + ((R.getD j ([], none)).2.getD []).length) ∧ tc_at code b (R.getD j ([], none)).1 ∧ tc_at code (b + (R.getD j ([], none)).1.length) ((R.getD j ([], none)).2.getD []) ∧ b + (R.getD j ([], none)).1.length + ((R.getD j ([], none)).2.getD []).length ≤ code.length)
section QR
variable {n : Nat} {g : Nat → ss_Cl} {rc : Int32} {ti : List Int32} {tb : List Int32} {vt : Option Nat} {ri : List Int32} {cd : List Int32} {sx : List Int32} {rl : List (Option Nat)} {wi : List Int32} {wv : Option Nat} {gi : List Int32} {gs : List Int32} {gw : List Int32} {nd : List Int32} {ns : List Int32} {nw : List Int32} {il : List (Option Nat)} {ai : List Int32} {yv : Option Nat} {yr : Option Nat} {yi : List Int32} {ys : List Int32} {yw : List Int32} {yt : List Int32} {yh : List Int32} {yf : List Int32} {yo : List Int64} {yk : List Int64} {fr : List Int32} {fg : List Int32} {pl : List Int32} {pc : List Int32} {pg : List Int32} {N : Nat}
theorem pk_len23 : ss_len (pk_C n g rc ti tb vt ri cd sx rl wi wv gi gs gw nd ns nw il ai yv yr yi ys yw yt yh yf yo yk fr fg pl pc pg) (some 110) 23 = some (nI yk.length) := Eq.trans rfl rfl
theorem pk_len23b : ss_len (pk_C n g rc ti tb vt ri cd sx rl wi wv gi gs gw nd ns nw il ai yv yr yi ys yw yt yh yf yo yk fr fg pl pc pg) (some 109) 23 = some (nI yo.length) := Eq.trans rfl rfl
theorem pk_ru0 {r : Nat} {I1 : List Int32} {x y : Option Nat} (hr : 142 ≤ r) (h0 : g r = (1, I1, [], [x, y])) : ss_gr (pk_C n g rc ti tb vt ri cd sx rl wi wv gi gs gw nd ns nw il ai yv yr yi ys yw yt yh yf yo yk fr fg pl pc pg) (some r) 1 0 = some x := by
  have e : (pk_C n g rc ti tb vt ri cd sx rl wi wv gi gs gw nd ns nw il ai yv yr yi ys yw yt yh yf yo yk fr fg pl pc pg).2 r = (1, I1, [], [x, y]) := (pk_out (by unfold pk_fr; omega)).trans h0
  exact pb_gr e 0
theorem pk_oa {a t : Nat} {I : List Int32} {L : List Int64} {R : List (Option Nat)} (ha : pk_fr a) (h0 : g a = (t, I, L, R)) {i : Nat} (hi : i < I.length) (h31 : i < 2147483648) : ss_ai (pk_C n g rc ti tb vt ri cd sx rl wi wv gi gs gw nd ns nw il ai yv yr yi ys yw yt yh yf yo yk fr fg pl pc pg) (some a) t (nI i) = some (pv I i) := by
  have e : (pk_C n g rc ti tb vt ri cd sx rl wi wv gi gs gw nd ns nw il ai yv yr yi ys yw yt yh yf yo yk fr fg pl pc pg).2 a = (t, I, L, R) := (pk_out ha).trans h0
  exact (pb_ai e h31).trans (pv_get hi)
theorem pq_runL {w : Nat → Int64} {r q : Nat} {code : List Int32} {I1 : List Int32} (hyo : yo.length = 12) (hw : ∀ k, k < 12 → pvl yo k = w k) (hr : 142 ≤ r) (h0 : g r = (1, I1, [], [some (r + 1), some (r + 2)])) (h1 : g (r + 1) = (20, code, [], [])) (hcl : code.length ≤ 400) (hq : q ≤ code.length) :
    ∀ (ts : List (Nat × Nat)) (i : Nat) (s s' : List Int64) (yk : List Int64) (L : Nat), yk.length = 32 → i + ts.length = q → tc_at code i ts → ev_run w ts s = some s' → sk_R yk s → s.length ≤ 32 → ts.length < L → ∃ yk', yk'.length = 32 ∧ sk_R yk' s' ∧ s'.length ≤ 32 ∧ ss_lp (mm_Ru_run_b6 N (some r) (nI q) (some 109) (some 110)) L (nI s.length, nI i, (pk_C n g rc ti tb vt ri cd sx rl wi wv gi gs gw nd ns nw il ai yv yr yi ys yw yt yh yf yo yk fr fg pl pc pg)) = some (nI s'.length, (pk_C n g rc ti tb vt ri cd sx rl wi wv gi gs gw nd ns nw il ai yv yr yi ys yw yt yh yf yo yk' fr fg pl pc pg)) := by
  have c0 : ∀ yk, ss_gr (pk_C n g rc ti tb vt ri cd sx rl wi wv gi gs gw nd ns nw il ai yv yr yi ys yw yt yh yf yo yk fr fg pl pc pg) (some r) 1 0 = some (some (r + 1)) := fun yk => pk_ru0 hr h0
  have c1 : ∀ yk i, i < code.length → ss_ai (pk_C n g rc ti tb vt ri cd sx rl wi wv gi gs gw nd ns nw il ai yv yr yi ys yw yt yh yf yo yk fr fg pl pc pg) (some (r + 1)) 20 (nI i) = some (pv code i) := fun yk i hi => pk_oa (by unfold pk_fr; omega) h1 hi (by omega)
  intro ts
  induction ts with
  | nil =>
    intro i s s' yk L hyk hi _ hev hR hs hL
    obtain ⟨L, rfl⟩ : ∃ L', L = L' + 1 := ⟨L - 1, by simp at hL; omega⟩
    simp [ev_run] at hev
    subst hev
    refine ⟨yk, hyk, hR, hs, ?_⟩
    have hiq : i = q := by simpa using hi
    subst hiq
    refine pb_stop ?_
    unfold mm_Ru_run_b6
    simp (disch := ((try simp only [List.length_set]); omega)) only [pb_its, pb_l2, nI_add, pb_mul, if_true, if_false, pb_bs, pb_b2n, pb_bz0, pb_bz1, pb_10, pb_01, pb_i31, List.length_set, pk_is0, pk_r0_0, pk_r0_1, pk_r0_2, pk_r0_3, pk_r0_4, pk_r0_5, pk_r0_6, pk_r0_7, pk_r0_8, pk_r0_9, pk_i0, pk_q0, pk_is1, pk_r1_0, pk_i1, pk_q1, pk_a2, pk_u2, pk_is3, pk_r3_0, pk_r3_1, pk_r3_2, pk_p3_2, pk_is20, pk_r20_0, pk_r20_1, pk_r20_2, pk_i20, pk_q20, pk_a21, pk_u21, pk_a22, pk_u22, pk_is24, pk_r24_0, pk_p24_0, pk_r24_1, pk_r24_2, pk_r24_3, pk_r24_4, pk_i24, pk_q24, pk_is33, pk_r33_0, pk_r33_1, pk_i33, pk_q33, pk_a34, pk_u34, pk_a35, pk_u35, pk_a36, pk_u36, pk_a37, pk_u37, pk_a38, pk_u38, pk_is40, pk_r40_0, pk_i40, pk_q40, pk_is102, pk_r102_0, pk_r102_1, pk_r102_2, pk_r102_3, pk_r102_4, pk_r102_5, pk_r102_6, pk_p102_6, pk_r102_7, pk_p102_7, pk_is103, pk_r103_0, pk_r103_1, pk_i103, pk_q103, pk_a104, pk_u104, pk_a105, pk_u105, pk_a106, pk_u106, pk_a107, pk_u107, pk_a108, pk_u108, pk_a109, pk_u109, pk_a110, pk_u110, pk_is111, pk_r111_0, pk_r111_1, pk_r111_2, pk_r111_3, pk_r111_4, pk_a112, pk_u112, pk_a113, pk_u113, pk_is114, pk_r114_0, pk_r114_1, pk_r114_2, pk_r114_3, pk_r114_4, pk_a115, pk_u115, pk_a116, pk_u116, pk_a117, pk_u117, nI_le (Nat.le_refl i) (by omega : i < 2 ^ 31)]
  | cons x ts ih =>
    intro i s s' yk L hyk hi hat hev hR hs hL
    obtain ⟨L, rfl⟩ : ∃ L', L = L' + 1 := ⟨L - 1, by simp at hL; omega⟩
    have hi2 : i + 1 + ts.length = q := by simp at hi; omega
    have hL2 : ts.length < L := by simp at hL; omega
    obtain ⟨hx, hok, hat2⟩ := tc_at_cons hat
    obtain ⟨k, v⟩ := x
    have hok1 : k < 15 := hok.1
    have hok2 : v < 100000 := hok.2.1
    have hok3 : k = 1 → v < 12 := hok.2.2
    have h3 : ¬ nI q ≤ nI i := nI_ge (by omega) (by omega)
    by_cases c0' : k = 0
    · subst c0'
      rw [ev_cons] at hev
      simp only [if_true] at hev
      obtain ⟨hs2, hev⟩ := ss_chk hev
      obtain ⟨yk', g1, g2, g3, g4⟩ := ih (i + 1) (lN v :: s) s' (yk.set s.length (lN v)) L (by simpa using hyk) hi2 hat2 hev (sk_push hR (by omega) _) (by simp; omega) hL2
      refine ⟨yk', g1, g2, g3, pb_step ?_ g4⟩
      have hx2 : pv code i = nI v := hx.trans (tk_C_0 v)
      have e1 : nI 0 ≤ nI v := nI_le (by omega) (by omega)
      have e2 : ¬ nI 32 ≤ nI s.length := nI_ge (by omega) (by omega)
      have e3 := pq_e3 hok2
      have e4 : ¬ nI v < nI 0 := nI_nlt (by omega) (by omega)
      unfold mm_Ru_run_b6 mm_Ru_run_j33 mm_Ru_run_j74 mm_Ru_run_j78 mm_Ru_run_j145
      simp (disch := ((try simp only [List.length_set]); omega)) only [pb_its, pb_l2, nI_add, pb_mul, if_true, if_false, pb_bs, pb_b2n, pb_bz0, pb_bz1, pb_10, pb_01, pb_i31, List.length_set, pk_is0, pk_r0_0, pk_r0_1, pk_r0_2, pk_r0_3, pk_r0_4, pk_r0_5, pk_r0_6, pk_r0_7, pk_r0_8, pk_r0_9, pk_i0, pk_q0, pk_is1, pk_r1_0, pk_i1, pk_q1, pk_a2, pk_u2, pk_is3, pk_r3_0, pk_r3_1, pk_r3_2, pk_p3_2, pk_is20, pk_r20_0, pk_r20_1, pk_r20_2, pk_i20, pk_q20, pk_a21, pk_u21, pk_a22, pk_u22, pk_is24, pk_r24_0, pk_p24_0, pk_r24_1, pk_r24_2, pk_r24_3, pk_r24_4, pk_i24, pk_q24, pk_is33, pk_r33_0, pk_r33_1, pk_i33, pk_q33, pk_a34, pk_u34, pk_a35, pk_u35, pk_a36, pk_u36, pk_a37, pk_u37, pk_a38, pk_u38, pk_is40, pk_r40_0, pk_i40, pk_q40, pk_is102, pk_r102_0, pk_r102_1, pk_r102_2, pk_r102_3, pk_r102_4, pk_r102_5, pk_r102_6, pk_p102_6, pk_r102_7, pk_p102_7, pk_is103, pk_r103_0, pk_r103_1, pk_i103, pk_q103, pk_a104, pk_u104, pk_a105, pk_u105, pk_a106, pk_u106, pk_a107, pk_u107, pk_a108, pk_u108, pk_a109, pk_u109, pk_a110, pk_u110, pk_is111, pk_r111_0, pk_r111_1, pk_r111_2, pk_r111_3, pk_r111_4, pk_a112, pk_u112, pk_a113, pk_u113, pk_is114, pk_r114_0, pk_r114_1, pk_r114_2, pk_r114_3, pk_r114_4, pk_a115, pk_u115, pk_a116, pk_u116, pk_a117, pk_u117, h3, c0, c1, hx2, e1, pk_len23, pk_len23b, hyk, hyo, e2, e3, e4, nI_l (show v < 2 ^ 31 by omega), List.length_cons]
    · by_cases c1' : k = 1
      · subst c1'
        have hv2 : v < 12 := hok3 rfl
        rw [ev_cons] at hev
        simp only [if_true, if_false, Nat.one_ne_zero] at hev
        obtain ⟨hs2, hev⟩ := ss_chk hev
        obtain ⟨yk', g1, g2, g3, g4⟩ := ih (i + 1) (w v :: s) s' (yk.set s.length (w v)) L (by simpa using hyk) hi2 hat2 hev (sk_push hR (by omega) _) (by simp; omega) hL2
        refine ⟨yk', g1, g2, g3, pb_step ?_ g4⟩
        have hx2 : pv code i = -nI (14 + v) := hx.trans (tk_C_1 v)
        obtain ⟨⟨q1, q2⟩, q3, q4⟩ := pq_word v hv2
        have e2 : ¬ nI 32 ≤ nI s.length := nI_ge (by omega) (by omega)
        have e3 : ¬ nI 12 ≤ nI v := nI_ge (by omega) (by omega)
        unfold mm_Ru_run_b6 mm_Ru_run_j33 mm_Ru_run_j74 mm_Ru_run_j78 mm_Ru_run_j145
        simp (disch := ((try simp only [List.length_set]); omega)) only [pb_its, pb_l2, nI_add, pb_mul, if_true, if_false, pb_bs, pb_b2n, pb_bz0, pb_bz1, pb_10, pb_01, pb_i31, List.length_set, pk_is0, pk_r0_0, pk_r0_1, pk_r0_2, pk_r0_3, pk_r0_4, pk_r0_5, pk_r0_6, pk_r0_7, pk_r0_8, pk_r0_9, pk_i0, pk_q0, pk_is1, pk_r1_0, pk_i1, pk_q1, pk_a2, pk_u2, pk_is3, pk_r3_0, pk_r3_1, pk_r3_2, pk_p3_2, pk_is20, pk_r20_0, pk_r20_1, pk_r20_2, pk_i20, pk_q20, pk_a21, pk_u21, pk_a22, pk_u22, pk_is24, pk_r24_0, pk_p24_0, pk_r24_1, pk_r24_2, pk_r24_3, pk_r24_4, pk_i24, pk_q24, pk_is33, pk_r33_0, pk_r33_1, pk_i33, pk_q33, pk_a34, pk_u34, pk_a35, pk_u35, pk_a36, pk_u36, pk_a37, pk_u37, pk_a38, pk_u38, pk_is40, pk_r40_0, pk_i40, pk_q40, pk_is102, pk_r102_0, pk_r102_1, pk_r102_2, pk_r102_3, pk_r102_4, pk_r102_5, pk_r102_6, pk_p102_6, pk_r102_7, pk_p102_7, pk_is103, pk_r103_0, pk_r103_1, pk_i103, pk_q103, pk_a104, pk_u104, pk_a105, pk_u105, pk_a106, pk_u106, pk_a107, pk_u107, pk_a108, pk_u108, pk_a109, pk_u109, pk_a110, pk_u110, pk_is111, pk_r111_0, pk_r111_1, pk_r111_2, pk_r111_3, pk_r111_4, pk_a112, pk_u112, pk_a113, pk_u113, pk_is114, pk_r114_0, pk_r114_1, pk_r114_2, pk_r114_3, pk_r114_4, pk_a115, pk_u115, pk_a116, pk_u116, pk_a117, pk_u117, h3, c0, c1, hx2, q1, q2, q3, q4, pk_len23, pk_len23b, hyk, hyo, e2, e3, hw v hv2, List.length_cons]
      · obtain ⟨q1, q2, q3⟩ := pq_opc k hok1 (by omega)
        have hx2 : pv code i = -nI (ec_op k) := by
          rw [hx]
          unfold tk_C
          rw [if_neg c0', if_neg c1']
        by_cases c2 : k = 11
        · rw [ev_cons] at hev
          simp only [c0', c1', c2, if_false, if_true] at hev
          rw [eq_true c2] at q3
          cases s with
          | nil => simp at hev
          | cons y s =>
            simp at hev
            obtain ⟨yk', g1, g2, g3, g4⟩ := ih (i + 1) ((1 - y) :: s) s' (yk.set s.length (1 - y)) L (by simpa using hyk) hi2 hat2 hev (sk_push (sk_pop hR) (by simp at hs; omega) _) (by simpa using hs) hL2
            refine ⟨yk', g1, g2, g3, pb_step ?_ g4⟩
            have e1 : nI (s.length + 1) - nI 1 = nI s.length := nI_pred _
            have e2 : ¬ nI (s.length + 1) ≤ nI 0 := nI_ge (by omega) (by simp at hs; omega)
            have hs2 : s.length + 1 ≤ 32 := by simpa using hs
            unfold mm_Ru_run_b6 mm_Ru_run_j145
            simp (disch := ((try simp only [List.length_set]); omega)) only [pb_its, pb_l2, nI_add, pb_mul, if_true, if_false, pb_bs, pb_b2n, pb_bz0, pb_bz1, pb_10, pb_01, pb_i31, List.length_set, pk_is0, pk_r0_0, pk_r0_1, pk_r0_2, pk_r0_3, pk_r0_4, pk_r0_5, pk_r0_6, pk_r0_7, pk_r0_8, pk_r0_9, pk_i0, pk_q0, pk_is1, pk_r1_0, pk_i1, pk_q1, pk_a2, pk_u2, pk_is3, pk_r3_0, pk_r3_1, pk_r3_2, pk_p3_2, pk_is20, pk_r20_0, pk_r20_1, pk_r20_2, pk_i20, pk_q20, pk_a21, pk_u21, pk_a22, pk_u22, pk_is24, pk_r24_0, pk_p24_0, pk_r24_1, pk_r24_2, pk_r24_3, pk_r24_4, pk_i24, pk_q24, pk_is33, pk_r33_0, pk_r33_1, pk_i33, pk_q33, pk_a34, pk_u34, pk_a35, pk_u35, pk_a36, pk_u36, pk_a37, pk_u37, pk_a38, pk_u38, pk_is40, pk_r40_0, pk_i40, pk_q40, pk_is102, pk_r102_0, pk_r102_1, pk_r102_2, pk_r102_3, pk_r102_4, pk_r102_5, pk_r102_6, pk_p102_6, pk_r102_7, pk_p102_7, pk_is103, pk_r103_0, pk_r103_1, pk_i103, pk_q103, pk_a104, pk_u104, pk_a105, pk_u105, pk_a106, pk_u106, pk_a107, pk_u107, pk_a108, pk_u108, pk_a109, pk_u109, pk_a110, pk_u110, pk_is111, pk_r111_0, pk_r111_1, pk_r111_2, pk_r111_3, pk_r111_4, pk_a112, pk_u112, pk_a113, pk_u113, pk_is114, pk_r114_0, pk_r114_1, pk_r114_2, pk_r114_3, pk_r114_4, pk_a115, pk_u115, pk_a116, pk_u116, pk_a117, pk_u117, h3, c0, c1, hx2, q1, q2, q3, e1, e2, sk_top hR, List.length_cons]
        · rw [ev_cons] at hev
          simp only [c0', c1', c2, if_false] at hev
          rw [eq_false c2] at q3
          cases s with
          | nil => simp at hev
          | cons y s =>
            cases s with
            | nil => simp at hev
            | cons z s =>
              simp only at hev
              obtain ⟨yk', g1, g2, g3, g4⟩ := ih (i + 1) (ev_op k z y :: s) s' (yk.set s.length (ev_op k z y)) L (by simpa using hyk) hi2 hat2 hev (sk_push (sk_pop (sk_pop hR)) (by simp at hs; omega) _) (by simp at hs ⊢; omega) hL2
              refine ⟨yk', g1, g2, g3, pb_step ?_ g4⟩
              have hs2 : s.length + 1 + 1 ≤ 32 := by simpa using hs
              have e0 : nI (s.length + 1 + 1) + -nI 1 = nI (s.length + 1) := by
                rw [← nI_pred (s.length + 1), Int32.sub_eq_add_neg]; rfl
              have e1 : nI (s.length + 1) - nI 1 = nI s.length := nI_pred _
              have e2 : ¬ nI (s.length + 1 + 1) ≤ nI 1 := nI_ge (by omega) (by omega)
              have t1 : pvl yk (s.length + 1) = y := sk_top hR
              have t2 : pvl yk s.length = z := sk_top (sk_pop hR)
              unfold mm_Ru_run_b6 mm_Ru_run_j145
              simp (disch := ((try simp only [List.length_set]); omega)) only [pb_its, pb_l2, nI_add, pb_mul, if_true, if_false, pb_bs, pb_b2n, pb_bz0, pb_bz1, pb_10, pb_01, pb_i31, List.length_set, pk_is0, pk_r0_0, pk_r0_1, pk_r0_2, pk_r0_3, pk_r0_4, pk_r0_5, pk_r0_6, pk_r0_7, pk_r0_8, pk_r0_9, pk_i0, pk_q0, pk_is1, pk_r1_0, pk_i1, pk_q1, pk_a2, pk_u2, pk_is3, pk_r3_0, pk_r3_1, pk_r3_2, pk_p3_2, pk_is20, pk_r20_0, pk_r20_1, pk_r20_2, pk_i20, pk_q20, pk_a21, pk_u21, pk_a22, pk_u22, pk_is24, pk_r24_0, pk_p24_0, pk_r24_1, pk_r24_2, pk_r24_3, pk_r24_4, pk_i24, pk_q24, pk_is33, pk_r33_0, pk_r33_1, pk_i33, pk_q33, pk_a34, pk_u34, pk_a35, pk_u35, pk_a36, pk_u36, pk_a37, pk_u37, pk_a38, pk_u38, pk_is40, pk_r40_0, pk_i40, pk_q40, pk_is102, pk_r102_0, pk_r102_1, pk_r102_2, pk_r102_3, pk_r102_4, pk_r102_5, pk_r102_6, pk_p102_6, pk_r102_7, pk_p102_7, pk_is103, pk_r103_0, pk_r103_1, pk_i103, pk_q103, pk_a104, pk_u104, pk_a105, pk_u105, pk_a106, pk_u106, pk_a107, pk_u107, pk_a108, pk_u108, pk_a109, pk_u109, pk_a110, pk_u110, pk_is111, pk_r111_0, pk_r111_1, pk_r111_2, pk_r111_3, pk_r111_4, pk_a112, pk_u112, pk_a113, pk_u113, pk_is114, pk_r114_0, pk_r114_1, pk_r114_2, pk_r114_3, pk_r114_4, pk_a115, pk_u115, pk_a116, pk_u116, pk_a117, pk_u117, h3, c0, c1, hx2, q1, q2, q3, e0, e1, e2, t1, t2, pq_join (show 1 < k ∧ k < 15 ∧ k ≠ 11 by omega), List.length_cons]
end QR
