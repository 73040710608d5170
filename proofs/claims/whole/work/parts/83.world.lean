/-! ===== grounds and worlds made and copied ===== -/
theorem pb_na {h : ss_Hp} {m n : Nat} (h1 : n ≤ m) (h2 : n < 2 ^ 31) : ss_na h 20 m (nI n) = some (some h.1, ss_hn h (20, List.replicate n (nI 0), [], [])) := by
  unfold ss_na
  rw [if_pos ⟨nI_pos h2, by rw [nI_clamp h2]; exact h1⟩, nI_clamp h2]
  rfl
def m8 : List Int32 := List.replicate 8 (-nI 1)
theorem m8_pv {i : Nat} (h : i < 8) : pv m8 i = -nI 1 := by
  unfold m8 pv
  rw [List.getD_eq_getElem?_getD, List.getElem?_replicate, if_pos h]
  rfl
def z10 : List Int32 := List.replicate 10 (nI 0)
theorem ga_init {N : Nat} {h : ss_Hp} {p : Nat} (hp : h.2 p = (0, [nI 0, nI 0, nI 0, nI 0], [], [none, none])) (hpl : p < h.1) (hN : 8 < N) : ∃ h', mm_G_init N (some p) h = some h' ∧ h'.1 = h.1 + 2 ∧ h'.2 p = (0, [nI 0, nI 0, nI 0, nI 0], [], [some h.1, some (h.1 + 1)]) ∧ h'.2 h.1 = (20, z8, [], []) ∧ h'.2 (h.1 + 1) = (20, m8, [], []) ∧ ∀ y, y ≠ p → y ≠ h.1 → y ≠ h.1 + 1 → h'.2 y = h.2 y := by
  have is : ss_is h (some p) 0 = true := pb_is hp
  obtain ⟨h1, E1, A1, B1⟩ : ∃ h1, ss_na h 20 8 (nI 8) = some (some h.1, h1) ∧ h1.1 = h.1 + 1 ∧ ∀ y, h1.2 y = if y = h.1 then (20, z8, [], []) else h.2 y := ⟨_, pb_na (by omega) (by omega), rfl, fun _ => rfl⟩
  have p_1 : h1.2 p = (0, [nI 0, nI 0, nI 0, nI 0], [], [none, none]) := by rw [B1, if_neg (by omega)]; exact hp
  obtain ⟨h2, E2, A2, B2⟩ : ∃ h2, ss_pr h1 (some p) 0 0 (some h.1) = some h2 ∧ h2.1 = h1.1 ∧ ∀ y, h2.2 y = if y = p then (0, [nI 0, nI 0, nI 0, nI 0], [], [some h.1, none]) else h1.2 y := ⟨_, pb_pr p_1 (by simp) _, rfl, fun _ => rfl⟩
  obtain ⟨h3, E3, A3, B3⟩ : ∃ h3, ss_na h2 20 8 (nI 8) = some (some (h.1 + 1), h3) ∧ h3.1 = h.1 + 2 ∧ ∀ y, h3.2 y = if y = h.1 + 1 then (20, z8, [], []) else h2.2 y := by
    have e : h2.1 = h.1 + 1 := by rw [A2, A1]
    refine ⟨_, by rw [← e]; exact pb_na (by omega) (by omega), by show h2.1 + 1 = _; omega, fun y => ?_⟩
    rw [← e]
    rfl
  have p_3 : h3.2 p = (0, [nI 0, nI 0, nI 0, nI 0], [], [some h.1, none]) := by rw [B3, if_neg (by omega), B2, if_pos rfl]
  obtain ⟨h4, E4, A4, B4⟩ : ∃ h4, ss_pr h3 (some p) 0 1 (some (h.1 + 1)) = some h4 ∧ h4.1 = h3.1 ∧ ∀ y, h4.2 y = if y = p then (0, [nI 0, nI 0, nI 0, nI 0], [], [some h.1, some (h.1 + 1)]) else h3.2 y := ⟨_, pb_pr p_3 (by simp) _, rfl, fun _ => rfl⟩
  have key := pb_for (body := mm_G_init_b22 N (some p)) 8 (fun i s => ∃ h' l, s = (nI i, h') ∧ h'.1 = h4.1 ∧ h'.2 (h.1 + 1) = (20, l, [], []) ∧ l.length = 8 ∧ (∀ j, j < i → pv l j = -nI 1) ∧ ∀ y, y ≠ h.1 + 1 → h'.2 y = h4.2 y) (fun h' => h'.1 = h4.1 ∧ h'.2 (h.1 + 1) = (20, m8, [], []) ∧ ∀ y, y ≠ h.1 + 1 → h'.2 y = h4.2 y) (N := N) (s := (nI 0, h4)) hN ⟨h4, z8, rfl, rfl, by rw [B4, if_neg (by omega), B3, if_pos rfl], rfl, fun j hj => by omega, fun _ _ => rfl⟩ (by
    rintro i s hi ⟨h', l, rfl, a, b, c, d, e⟩
    left
    have hlt : ¬ nI 8 ≤ nI i := nI_ge hi (by omega)
    have gr : ss_gr h' (some p) 0 1 = some (some (h.1 + 1)) := pb_gr (by rw [e p (by omega), B4, if_pos rfl]) 1
    have ui := pb_ui (v := -nI 1) b (show i < 2 ^ 31 by omega) (show i < l.length by omega)
    refine ⟨_, ?_, ss_hs h' (h.1 + 1) (20, l.set i (-nI 1), [], []), l.set i (-nI 1), rfl, a, if_pos rfl, by rw [List.length_set]; exact c, fun j hj => ?_, fun y hy => ?_⟩
    · unfold mm_G_init_b22
      simp (disch := omega) only [pb_its, pb_l2, pb_ll, nI_add, pb_mul, if_true, if_false, pb_bs, pb_b2n, pb_bz0, pb_bz1, pb_10, pb_01, pb_i31, hlt, gr, ui]
    · rw [pv_set (by omega)]
      by_cases q : j = i
      · rw [if_pos q]
      · rw [if_neg q]
        exact d j (by omega)
    · show (if y = h.1 + 1 then _ else h'.2 y) = _
      rw [if_neg hy]
      exact e y hy) (by
    rintro s ⟨h', l, rfl, a, b, c, d, e⟩
    have el : l = m8 := pv_ext (by rw [c]; rfl) (fun i hi => by rw [d i (by omega), m8_pv (by omega)])
    refine ⟨h', ?_, a, by rw [b, el], e⟩
    unfold mm_G_init_b22
    simp (disch := omega) only [pb_its, pb_l2, pb_ll, nI_add, pb_mul, if_true, if_false, pb_bs, pb_b2n, pb_bz0, pb_bz1, pb_10, pb_01, pb_i31, nI_le (Nat.le_refl 8) (by omega : 8 < 2 ^ 31)])
  obtain ⟨h5, l5, a5, b5, c5⟩ := key
  refine ⟨h5, ?_, by rw [a5, A4, A3], ?_, ?_, b5, fun y y1 y2 y3 => ?_⟩
  · unfold mm_G_init
    simp (disch := omega) only [pb_its, pb_l2, pb_ll, nI_add, pb_mul, if_true, if_false, pb_bs, pb_b2n, pb_bz0, pb_bz1, pb_10, pb_01, pb_i31, is, E1, E2, E3, E4, l5]
  · rw [c5 p (by omega), B4, if_pos rfl]
  · rw [c5 h.1 (by omega), B4, if_neg (by omega), B3, if_neg (by omega), B2, if_neg (by omega), B1, if_pos rfl]
  · rw [c5 y y3, B4, if_neg y1, B3, if_neg y3, B2, if_neg y1, B1, if_neg y2]
theorem wo_init {N : Nat} {h : ss_Hp} {w : Nat} {r : Option Nat} (hw : h.2 w = (8, [nI 0, nI 0, nI 0], [], [none, none, none, none, none])) (h1 : h.1 = w + 1) (hN : 8 < N) : ∃ h', mm_Wo_init N (some w) r h = some h' ∧ h'.1 = w + 7 ∧ h'.2 w = (8, [-nI 1, nI 0, nI 0], [], [r, some (w + 1), some (w + 4), some (w + 5), some (w + 6)]) ∧ h'.2 (w + 1) = (0, [nI 0, nI 0, nI 0, nI 0], [], [some (w + 2), some (w + 3)]) ∧ h'.2 (w + 2) = (20, z8, [], []) ∧ h'.2 (w + 3) = (20, m8, [], []) ∧ h'.2 (w + 4) = (20, z10, [], []) ∧ h'.2 (w + 5) = (20, z10, [], []) ∧ h'.2 (w + 6) = (20, z10, [], []) ∧ ∀ y, y < w ∨ w + 7 ≤ y → h'.2 y = h.2 y := by
  have is : ss_is h (some w) 8 = true := pb_is hw
  obtain ⟨k1, E1, A1, B1⟩ : ∃ k1, ss_no h 0 4 0 2 = some (some (w + 1), k1) ∧ k1.1 = w + 2 ∧ ∀ y, k1.2 y = if y = w + 1 then (0, [nI 0, nI 0, nI 0, nI 0], [], [none, none]) else h.2 y := by
    refine ⟨ss_hn h (0, [nI 0, nI 0, nI 0, nI 0], [], [none, none]), ?_, by show h.1 + 1 = _; omega, fun y => ?_⟩
    · rw [← h1]
      rfl
    · rw [← h1]
      rfl
  obtain ⟨k2, E2, A2, C2, D2, F2, B2⟩ := ga_init (N := N) (h := k1) (p := w + 1) (by rw [B1, if_pos rfl]) (by omega) hN
  rw [A1] at C2 D2 F2 B2
  have w_2 : k2.2 w = (8, [nI 0, nI 0, nI 0], [], [none, none, none, none, none]) := by rw [B2 w (by omega) (by omega) (by omega), B1, if_neg (by omega)]; exact hw
  obtain ⟨k3, E3, A3, B3⟩ : ∃ k3, ss_pr k2 (some w) 8 1 (some (w + 1)) = some k3 ∧ k3.1 = k2.1 ∧ ∀ y, k3.2 y = if y = w then (8, [nI 0, nI 0, nI 0], [], [none, some (w + 1), none, none, none]) else k2.2 y := ⟨_, pb_pr w_2 (by simp) _, rfl, fun _ => rfl⟩
  obtain ⟨k4, E4, A4, B4⟩ : ∃ k4, ss_pi k3 (some w) 8 0 (-nI 1) = some k4 ∧ k4.1 = k3.1 ∧ ∀ y, k4.2 y = if y = w then (8, [-nI 1, nI 0, nI 0], [], [none, some (w + 1), none, none, none]) else k3.2 y := ⟨_, pb_pi (h := k3) (a := w) (c := 8) (by rw [B3, if_pos rfl]) (by simp) _, rfl, fun _ => rfl⟩
  have n4 : k4.1 = w + 4 := by omega
  obtain ⟨k5, E5, A5, B5⟩ : ∃ k5, ss_na k4 20 10 (nI 10) = some (some (w + 4), k5) ∧ k5.1 = w + 5 ∧ ∀ y, k5.2 y = if y = w + 4 then (20, z10, [], []) else k4.2 y := by
    refine ⟨_, by rw [← n4]; exact pb_na (by omega) (by omega), by show k4.1 + 1 = _; omega, fun y => ?_⟩
    rw [← n4]
    rfl
  obtain ⟨k6, E6, A6, B6⟩ : ∃ k6, ss_pr k5 (some w) 8 2 (some (w + 4)) = some k6 ∧ k6.1 = k5.1 ∧ ∀ y, k6.2 y = if y = w then (8, [-nI 1, nI 0, nI 0], [], [none, some (w + 1), some (w + 4), none, none]) else k5.2 y := ⟨_, pb_pr (h := k5) (a := w) (c := 8) (by rw [B5, if_neg (by omega), B4, if_pos rfl]) (by simp) _, rfl, fun _ => rfl⟩
  have n6 : k6.1 = w + 5 := by omega
  obtain ⟨k7, E7, A7, B7⟩ : ∃ k7, ss_na k6 20 10 (nI 10) = some (some (w + 5), k7) ∧ k7.1 = w + 6 ∧ ∀ y, k7.2 y = if y = w + 5 then (20, z10, [], []) else k6.2 y := by
    refine ⟨_, by rw [← n6]; exact pb_na (by omega) (by omega), by show k6.1 + 1 = _; omega, fun y => ?_⟩
    rw [← n6]
    rfl
  obtain ⟨k8, E8, A8, B8⟩ : ∃ k8, ss_pr k7 (some w) 8 3 (some (w + 5)) = some k8 ∧ k8.1 = k7.1 ∧ ∀ y, k8.2 y = if y = w then (8, [-nI 1, nI 0, nI 0], [], [none, some (w + 1), some (w + 4), some (w + 5), none]) else k7.2 y := ⟨_, pb_pr (h := k7) (a := w) (c := 8) (by rw [B7, if_neg (by omega), B6, if_pos rfl]) (by simp) _, rfl, fun _ => rfl⟩
  have n8 : k8.1 = w + 6 := by omega
  obtain ⟨k9, E9, A9, B9⟩ : ∃ k9, ss_na k8 20 10 (nI 10) = some (some (w + 6), k9) ∧ k9.1 = w + 7 ∧ ∀ y, k9.2 y = if y = w + 6 then (20, z10, [], []) else k8.2 y := by
    refine ⟨_, by rw [← n8]; exact pb_na (by omega) (by omega), by show k8.1 + 1 = _; omega, fun y => ?_⟩
    rw [← n8]
    rfl
  obtain ⟨kA, EA, AA, BA⟩ : ∃ kA, ss_pr k9 (some w) 8 4 (some (w + 6)) = some kA ∧ kA.1 = k9.1 ∧ ∀ y, kA.2 y = if y = w then (8, [-nI 1, nI 0, nI 0], [], [none, some (w + 1), some (w + 4), some (w + 5), some (w + 6)]) else k9.2 y := ⟨_, pb_pr (h := k9) (a := w) (c := 8) (by rw [B9, if_neg (by omega), B8, if_pos rfl]) (by simp) _, rfl, fun _ => rfl⟩
  obtain ⟨kB, EB, AB, BB⟩ : ∃ kB, ss_pr kA (some w) 8 0 r = some kB ∧ kB.1 = kA.1 ∧ ∀ y, kB.2 y = if y = w then (8, [-nI 1, nI 0, nI 0], [], [r, some (w + 1), some (w + 4), some (w + 5), some (w + 6)]) else kA.2 y := ⟨_, pb_pr (h := kA) (a := w) (c := 8) (by rw [BA, if_pos rfl]) (by simp) _, rfl, fun _ => rfl⟩
  have up : ∀ y, y ≠ w → kB.2 y = k9.2 y := fun y hy => by rw [BB, if_neg hy, BA, if_neg hy]
  have up2 : ∀ y, y ≠ w → y ≠ w + 4 → y ≠ w + 5 → y ≠ w + 6 → kB.2 y = k2.2 y := fun y a b c d => by rw [up y a, B9, if_neg d, B8, if_neg a, B7, if_neg c, B6, if_neg a, B5, if_neg b, B4, if_neg a, B3, if_neg a]
  refine ⟨kB, ?_, by omega, by rw [BB, if_pos rfl], ?_, ?_, ?_, ?_, ?_, ?_, fun y hy => ?_⟩
  · unfold mm_Wo_init
    simp (disch := omega) only [pb_its, pb_l2, pb_ll, nI_add, pb_mul, if_true, if_false, pb_bs, pb_b2n, pb_bz0, pb_bz1, pb_10, pb_01, pb_i31, is, E1, E2, E3, E4, E5, E6, E7, E8, E9, EA, EB]
  · rw [up2 _ (by omega) (by omega) (by omega) (by omega)]
    exact C2
  · rw [up2 _ (by omega) (by omega) (by omega) (by omega)]
    exact D2
  · rw [up2 _ (by omega) (by omega) (by omega) (by omega)]
    exact F2
  · rw [up _ (by omega), B9, if_neg (by omega), B8, if_neg (by omega), B7, if_neg (by omega), B6, if_neg (by omega), B5, if_pos rfl]
  · rw [up _ (by omega), B9, if_neg (by omega), B8, if_neg (by omega), B7, if_pos rfl]
  · rw [up _ (by omega), B9, if_pos rfl]
  · rw [up2 _ (by omega) (by omega) (by omega) (by omega), B2 _ (by omega) (by omega) (by omega), B1, if_neg (by omega)]
theorem wo_copyI {N : Nat} {h : ss_Hp} {w : Nat} {i0 i1 i2 j0 j1 j2 j3 : Int32} {vp vq : Option Nat} {I J S W D E F S' W' D' E' F' : List Int32} (hw : 134 ≤ w) (hp : h.2 (w) = (8, I, [], [vp, some (w + 1), some (w + 4), some (w + 5), some (w + 6)])) (hp1 : h.2 (w + 1) = (0, J, [], [some (w + 2), some (w + 3)])) (hp2 : h.2 (w + 2) = (20, S', [], [])) (hp3 : h.2 (w + 3) = (20, W', [], [])) (hp4 : h.2 (w + 4) = (20, D', [], [])) (hp5 : h.2 (w + 5) = (20, E', [], [])) (hp6 : h.2 (w + 6) = (20, F', [], [])) (hq : h.2 (16) = (8, [i0, i1, i2], [], [vq, some (25), some (28), some (29), some (30)])) (hq1 : h.2 (25) = (0, [j0, j1, j2, j3], [], [some (26), some (27)])) (hq2 : h.2 (26) = (20, S, [], [])) (hq3 : h.2 (27) = (20, W, [], [])) (hq4 : h.2 (28) = (20, D, [], [])) (hq5 : h.2 (29) = (20, E, [], [])) (hq6 : h.2 (30) = (20, F, [], [])) (lI : I.length = 3) (lJ : J.length = 4) (lS : S.length = 8) (lW : W.length = 8) (lS' : S'.length = 8) (lW' : W'.length = 8) (lD : D.length = 10) (lE : E.length = 10) (lF : F.length = 10) (lD' : D'.length = 10) (lE' : E'.length = 10) (lF' : F'.length = 10) : ∃ h', mm_Wo_copyFrom N (some (w)) (some (16)) h = some h' ∧ h'.1 = h.1 ∧ h'.2 (w) = (8, [i0, i1, i2], [], [vq, some (w + 1), some (w + 4), some (w + 5), some (w + 6)]) ∧ h'.2 (w + 1) = (0, [j0, j1, j2, j3], [], [some (w + 2), some (w + 3)]) ∧ h'.2 (w + 2) = (20, S, [], []) ∧ h'.2 (w + 3) = (20, W, [], []) ∧ h'.2 (w + 4) = (20, D, [], []) ∧ h'.2 (w + 5) = (20, E, [], []) ∧ h'.2 (w + 6) = (20, F, [], []) ∧ ∀ y, y ≠ w → y ≠ w + 1 → y ≠ w + 2 → y ≠ w + 3 → y ≠ w + 4 → y ≠ w + 5 → y ≠ w + 6 → h'.2 y = h.2 y := by
  obtain ⟨k0, k1, k2, rfl⟩ : ∃ k0 k1 k2, I = [k0, k1, k2] := by
    match I, lI with
    | [k0, k1, k2], _ => exact ⟨k0, k1, k2, rfl⟩
  have is : ss_is h (some (w)) 8 = true := pb_is hp
  have g0 : ss_gr h (some (16)) 8 0 = some vq := pb_gr hq 0
  obtain ⟨h1, E1, A1, B1⟩ : ∃ h1, ss_pr h (some (w)) 8 0 vq = some h1 ∧ h1.1 = h.1 ∧ ∀ y, h1.2 y = if y = w then (8, [k0, k1, k2], [], [vq, some (w + 1), some (w + 4), some (w + 5), some (w + 6)]) else h.2 y := ⟨_, pb_pr hp (by simp) vq, rfl, fun _ => rfl⟩
  have R1 : ∀ y, y ≠ w → h1.2 y = h.2 y := fun y hy => by rw [B1, if_neg hy]
  have p_1 : h1.2 (w) = (8, [k0, k1, k2], [], [vq, some (w + 1), some (w + 4), some (w + 5), some (w + 6)]) := by rw [B1, if_pos rfl]
  have g1 : ss_gr h1 (some (w)) 8 1 = some (some (w + 1)) := pb_gr p_1 1
  have q_1 := (R1 (16) (by omega)).trans hq
  have g2 : ss_gr h1 (some (16)) 8 1 = some (some (25)) := pb_gr q_1 1
  have c0 := pb_copy (N := N) ((R1 (w + 1) (by omega)).trans hp1) ((R1 (w + 2) (by omega)).trans hp2) ((R1 (w + 3) (by omega)).trans hp3) ((R1 (25) (by omega)).trans hq1) ((R1 (26) (by omega)).trans hq2) ((R1 (27) (by omega)).trans hq3) lJ lS lW lS' lW' (by omega) (by omega) (by omega)
  obtain ⟨h2, E2, A2, B2⟩ : ∃ h2, mm_G_copyFrom N (some (w + 1)) (some (25)) h1 = some h2 ∧ h2.1 = h1.1 ∧ ∀ y, h2.2 y = if y = w + 1 then (0, [j0, j1, j2, j3], [], [some (w + 2), some (w + 3)]) else if y = w + 3 then (20, W, [], []) else if y = w + 2 then (20, S, [], []) else h1.2 y := ⟨_, c0, rfl, fun _ => rfl⟩
  have R2 : ∀ y, y ≠ w + 1 → y ≠ w + 2 → y ≠ w + 3 → h2.2 y = h1.2 y := fun y a b c => by rw [B2, if_neg a, if_neg c, if_neg b]
  have p_2 := (R2 (w) (by omega) (by omega) (by omega)).trans p_1
  have q_2 := (R2 (16) (by omega) (by omega) (by omega)).trans q_1
  have g3 : ss_gi h2 (some (16)) 8 0 = some i0 := pb_gi q_2 0
  obtain ⟨h3, E3, A3, B3⟩ : ∃ h3, ss_pi h2 (some (w)) 8 0 i0 = some h3 ∧ h3.1 = h2.1 ∧ ∀ y, h3.2 y = if y = w then (8, [i0, k1, k2], [], [vq, some (w + 1), some (w + 4), some (w + 5), some (w + 6)]) else h2.2 y := ⟨_, pb_pi p_2 (by simp) i0, rfl, fun _ => rfl⟩
  have R3 : ∀ y, y ≠ w → h3.2 y = h2.2 y := fun y hy => by rw [B3, if_neg hy]
  have p_3 : h3.2 (w) = (8, [i0, k1, k2], [], [vq, some (w + 1), some (w + 4), some (w + 5), some (w + 6)]) := by rw [B3, if_pos rfl]
  have q_3 := (R3 (16) (by omega)).trans q_2
  have g4 : ss_gi h3 (some (16)) 8 1 = some i1 := pb_gi q_3 1
  obtain ⟨h4, E4, A4, B4⟩ : ∃ h4, ss_pi h3 (some (w)) 8 1 i1 = some h4 ∧ h4.1 = h3.1 ∧ ∀ y, h4.2 y = if y = w then (8, [i0, i1, k2], [], [vq, some (w + 1), some (w + 4), some (w + 5), some (w + 6)]) else h3.2 y := ⟨_, pb_pi p_3 (by simp) i1, rfl, fun _ => rfl⟩
  have R4 : ∀ y, y ≠ w → h4.2 y = h3.2 y := fun y hy => by rw [B4, if_neg hy]
  have p_4 : h4.2 (w) = (8, [i0, i1, k2], [], [vq, some (w + 1), some (w + 4), some (w + 5), some (w + 6)]) := by rw [B4, if_pos rfl]
  have q_4 := (R4 (16) (by omega)).trans q_3
  have g5 : ss_gi h4 (some (16)) 8 2 = some i2 := pb_gi q_4 2
  obtain ⟨h5, E5, A5, B5⟩ : ∃ h5, ss_pi h4 (some (w)) 8 2 i2 = some h5 ∧ h5.1 = h4.1 ∧ ∀ y, h5.2 y = if y = w then (8, [i0, i1, i2], [], [vq, some (w + 1), some (w + 4), some (w + 5), some (w + 6)]) else h4.2 y := ⟨_, pb_pi p_4 (by simp) i2, rfl, fun _ => rfl⟩
  have R5 : ∀ y, y ≠ w → h5.2 y = h4.2 y := fun y hy => by rw [B5, if_neg hy]
  have p_5 : h5.2 (w) = (8, [i0, i1, i2], [], [vq, some (w + 1), some (w + 4), some (w + 5), some (w + 6)]) := by rw [B5, if_pos rfl]
  have q_5 := (R5 (16) (by omega)).trans q_4
  have RR : ∀ y, y ≠ w → y ≠ w + 1 → y ≠ w + 2 → y ≠ w + 3 → h5.2 y = h.2 y := fun y a b c d => by rw [R5 y a, R4 y a, R3 y a, R2 y b c d, R1 y a]
  have g6 : ss_gr h5 (some (16)) 8 2 = some (some (28)) := pb_gr q_5 2
  have g7 : ss_gr h5 (some (w)) 8 2 = some (some (w + 4)) := pb_gr p_5 2
  obtain ⟨h6, E6, A6, B6⟩ : ∃ h6, ss_cp h5 (some (28)) (nI 0) (some (w + 4)) (nI 0) (nI 10) = some h6 ∧ h6.1 = h5.1 ∧ ∀ y, h6.2 y = if y = w + 4 then (20, D, [], []) else h5.2 y := ⟨_, pb_cp ((RR (28) (by omega) (by omega) (by omega) (by omega)).trans hq4) ((RR (w + 4) (by omega) (by omega) (by omega) (by omega)).trans hp4) lD lD' (by omega), rfl, fun _ => rfl⟩
  have R6 : ∀ y, y ≠ w + 4 → h6.2 y = h5.2 y := fun y hy => by rw [B6, if_neg hy]
  have p_6 := (R6 (w) (by omega)).trans p_5
  have q_6 := (R6 (16) (by omega)).trans q_5
  have g8 : ss_gr h6 (some (16)) 8 3 = some (some (29)) := pb_gr q_6 3
  have g9 : ss_gr h6 (some (w)) 8 3 = some (some (w + 5)) := pb_gr p_6 3
  obtain ⟨h7, E7, A7, B7⟩ : ∃ h7, ss_cp h6 (some (29)) (nI 0) (some (w + 5)) (nI 0) (nI 10) = some h7 ∧ h7.1 = h6.1 ∧ ∀ y, h7.2 y = if y = w + 5 then (20, E, [], []) else h6.2 y := ⟨_, pb_cp ((R6 (29) (by omega)).trans ((RR (29) (by omega) (by omega) (by omega) (by omega)).trans hq5)) ((R6 (w + 5) (by omega)).trans ((RR (w + 5) (by omega) (by omega) (by omega) (by omega)).trans hp5)) lE lE' (by omega), rfl, fun _ => rfl⟩
  have R7 : ∀ y, y ≠ w + 5 → h7.2 y = h6.2 y := fun y hy => by rw [B7, if_neg hy]
  have p_7 := (R7 (w) (by omega)).trans p_6
  have q_7 := (R7 (16) (by omega)).trans q_6
  have ga : ss_gr h7 (some (16)) 8 4 = some (some (30)) := pb_gr q_7 4
  have gb : ss_gr h7 (some (w)) 8 4 = some (some (w + 6)) := pb_gr p_7 4
  obtain ⟨h8, E8, A8, B8⟩ : ∃ h8, ss_cp h7 (some (30)) (nI 0) (some (w + 6)) (nI 0) (nI 10) = some h8 ∧ h8.1 = h7.1 ∧ ∀ y, h8.2 y = if y = w + 6 then (20, F, [], []) else h7.2 y := ⟨_, pb_cp ((R7 (30) (by omega)).trans ((R6 (30) (by omega)).trans ((RR (30) (by omega) (by omega) (by omega) (by omega)).trans hq6))) ((R7 (w + 6) (by omega)).trans ((R6 (w + 6) (by omega)).trans ((RR (w + 6) (by omega) (by omega) (by omega) (by omega)).trans hp6))) lF lF' (by omega), rfl, fun _ => rfl⟩
  have R8 : ∀ y, y ≠ w + 6 → h8.2 y = h7.2 y := fun y hy => by rw [B8, if_neg hy]
  have R5' : ∀ y, y ≠ w → h5.2 y = h2.2 y := fun y hy => by rw [R5 y hy, R4 y hy, R3 y hy]
  refine ⟨h8, ?_, by rw [A8, A7, A6, A5, A4, A3, A2, A1], (R8 (w) (by omega)).trans p_7, ?_, ?_, ?_, ?_, ?_, by rw [B8, if_pos rfl], fun y a b c d e f i => ?_⟩
  · unfold mm_Wo_copyFrom
    simp (disch := omega) only [pb_its, pb_l2, pb_ll, nI_add, pb_mul, if_true, if_false, pb_bs, pb_b2n, pb_bz0, pb_bz1, pb_10, pb_01, pb_i31, is, g0, E1, g1, g2, E2, g3, E3, g4, E4, g5, E5, g6, g7, E6, g8, g9, E7, ga, gb, E8]
  · rw [R8 _ (by omega), R7 _ (by omega), R6 _ (by omega), R5' _ (by omega), B2, if_pos rfl]
  · rw [R8 _ (by omega), R7 _ (by omega), R6 _ (by omega), R5' _ (by omega), B2, if_neg (by omega), if_neg (by omega), if_pos rfl]
  · rw [R8 _ (by omega), R7 _ (by omega), R6 _ (by omega), R5' _ (by omega), B2, if_neg (by omega), if_pos rfl]
  · rw [R8 _ (by omega), R7 _ (by omega), B6, if_pos rfl]
  · rw [R8 _ (by omega), B7, if_pos rfl]
  · rw [R8 y i, R7 y f, R6 y e, RR y a b c d]
theorem wo_copyB {N : Nat} {h : ss_Hp} {w : Nat} {i0 i1 i2 j0 j1 j2 j3 : Int32} {vp vq : Option Nat} {I J S W D E F S' W' D' E' F' : List Int32} (hw : 134 ≤ w) (hp : h.2 (16) = (8, I, [], [vp, some (25), some (28), some (29), some (30)])) (hp1 : h.2 (25) = (0, J, [], [some (26), some (27)])) (hp2 : h.2 (26) = (20, S', [], [])) (hp3 : h.2 (27) = (20, W', [], [])) (hp4 : h.2 (28) = (20, D', [], [])) (hp5 : h.2 (29) = (20, E', [], [])) (hp6 : h.2 (30) = (20, F', [], [])) (hq : h.2 (w) = (8, [i0, i1, i2], [], [vq, some (w + 1), some (w + 4), some (w + 5), some (w + 6)])) (hq1 : h.2 (w + 1) = (0, [j0, j1, j2, j3], [], [some (w + 2), some (w + 3)])) (hq2 : h.2 (w + 2) = (20, S, [], [])) (hq3 : h.2 (w + 3) = (20, W, [], [])) (hq4 : h.2 (w + 4) = (20, D, [], [])) (hq5 : h.2 (w + 5) = (20, E, [], [])) (hq6 : h.2 (w + 6) = (20, F, [], [])) (lI : I.length = 3) (lJ : J.length = 4) (lS : S.length = 8) (lW : W.length = 8) (lS' : S'.length = 8) (lW' : W'.length = 8) (lD : D.length = 10) (lE : E.length = 10) (lF : F.length = 10) (lD' : D'.length = 10) (lE' : E'.length = 10) (lF' : F'.length = 10) : ∃ h', mm_Wo_copyFrom N (some (16)) (some (w)) h = some h' ∧ h'.1 = h.1 ∧ h'.2 (16) = (8, [i0, i1, i2], [], [vq, some (25), some (28), some (29), some (30)]) ∧ h'.2 (25) = (0, [j0, j1, j2, j3], [], [some (26), some (27)]) ∧ h'.2 (26) = (20, S, [], []) ∧ h'.2 (27) = (20, W, [], []) ∧ h'.2 (28) = (20, D, [], []) ∧ h'.2 (29) = (20, E, [], []) ∧ h'.2 (30) = (20, F, [], []) ∧ ∀ y, y ≠ 16 → y ≠ 25 → y ≠ 26 → y ≠ 27 → y ≠ 28 → y ≠ 29 → y ≠ 30 → h'.2 y = h.2 y := by
  obtain ⟨k0, k1, k2, rfl⟩ : ∃ k0 k1 k2, I = [k0, k1, k2] := by
    match I, lI with
    | [k0, k1, k2], _ => exact ⟨k0, k1, k2, rfl⟩
  have is : ss_is h (some (16)) 8 = true := pb_is hp
  have g0 : ss_gr h (some (w)) 8 0 = some vq := pb_gr hq 0
  obtain ⟨h1, E1, A1, B1⟩ : ∃ h1, ss_pr h (some (16)) 8 0 vq = some h1 ∧ h1.1 = h.1 ∧ ∀ y, h1.2 y = if y = 16 then (8, [k0, k1, k2], [], [vq, some (25), some (28), some (29), some (30)]) else h.2 y := ⟨_, pb_pr hp (by simp) vq, rfl, fun _ => rfl⟩
  have R1 : ∀ y, y ≠ 16 → h1.2 y = h.2 y := fun y hy => by rw [B1, if_neg hy]
  have p_1 : h1.2 (16) = (8, [k0, k1, k2], [], [vq, some (25), some (28), some (29), some (30)]) := by rw [B1, if_pos rfl]
  have g1 : ss_gr h1 (some (16)) 8 1 = some (some (25)) := pb_gr p_1 1
  have q_1 := (R1 (w) (by omega)).trans hq
  have g2 : ss_gr h1 (some (w)) 8 1 = some (some (w + 1)) := pb_gr q_1 1
  have c0 := pb_copy (N := N) ((R1 (25) (by omega)).trans hp1) ((R1 (26) (by omega)).trans hp2) ((R1 (27) (by omega)).trans hp3) ((R1 (w + 1) (by omega)).trans hq1) ((R1 (w + 2) (by omega)).trans hq2) ((R1 (w + 3) (by omega)).trans hq3) lJ lS lW lS' lW' (by omega) (by omega) (by omega)
  obtain ⟨h2, E2, A2, B2⟩ : ∃ h2, mm_G_copyFrom N (some (25)) (some (w + 1)) h1 = some h2 ∧ h2.1 = h1.1 ∧ ∀ y, h2.2 y = if y = 25 then (0, [j0, j1, j2, j3], [], [some (26), some (27)]) else if y = 27 then (20, W, [], []) else if y = 26 then (20, S, [], []) else h1.2 y := ⟨_, c0, rfl, fun _ => rfl⟩
  have R2 : ∀ y, y ≠ 25 → y ≠ 26 → y ≠ 27 → h2.2 y = h1.2 y := fun y a b c => by rw [B2, if_neg a, if_neg c, if_neg b]
  have p_2 := (R2 (16) (by omega) (by omega) (by omega)).trans p_1
  have q_2 := (R2 (w) (by omega) (by omega) (by omega)).trans q_1
  have g3 : ss_gi h2 (some (w)) 8 0 = some i0 := pb_gi q_2 0
  obtain ⟨h3, E3, A3, B3⟩ : ∃ h3, ss_pi h2 (some (16)) 8 0 i0 = some h3 ∧ h3.1 = h2.1 ∧ ∀ y, h3.2 y = if y = 16 then (8, [i0, k1, k2], [], [vq, some (25), some (28), some (29), some (30)]) else h2.2 y := ⟨_, pb_pi p_2 (by simp) i0, rfl, fun _ => rfl⟩
  have R3 : ∀ y, y ≠ 16 → h3.2 y = h2.2 y := fun y hy => by rw [B3, if_neg hy]
  have p_3 : h3.2 (16) = (8, [i0, k1, k2], [], [vq, some (25), some (28), some (29), some (30)]) := by rw [B3, if_pos rfl]
  have q_3 := (R3 (w) (by omega)).trans q_2
  have g4 : ss_gi h3 (some (w)) 8 1 = some i1 := pb_gi q_3 1
  obtain ⟨h4, E4, A4, B4⟩ : ∃ h4, ss_pi h3 (some (16)) 8 1 i1 = some h4 ∧ h4.1 = h3.1 ∧ ∀ y, h4.2 y = if y = 16 then (8, [i0, i1, k2], [], [vq, some (25), some (28), some (29), some (30)]) else h3.2 y := ⟨_, pb_pi p_3 (by simp) i1, rfl, fun _ => rfl⟩
  have R4 : ∀ y, y ≠ 16 → h4.2 y = h3.2 y := fun y hy => by rw [B4, if_neg hy]
  have p_4 : h4.2 (16) = (8, [i0, i1, k2], [], [vq, some (25), some (28), some (29), some (30)]) := by rw [B4, if_pos rfl]
  have q_4 := (R4 (w) (by omega)).trans q_3
  have g5 : ss_gi h4 (some (w)) 8 2 = some i2 := pb_gi q_4 2
  obtain ⟨h5, E5, A5, B5⟩ : ∃ h5, ss_pi h4 (some (16)) 8 2 i2 = some h5 ∧ h5.1 = h4.1 ∧ ∀ y, h5.2 y = if y = 16 then (8, [i0, i1, i2], [], [vq, some (25), some (28), some (29), some (30)]) else h4.2 y := ⟨_, pb_pi p_4 (by simp) i2, rfl, fun _ => rfl⟩
  have R5 : ∀ y, y ≠ 16 → h5.2 y = h4.2 y := fun y hy => by rw [B5, if_neg hy]
  have p_5 : h5.2 (16) = (8, [i0, i1, i2], [], [vq, some (25), some (28), some (29), some (30)]) := by rw [B5, if_pos rfl]
  have q_5 := (R5 (w) (by omega)).trans q_4
  have RR : ∀ y, y ≠ 16 → y ≠ 25 → y ≠ 26 → y ≠ 27 → h5.2 y = h.2 y := fun y a b c d => by rw [R5 y a, R4 y a, R3 y a, R2 y b c d, R1 y a]
  have g6 : ss_gr h5 (some (w)) 8 2 = some (some (w + 4)) := pb_gr q_5 2
  have g7 : ss_gr h5 (some (16)) 8 2 = some (some (28)) := pb_gr p_5 2
  obtain ⟨h6, E6, A6, B6⟩ : ∃ h6, ss_cp h5 (some (w + 4)) (nI 0) (some (28)) (nI 0) (nI 10) = some h6 ∧ h6.1 = h5.1 ∧ ∀ y, h6.2 y = if y = 28 then (20, D, [], []) else h5.2 y := ⟨_, pb_cp ((RR (w + 4) (by omega) (by omega) (by omega) (by omega)).trans hq4) ((RR (28) (by omega) (by omega) (by omega) (by omega)).trans hp4) lD lD' (by omega), rfl, fun _ => rfl⟩
  have R6 : ∀ y, y ≠ 28 → h6.2 y = h5.2 y := fun y hy => by rw [B6, if_neg hy]
  have p_6 := (R6 (16) (by omega)).trans p_5
  have q_6 := (R6 (w) (by omega)).trans q_5
  have g8 : ss_gr h6 (some (w)) 8 3 = some (some (w + 5)) := pb_gr q_6 3
  have g9 : ss_gr h6 (some (16)) 8 3 = some (some (29)) := pb_gr p_6 3
  obtain ⟨h7, E7, A7, B7⟩ : ∃ h7, ss_cp h6 (some (w + 5)) (nI 0) (some (29)) (nI 0) (nI 10) = some h7 ∧ h7.1 = h6.1 ∧ ∀ y, h7.2 y = if y = 29 then (20, E, [], []) else h6.2 y := ⟨_, pb_cp ((R6 (w + 5) (by omega)).trans ((RR (w + 5) (by omega) (by omega) (by omega) (by omega)).trans hq5)) ((R6 (29) (by omega)).trans ((RR (29) (by omega) (by omega) (by omega) (by omega)).trans hp5)) lE lE' (by omega), rfl, fun _ => rfl⟩
  have R7 : ∀ y, y ≠ 29 → h7.2 y = h6.2 y := fun y hy => by rw [B7, if_neg hy]
  have p_7 := (R7 (16) (by omega)).trans p_6
  have q_7 := (R7 (w) (by omega)).trans q_6
  have ga : ss_gr h7 (some (w)) 8 4 = some (some (w + 6)) := pb_gr q_7 4
  have gb : ss_gr h7 (some (16)) 8 4 = some (some (30)) := pb_gr p_7 4
  obtain ⟨h8, E8, A8, B8⟩ : ∃ h8, ss_cp h7 (some (w + 6)) (nI 0) (some (30)) (nI 0) (nI 10) = some h8 ∧ h8.1 = h7.1 ∧ ∀ y, h8.2 y = if y = 30 then (20, F, [], []) else h7.2 y := ⟨_, pb_cp ((R7 (w + 6) (by omega)).trans ((R6 (w + 6) (by omega)).trans ((RR (w + 6) (by omega) (by omega) (by omega) (by omega)).trans hq6))) ((R7 (30) (by omega)).trans ((R6 (30) (by omega)).trans ((RR (30) (by omega) (by omega) (by omega) (by omega)).trans hp6))) lF lF' (by omega), rfl, fun _ => rfl⟩
  have R8 : ∀ y, y ≠ 30 → h8.2 y = h7.2 y := fun y hy => by rw [B8, if_neg hy]
  have R5' : ∀ y, y ≠ 16 → h5.2 y = h2.2 y := fun y hy => by rw [R5 y hy, R4 y hy, R3 y hy]
  refine ⟨h8, ?_, by rw [A8, A7, A6, A5, A4, A3, A2, A1], (R8 (16) (by omega)).trans p_7, ?_, ?_, ?_, ?_, ?_, by rw [B8, if_pos rfl], fun y a b c d e f i => ?_⟩
  · unfold mm_Wo_copyFrom
    simp (disch := omega) only [pb_its, pb_l2, pb_ll, nI_add, pb_mul, if_true, if_false, pb_bs, pb_b2n, pb_bz0, pb_bz1, pb_10, pb_01, pb_i31, is, g0, E1, g1, g2, E2, g3, E3, g4, E4, g5, E5, g6, g7, E6, g8, g9, E7, ga, gb, E8]
  · rw [R8 _ (by omega), R7 _ (by omega), R6 _ (by omega), R5' _ (by omega), B2, if_pos rfl]
  · rw [R8 _ (by omega), R7 _ (by omega), R6 _ (by omega), R5' _ (by omega), B2, if_neg (by omega), if_neg (by omega), if_pos rfl]
  · rw [R8 _ (by omega), R7 _ (by omega), R6 _ (by omega), R5' _ (by omega), B2, if_neg (by omega), if_pos rfl]
  · rw [R8 _ (by omega), R7 _ (by omega), B6, if_pos rfl]
  · rw [R8 _ (by omega), B7, if_pos rfl]
  · rw [R8 y i, R7 y f, R6 y e, RR y a b c d]
/-! what is made lies apart -/
def tg (g : Nat → ss_Cl) (w : Nat) : Prop := (∀ i, i < 7 → (g (w + i)).1 = 99) ∨ ((g w).1 = 8 ∧ ∀ i, 1 ≤ i → i < 7 → (g (w + i)).1 = 0 ∨ (g (w + i)).1 = 20)
theorem qv_tags {g : Nat → ss_Cl} {v : Nat} {a : List Int32} (h : qv_R g v a) : (g v).1 = 5 ∧ ∀ j, 1 ≤ j → j < 8 → (g (v + j)).1 = 20 ∨ (g (v + j)).1 = 0 := by
  obtain ⟨⟨hv, tl, nds, g0, g1, g3, g4, gn⟩, h1, h2, h3, h4, w, h5, h6, h7⟩ := h
  refine ⟨by rw [g0], fun j h1 h8 => ?_⟩
  have : j = 1 ∨ j = 2 ∨ j = 3 ∨ j = 4 ∨ j = 5 ∨ j = 6 ∨ j = 7 := by omega
  rcases this with e | e | e | e | e | e | e <;> subst e
  · exact Or.inl (by rw [g1])
  · exact Or.inl (by rw [h2])
  · exact Or.inl (by rw [g3])
  · exact Or.inl (by rw [g4])
  · exact Or.inr (by rw [h3])
  · exact Or.inl (by rw [h4])
  · exact Or.inl (by rw [h6])
theorem tg_v {g : Nat → ss_Cl} {v w : Nat} {a : List Int32} (ht : tg g w) (h : qv_R g v a) : v + 7 < w ∨ w + 6 < v := by
  obtain ⟨t0, t1⟩ := qv_tags h
  rcases Nat.lt_or_ge (v + 7) w with c | c
  · exact Or.inl c
  rcases Nat.lt_or_ge (w + 6) v with c2 | c2
  · exact Or.inr c2
  exfalso
  rcases ht with t | ⟨t, t'⟩
  · rcases Nat.lt_or_ge v w with q | q
    · have h1 := t 0 (by omega)
      have h2 := t1 (w - v) (by omega) (by omega)
      rw [show v + (w - v) = w + 0 by omega, h1] at h2
      omega
    · have h1 := t (v - w) (by omega)
      rw [show w + (v - w) = v by omega, t0] at h1
      omega
  · rcases Nat.lt_or_ge v w with q | q
    · have h2 := t1 (w - v) (by omega) (by omega)
      rw [show v + (w - v) = w by omega, t] at h2
      omega
    · rcases Nat.lt_or_ge w v with q2 | q2
      · have h1 := t' (v - w) (by omega) (by omega)
        rw [show w + (v - w) = v by omega, t0] at h1
        omega
      · have : v = w := by omega
        rw [this, t] at t0
        omega
theorem tg_r {g : Nat → ss_Cl} {p w : Nat} {R : List ru_C} (ht : tg g w) (h : rc_R g p R) : p + 2 < w ∨ w + 6 < p := by
  obtain ⟨h0, h1, code, starts, r0, r1, r2, -⟩ := h
  have t0 : (g p).1 = 1 := by rw [r0]
  have t1 : ∀ j, 1 ≤ j → j < 3 → (g (p + j)).1 = 20 := fun j a b => by
    have : j = 1 ∨ j = 2 := by omega
    rcases this with e | e <;> subst e
    · rw [r1]
    · rw [r2]
  rcases Nat.lt_or_ge (p + 2) w with c | c
  · exact Or.inl c
  rcases Nat.lt_or_ge (w + 6) p with c2 | c2
  · exact Or.inr c2
  exfalso
  rcases ht with t | ⟨t, t'⟩
  · rcases Nat.lt_or_ge p w with q | q
    · have h1 := t 0 (by omega)
      have h2 := t1 (w - p) (by omega) (by omega)
      rw [show p + (w - p) = w + 0 by omega, h1] at h2
      omega
    · have h1 := t (p - w) (by omega)
      rw [show w + (p - w) = p by omega, t0] at h1
      omega
  · rcases Nat.lt_or_ge p w with q | q
    · have h2 := t1 (w - p) (by omega) (by omega)
      rw [show p + (w - p) = w by omega, t] at h2
      omega
    · rcases Nat.lt_or_ge w p with q2 | q2
      · have h1 := t' (p - w) (by omega) (by omega)
        rw [show w + (p - w) = p by omega, t0] at h1
        omega
      · have : p = w := by omega
        rw [this, t] at t0
        omega
theorem qw_tags {g : Nat → ss_Cl} {u : Nat} {s : List Int32} {f y : Int32} (h : qw_R g u s f y) : (g u).1 = 8 ∧ ∀ i, 1 ≤ i → i < 7 → (g (u + i)).1 = 0 ∨ (g (u + i)).1 = 20 := by
  obtain ⟨h0, ⟨v, h1, h2⟩, ⟨W, w1, ⟨w2, w3, w4⟩, w5⟩, nd, ns, nw, n1, n2, n3, n4⟩ := h
  refine ⟨by rw [h1], fun j a b => ?_⟩
  have : j = 1 ∨ j = 2 ∨ j = 3 ∨ j = 4 ∨ j = 5 ∨ j = 6 := by omega
  rcases this with e | e | e | e | e | e <;> subst e
  · exact Or.inl (by rw [w2])
  · exact Or.inr (by show (g (u + 1 + 1)).1 = 20; rw [w3])
  · exact Or.inr (by show (g (u + 1 + 2)).1 = 20; rw [w4])
  · exact Or.inr (by rw [n1])
  · exact Or.inr (by rw [n2])
  · exact Or.inr (by rw [n3])
theorem tg_w {g : Nat → ss_Cl} {u w : Nat} {s : List Int32} {f y : Int32} (ht : tg g w) (h : qw_R g u s f y) (hn : u ≠ w) : u + 6 < w ∨ w + 6 < u := by
  obtain ⟨t0, t1⟩ := qw_tags h
  rcases Nat.lt_or_ge (u + 6) w with c | c
  · exact Or.inl c
  rcases Nat.lt_or_ge (w + 6) u with c2 | c2
  · exact Or.inr c2
  exfalso
  rcases ht with t | ⟨t, t'⟩
  · rcases Nat.lt_or_ge u w with q | q
    · have h1 := t 0 (by omega)
      have h2 := t1 (w - u) (by omega) (by omega)
      rw [show u + (w - u) = w + 0 by omega, h1] at h2
      omega
    · have h1 := t (u - w) (by omega)
      rw [show w + (u - w) = u by omega, t0] at h1
      omega
  · rcases Nat.lt_or_ge u w with q | q
    · have h2 := t1 (w - u) (by omega) (by omega)
      rw [show u + (w - u) = w by omega, t] at h2
      omega
    · have h1 := t' (u - w) (by omega) (by omega)
      rw [show w + (u - w) = u by omega, t0] at h1
      omega
theorem qv_R_x {g g' : Nat → ss_Cl} {v : Nat} {a : List Int32} (e : ∀ j, j < 8 → g' (v + j) = g (v + j)) (h : qv_R g v a) : qv_R g' v a := by
  obtain ⟨⟨hv, tl, nds, g0, g1, g3, g4, gn⟩, h1, h2, h3, h4, w, h5, h6, h7⟩ := h
  have e0 : g' v = g v := e 0 (by omega)
  exact ⟨⟨hv, tl, nds, by rw [e0, g0], by rw [e 1 (by omega), g1], by rw [e 3 (by omega), g3], by rw [e 4 (by omega), g4], gn⟩, by rw [e0]; exact h1, by rw [e 2 (by omega)]; exact h2, by rw [e 5 (by omega)]; exact h3, by rw [e 6 (by omega)]; exact h4, w, h5, by rw [e 7 (by omega)]; exact h6, h7⟩
theorem rc_R_x {g g' : Nat → ss_Cl} {r : Nat} {R : List ru_C} (e : ∀ j, j < 3 → g' (r + j) = g (r + j)) (h : rc_R g r R) : rc_R g' r R := by
  obtain ⟨h0, h1, code, starts, h2, h3, h4, h5⟩ := h
  have e0 : g' r = g r := e 0 (by omega)
  exact ⟨h0, h1, code, starts, by rw [e0]; exact h2, by rw [e 1 (by omega)]; exact h3, by rw [e 2 (by omega)]; exact h4, h5⟩
theorem qw_R_x {g g' : Nat → ss_Cl} {w : Nat} {s : List Int32} {f y : Int32} (e : ∀ j, j < 7 → g' (w + j) = g (w + j)) (ev : ∀ v, qv_R g v s → qv_R g' v s) (h : qw_R g w s f y) : qw_R g' w s f y := by
  obtain ⟨h0, ⟨v, h1, h2⟩, ⟨W, h3, h4, h5⟩, nd, ns, nw, h6, h7, h8, h9⟩ := h
  have e0 : g' w = g w := e 0 (by omega)
  exact ⟨h0, ⟨v, by rw [e0]; exact h1, ev v h2⟩, ⟨W, h3, qg_R_fr (fun j hj => by rw [show w + 1 + j = w + (1 + j) by omega]; exact e (1 + j) (by omega)) h4, h5⟩, nd, ns, nw, by rw [e 4 (by omega)]; exact h6, by rw [e 5 (by omega)]; exact h7, by rw [e 6 (by omega)]; exact h8, h9⟩
theorem qu_R_x {g g' : Nat → ss_Cl} {nx : Nat} {US : List (List Int32)} (e : ∀ p, 34 ≤ p → p < 94 → g' p = g p) (h : qu_R g nx US) : qu_R g' nx US := by
  refine ⟨h.1, fun i hi => ?_, fun j hj => qg_R_fr (fun i hi => e _ (by omega) (by have := Nat.mod_lt (nx + 19 - j) (show 0 < 20 by omega); omega)) (h.2.2 j hj)⟩
  obtain ⟨J, S, W, h1, h2, h3, h4⟩ := h.2.1 i hi
  exact ⟨J, S, W, h1, h2, h3, qg_R_fr (fun i hi => e _ (by omega) (by omega)) h4⟩
section RE
variable {n : Nat} {g : Nat → ss_Cl} {rc : Int32} {ti : List Int32} {tb : List Int32} {vt : Option Nat} {ri : List Int32} {cd : List Int32} {sx : List Int32} {rl : List (Option Nat)} {wi : List Int32} {wv : Option Nat} {gi : List Int32} {gs : List Int32} {gw : List Int32} {nd : List Int32} {ns : List Int32} {nw : List Int32} {il : List (Option Nat)} {ai : List Int32} {yv : Option Nat} {yr : Option Nat} {yi : List Int32} {ys : List Int32} {yw : List Int32} {yt : List Int32} {yh : List Int32} {yf : List Int32} {yo : List Int64} {yk : List Int64} {fr : List Int32} {fg : List Int32} {pl : List Int32} {pc : List Int32} {pg : List Int32} {N : Nat}
theorem pk_re {h' : ss_Hp} (e : ∀ p, ¬ pk_fr p → h'.2 p = (pk_C n g rc ti tb vt ri cd sx rl wi wv gi gs gw nd ns nw il ai yv yr yi ys yw yt yh yf yo yk fr fg pl pc pg).2 p) : h' = (pk_C h'.1 h'.2 rc ti tb vt ri cd sx rl wi wv gi gs gw nd ns nw il ai yv yr yi ys yw yt yh yf yo yk fr fg pl pc pg) := Prod.ext rfl (funext fun p => by
  by_cases q : pk_fr p
  · rw [pk_out q]
  · rw [e p q]
    exact pk_inn q)
end RE
