/-! ===== grounds and worlds made and copied ===== -/
theorem pb_na {h : ss_Hp} {m n : Nat} (h1 : n ≤ m) (h2 : n < 2 ^ 31) : ss_na h 20 m (nI n) = some (some h.1, ss_hn h (20, List.replicate n (nI 0), [], [])) := by
  unfold ss_na
  rw [if_pos ⟨nI_pos h2, by rw [nI_clamp h2]; exact h1⟩, nI_clamp h2]
  rfl
def m8 : List Int32 := List.replicate 8 (-nI 1)
theorem m8_pv {i : Nat} (h : i < 8) : pv m8 i = -nI 1 := by
  unfold m8 pv
  rw [List.getD_eq_getElem?_getD, List.getElem?_replicate, if_pos h]
  rfl
def z10 : List Int32 := List.replicate 10 (nI 0)
theorem ga_init {N : Nat} {h : ss_Hp} {p : Nat} (hp : h.2 p = (0, [nI 0, nI 0, nI 0, nI 0], [], [none, none])) (hpl : p < h.1) (hN : 8 < N) : ∃ h', mm_G_init N (some p) h = some h' ∧ h'.1 = h.1 + 2 ∧ h'.2 p = (0, [nI 0, nI 0, nI 0, nI 0], [], [some h.1, some (h.1 + 1)]) ∧ h'.2 h.1 = (20, z8, [], []) ∧ h'.2 (h.1 + 1) = (20, m8, [], []) ∧ ∀ y, y ≠ p → y ≠ h.1 → y ≠ h.1 + 1 → h'.2 y = h.2 y := by
  have is : ss_is h (some p) 0 = true := pb_is hp
  obtain ⟨h1, E1, A1, B1⟩ : ∃ h1, ss_na h 20 8 (nI 8) = some (some h.1, h1) ∧ h1.1 = h.1 + 1 ∧ ∀ y, h1.2 y = if y = h.1 then (20, z8, [], []) else h.2 y := ⟨_, pb_na (by omega) (by omega), rfl, fun _ => rfl⟩
  have p_1 : h1.2 p = (0, [nI 0, nI 0, nI 0, nI 0], [], [none, none]) := by rw [B1, if_neg (by omega)]; exact hp
  obtain ⟨h2, E2, A2, B2⟩ : ∃ h2, ss_pr h1 (some p) 0 0 (some h.1) = some h2 ∧ h2.1 = h1.1 ∧ ∀ y, h2.2 y = if y = p then (0, [nI 0, nI 0, nI 0, nI 0], [], [some h.1, none]) else h1.2 y := ⟨_, pb_pr p_1 (by simp) _, rfl, fun _ => rfl⟩
  obtain ⟨h3, E3, A3, B3⟩ : ∃ h3, ss_na h2 20 8 (nI 8) = some (some (h.1 + 1), h3) ∧ h3.1 = h.1 + 2 ∧ ∀ y, h3.2 y = if y = h.1 + 1 then (20, z8, [], []) else h2.2 y := by
    have e : h2.1 = h.1 + 1 := by rw [A2, A1]
    refine ⟨_, by rw [← e]; exact pb_na (by omega) (by omega), by show h2.1 + 1 = _; omega, fun y => ?_⟩
    rw [← e]
    rfl
  have p_3 : h3.2 p = (0, [nI 0, nI 0, nI 0, nI 0], [], [some h.1, none]) := by rw [B3, if_neg (by omega), B2, if_pos rfl]
  obtain ⟨h4, E4, A4, B4⟩ : ∃ h4, ss_pr h3 (some p) 0 1 (some (h.1 + 1)) = some h4 ∧ h4.1 = h3.1 ∧ ∀ y, h4.2 y = if y = p then (0, [nI 0, nI 0, nI 0, nI 0], [], [some h.1, some (h.1 + 1)]) else h3.2 y := ⟨_, pb_pr p_3 (by simp) _, rfl, fun _ => rfl⟩
  have key := pb_for (body := mm_G_init_b22 N (some p)) 8 (fun i s => ∃ h' l, s = (nI i, h') ∧ h'.1 = h4.1 ∧ h'.2 (h.1 + 1) = (20, l, [], []) ∧ l.length = 8 ∧ (∀ j, j < i → pv l j = -nI 1) ∧ ∀ y, y ≠ h.1 + 1 → h'.2 y = h4.2 y) (fun h' => h'.1 = h4.1 ∧ h'.2 (h.1 + 1) = (20, m8, [], []) ∧ ∀ y, y ≠ h.1 + 1 → h'.2 y = h4.2 y) (N := N) (s := (nI 0, h4)) hN ⟨h4, z8, rfl, rfl, by rw [B4, if_neg (by omega), B3, if_pos rfl], rfl, fun j hj => by omega, fun _ _ => rfl⟩ (by
    rintro i s hi ⟨h', l, rfl, a, b, c, d, e⟩
    left
    have hlt : ¬ nI 8 ≤ nI i := nI_ge hi (by omega)
    have gr : ss_gr h' (some p) 0 1 = some (some (h.1 + 1)) := pb_gr (by rw [e p (by omega), B4, if_pos rfl]) 1
    have ui := pb_ui (v := -nI 1) b (show i < 2 ^ 31 by omega) (show i < l.length by omega)
    refine ⟨_, ?_, ss_hs h' (h.1 + 1) (20, l.set i (-nI 1), [], []), l.set i (-nI 1), rfl, a, if_pos rfl, by rw [List.length_set]; exact c, fun j hj => ?_, fun y hy => ?_⟩
    · unfold mm_G_init_b22
      simp (disch := omega) only [pb_its, pb_l2, pb_ll, nI_add, pb_mul, if_true, if_false, pb_bs, pb_b2n, pb_bz0, pb_bz1, pb_10, pb_01, pb_i31, hlt, gr, ui]
    · rw [pv_set (by omega)]
      by_cases q : j = i
      · rw [if_pos q]
      · rw [if_neg q]
        exact d j (by omega)
    · show (if y = h.1 + 1 then _ else h'.2 y) = _
      rw [if_neg hy]
      exact e y hy) (by
    rintro s ⟨h', l, rfl, a, b, c, d, e⟩
    have el : l = m8 := pv_ext (by rw [c]; rfl) (fun i hi => by rw [d i (by omega), m8_pv (by omega)])
    refine ⟨h', ?_, a, by rw [b, el], e⟩
    unfold mm_G_init_b22
    simp (disch := omega) only [pb_its, pb_l2, pb_ll, nI_add, pb_mul, if_true, if_false, pb_bs, pb_b2n, pb_bz0, pb_bz1, pb_10, pb_01, pb_i31, nI_le (Nat.le_refl 8) (by omega : 8 < 2 ^ 31)])
  obtain ⟨h5, l5, a5, b5, c5⟩ := key
  refine ⟨h5, ?_, by rw [a5, A4, A3], ?_, ?_, b5, fun y y1 y2 y3 => ?_⟩
  · unfold mm_G_init
    simp (disch := omega) only [pb_its, pb_l2, pb_ll, nI_add, pb_mul, if_true, if_false, pb_bs, pb_b2n, pb_bz0, pb_bz1, pb_10, pb_01, pb_i31, is, E1, E2, E3, E4, l5]
  · rw [c5 p (by omega), B4, if_pos rfl]
  · rw [c5 h.1 (by omega), B4, if_neg (by omega), B3, if_neg (by omega), B2, if_neg (by omega), B1, if_pos rfl]
  · rw [c5 y y3, B4, if_neg y1, B3, if_neg y3, B2, if_neg y1, B1, if_neg y2]
theorem va_init {N : Nat} {h : ss_Hp} {v : Nat} (hv : h.2 v = (5, [nI 0, nI 0, nI 0, nI 0, nI 0], [], [none, none, none, none, none])) (h1 : h.1 = v + 1) (hN : 8 < N) : ∃ h', mm_V_init N (some v) h = some h' ∧ h'.1 = v + 8 ∧ h'.2 v = (5, [nI 0, nI 0, nI 0, nI 0, nI 0], [], [some (v + 1), some (v + 2), some (v + 3), some (v + 4), some (v + 5)]) ∧ h'.2 (v + 1) = (20, [nI 0, nI 0, nI 0, nI 0], [], []) ∧ h'.2 (v + 2) = (20, [nI 0, nI 0, nI 0, nI 0], [], []) ∧ h'.2 (v + 3) = (20, z8, [], []) ∧ h'.2 (v + 4) = (20, z8, [], []) ∧ h'.2 (v + 5) = (0, [nI 0, nI 0, nI 0, nI 0], [], [some (v + 6), some (v + 7)]) ∧ h'.2 (v + 6) = (20, z8, [], []) ∧ h'.2 (v + 7) = (20, m8, [], []) ∧ ∀ y, y < v ∨ v + 8 ≤ y → h'.2 y = h.2 y := by
  have is : ss_is h (some v) 5 = true := pb_is hv
  obtain ⟨k1, E1, A1, B1⟩ : ∃ k1, ss_na h 20 4 (nI 4) = some (some (v + 1), k1) ∧ k1.1 = v + 2 ∧ ∀ y, k1.2 y = if y = v + 1 then (20, [nI 0, nI 0, nI 0, nI 0], [], []) else h.2 y := by
    refine ⟨_, by rw [← h1]; exact pb_na (by omega) (by omega), by show h.1 + 1 = _; omega, fun y => ?_⟩
    rw [← h1]
    rfl
  obtain ⟨k2, E2, A2, B2⟩ : ∃ k2, ss_pr k1 (some v) 5 0 (some (v + 1)) = some k2 ∧ k2.1 = k1.1 ∧ ∀ y, k2.2 y = if y = v then (5, [nI 0, nI 0, nI 0, nI 0, nI 0], [], [some (v + 1), none, none, none, none]) else k1.2 y := ⟨_, pb_pr (h := k1) (a := v) (c := 5) (by rw [B1, if_neg (by omega)]; exact hv) (by simp) _, rfl, fun _ => rfl⟩
  have n2 : k2.1 = v + 2 := by omega
  obtain ⟨k3, E3, A3, B3⟩ : ∃ k3, ss_na k2 20 4 (nI 4) = some (some (v + 2), k3) ∧ k3.1 = v + 3 ∧ ∀ y, k3.2 y = if y = v + 2 then (20, [nI 0, nI 0, nI 0, nI 0], [], []) else k2.2 y := by
    refine ⟨_, by rw [← n2]; exact pb_na (by omega) (by omega), by show k2.1 + 1 = _; omega, fun y => ?_⟩
    rw [← n2]
    rfl
  obtain ⟨k4, E4, A4, B4⟩ : ∃ k4, ss_pr k3 (some v) 5 1 (some (v + 2)) = some k4 ∧ k4.1 = k3.1 ∧ ∀ y, k4.2 y = if y = v then (5, [nI 0, nI 0, nI 0, nI 0, nI 0], [], [some (v + 1), some (v + 2), none, none, none]) else k3.2 y := ⟨_, pb_pr (h := k3) (a := v) (c := 5) (by rw [B3, if_neg (by omega), B2, if_pos rfl]) (by simp) _, rfl, fun _ => rfl⟩
  have n4 : k4.1 = v + 3 := by omega
  obtain ⟨k5, E5, A5, B5⟩ : ∃ k5, ss_na k4 20 8 (nI 8) = some (some (v + 3), k5) ∧ k5.1 = v + 4 ∧ ∀ y, k5.2 y = if y = v + 3 then (20, z8, [], []) else k4.2 y := by
    refine ⟨_, by rw [← n4]; exact pb_na (by omega) (by omega), by show k4.1 + 1 = _; omega, fun y => ?_⟩
    rw [← n4]
    rfl
  obtain ⟨k6, E6, A6, B6⟩ : ∃ k6, ss_pr k5 (some v) 5 2 (some (v + 3)) = some k6 ∧ k6.1 = k5.1 ∧ ∀ y, k6.2 y = if y = v then (5, [nI 0, nI 0, nI 0, nI 0, nI 0], [], [some (v + 1), some (v + 2), some (v + 3), none, none]) else k5.2 y := ⟨_, pb_pr (h := k5) (a := v) (c := 5) (by rw [B5, if_neg (by omega), B4, if_pos rfl]) (by simp) _, rfl, fun _ => rfl⟩
  have n6 : k6.1 = v + 4 := by omega
  obtain ⟨k7, E7, A7, B7⟩ : ∃ k7, ss_na k6 20 8 (nI 8) = some (some (v + 4), k7) ∧ k7.1 = v + 5 ∧ ∀ y, k7.2 y = if y = v + 4 then (20, z8, [], []) else k6.2 y := by
    refine ⟨_, by rw [← n6]; exact pb_na (by omega) (by omega), by show k6.1 + 1 = _; omega, fun y => ?_⟩
    rw [← n6]
    rfl
  obtain ⟨k8, E8, A8, B8⟩ : ∃ k8, ss_pr k7 (some v) 5 3 (some (v + 4)) = some k8 ∧ k8.1 = k7.1 ∧ ∀ y, k8.2 y = if y = v then (5, [nI 0, nI 0, nI 0, nI 0, nI 0], [], [some (v + 1), some (v + 2), some (v + 3), some (v + 4), none]) else k7.2 y := ⟨_, pb_pr (h := k7) (a := v) (c := 5) (by rw [B7, if_neg (by omega), B6, if_pos rfl]) (by simp) _, rfl, fun _ => rfl⟩
  have n8 : k8.1 = v + 5 := by omega
  obtain ⟨k9, E9, A9, B9⟩ : ∃ k9, ss_no k8 0 4 0 2 = some (some (v + 5), k9) ∧ k9.1 = v + 6 ∧ ∀ y, k9.2 y = if y = v + 5 then (0, [nI 0, nI 0, nI 0, nI 0], [], [none, none]) else k8.2 y := by
    refine ⟨ss_hn k8 (0, [nI 0, nI 0, nI 0, nI 0], [], [none, none]), ?_, by show k8.1 + 1 = _; omega, fun y => ?_⟩
    · rw [← n8]
      rfl
    · rw [← n8]
      rfl
  obtain ⟨kA, EA, AA, CA, DA, FA, BA⟩ := ga_init (N := N) (h := k9) (p := v + 5) (by rw [B9, if_pos rfl]) (by omega) hN
  rw [A9] at CA DA FA BA
  have v_A : kA.2 v = (5, [nI 0, nI 0, nI 0, nI 0, nI 0], [], [some (v + 1), some (v + 2), some (v + 3), some (v + 4), none]) := by rw [BA v (by omega) (by omega) (by omega), B9, if_neg (by omega), B8, if_pos rfl]
  obtain ⟨kB, EB, AB, BB⟩ : ∃ kB, ss_pr kA (some v) 5 4 (some (v + 5)) = some kB ∧ kB.1 = kA.1 ∧ ∀ y, kB.2 y = if y = v then (5, [nI 0, nI 0, nI 0, nI 0, nI 0], [], [some (v + 1), some (v + 2), some (v + 3), some (v + 4), some (v + 5)]) else kA.2 y := ⟨_, pb_pr v_A (by simp) _, rfl, fun _ => rfl⟩
  have up : ∀ y, y ≠ v → y ≠ v + 5 → y ≠ v + 6 → y ≠ v + 7 → kB.2 y = k7.2 y := fun y a b c d => by rw [BB, if_neg a, BA y b c d, B9, if_neg b, B8, if_neg a]
  refine ⟨kB, ?_, by omega, by rw [BB, if_pos rfl], ?_, ?_, ?_, ?_, ?_, ?_, ?_, fun y hy => ?_⟩
  · unfold mm_V_init
    simp (disch := omega) only [pb_its, pb_l2, pb_ll, nI_add, pb_mul, if_true, if_false, pb_bs, pb_b2n, pb_bz0, pb_bz1, pb_10, pb_01, pb_i31, is, E1, E2, E3, E4, E5, E6, E7, E8, E9, EA, EB]
  · rw [up _ (by omega) (by omega) (by omega) (by omega), B7, if_neg (by omega), B6, if_neg (by omega), B5, if_neg (by omega), B4, if_neg (by omega), B3, if_neg (by omega), B2, if_neg (by omega), B1, if_pos rfl]
  · rw [up _ (by omega) (by omega) (by omega) (by omega), B7, if_neg (by omega), B6, if_neg (by omega), B5, if_neg (by omega), B4, if_neg (by omega), B3, if_pos rfl]
  · rw [up _ (by omega) (by omega) (by omega) (by omega), B7, if_neg (by omega), B6, if_neg (by omega), B5, if_pos rfl]
  · rw [up _ (by omega) (by omega) (by omega) (by omega), B7, if_pos rfl]
  · rw [BB, if_neg (by omega)]; exact CA
  · rw [BB, if_neg (by omega)]; exact DA
  · rw [BB, if_neg (by omega)]; exact FA
  · rw [up _ (by omega) (by omega) (by omega) (by omega), B7, if_neg (by omega), B6, if_neg (by omega), B5, if_neg (by omega), B4, if_neg (by omega), B3, if_neg (by omega), B2, if_neg (by omega), B1, if_neg (by omega)]
theorem va_copy {N : Nat} {h : ss_Hp} {p q : Nat} {J1 own1 str1 bes1 nds1 sn1 wa1 own str bes nds sn wa : List Int32} {j0 j1 j2 j3 j4 : Int32} (hp : bv_R h.2 p J1 own1 str1 bes1 nds1 sn1 wa1) (hq : bv_R h.2 q [j0, j1, j2, j3, j4] own str bes nds sn wa) (lp : bl_L J1 own1 str1 bes1 nds1 sn1 wa1) (lq : bl_L [j0, j1, j2, j3, j4] own str bes nds sn wa) (hz : j0 = nI 0 ∨ j0 = nI 1) (d : p + 8 ≤ q ∨ q + 8 ≤ p) : ∃ h', mm_V_copyFrom N (some p) (some q) h = some h' ∧ h'.1 = h.1 ∧ bv_R h'.2 p [j0, j1, j2, j3, j4] own str bes nds sn wa ∧ ∀ y, y < p ∨ p + 8 ≤ y → h'.2 y = h.2 y := by
  obtain ⟨p0, p1, p2, p3, p4, p5, p6, p7⟩ := hp
  obtain ⟨q0, q1, q2, q3, q4, q5, q6, q7⟩ := hq
  obtain ⟨lp0, lp1, lp2, lp3, lp4, lp5, lp6⟩ := lp
  obtain ⟨lq0, lq1, lq2, lq3, lq4, lq5, lq6⟩ := lq
  obtain ⟨i0, i1, i2, i3, i4, rfl⟩ : ∃ i0 i1 i2 i3 i4, J1 = [i0, i1, i2, i3, i4] := by
    match J1, lp0 with
    | [i0, i1, i2, i3, i4], _ => exact ⟨i0, i1, i2, i3, i4, rfl⟩
  have is : ss_is h (some p) 5 = true := pb_is p0
  have hz' : j0 = 0 ∨ j0 = 1 := hz
  have g0 : ss_gi h (some q) 5 0 = some j0 := pb_gi q0 0
  obtain ⟨h2, E0, A0, B0⟩ : ∃ h2, ss_pz h (some p) 5 0 j0 = some h2 ∧ h2.1 = h.1 ∧ ∀ y, h2.2 y = if y = p then (5, [j0, i1, i2, i3, i4], [], [some (p + 1), some (p + 2), some (p + 3), some (p + 4), some (p + 5)]) else h.2 y := ⟨_, (if_pos hz').trans (pb_pi p0 (by simp) j0), rfl, fun _ => rfl⟩
  have R0 : ∀ y, y ≠ p → h2.2 y = h.2 y := fun y hy => by rw [B0, if_neg hy]
  have pp1 : h2.2 p = (5, [j0, i1, i2, i3, i4], [], [some (p + 1), some (p + 2), some (p + 3), some (p + 4), some (p + 5)]) := by rw [B0, if_pos rfl]
  have qq1 := (R0 q (by omega)).trans q0
  have g1 : ss_gi h2 (some q) 5 1 = some j1 := pb_gi qq1 1
  obtain ⟨h4, E1, A1, B1⟩ : ∃ h4, ss_pi h2 (some p) 5 1 j1 = some h4 ∧ h4.1 = h2.1 ∧ ∀ y, h4.2 y = if y = p then (5, [j0, j1, i2, i3, i4], [], [some (p + 1), some (p + 2), some (p + 3), some (p + 4), some (p + 5)]) else h2.2 y := ⟨_, pb_pi pp1 (by simp) j1, rfl, fun _ => rfl⟩
  have R1 : ∀ y, y ≠ p → h4.2 y = h2.2 y := fun y hy => by rw [B1, if_neg hy]
  have pp2 : h4.2 p = (5, [j0, j1, i2, i3, i4], [], [some (p + 1), some (p + 2), some (p + 3), some (p + 4), some (p + 5)]) := by rw [B1, if_pos rfl]
  have qq2 := (R1 q (by omega)).trans qq1
  have g2 : ss_gi h4 (some q) 5 2 = some j2 := pb_gi qq2 2
  obtain ⟨h6, E2, A2, B2⟩ : ∃ h6, ss_pi h4 (some p) 5 2 j2 = some h6 ∧ h6.1 = h4.1 ∧ ∀ y, h6.2 y = if y = p then (5, [j0, j1, j2, i3, i4], [], [some (p + 1), some (p + 2), some (p + 3), some (p + 4), some (p + 5)]) else h4.2 y := ⟨_, pb_pi pp2 (by simp) j2, rfl, fun _ => rfl⟩
  have R2 : ∀ y, y ≠ p → h6.2 y = h4.2 y := fun y hy => by rw [B2, if_neg hy]
  have pp3 : h6.2 p = (5, [j0, j1, j2, i3, i4], [], [some (p + 1), some (p + 2), some (p + 3), some (p + 4), some (p + 5)]) := by rw [B2, if_pos rfl]
  have qq3 := (R2 q (by omega)).trans qq2
  have g3 : ss_gi h6 (some q) 5 3 = some j3 := pb_gi qq3 3
  obtain ⟨h8, E3, A3, B3⟩ : ∃ h8, ss_pi h6 (some p) 5 3 j3 = some h8 ∧ h8.1 = h6.1 ∧ ∀ y, h8.2 y = if y = p then (5, [j0, j1, j2, j3, i4], [], [some (p + 1), some (p + 2), some (p + 3), some (p + 4), some (p + 5)]) else h6.2 y := ⟨_, pb_pi pp3 (by simp) j3, rfl, fun _ => rfl⟩
  have R3 : ∀ y, y ≠ p → h8.2 y = h6.2 y := fun y hy => by rw [B3, if_neg hy]
  have pp4 : h8.2 p = (5, [j0, j1, j2, j3, i4], [], [some (p + 1), some (p + 2), some (p + 3), some (p + 4), some (p + 5)]) := by rw [B3, if_pos rfl]
  have qq4 := (R3 q (by omega)).trans qq3
  have g4 : ss_gi h8 (some q) 5 4 = some j4 := pb_gi qq4 4
  obtain ⟨h10, E4, A4, B4⟩ : ∃ h10, ss_pi h8 (some p) 5 4 j4 = some h10 ∧ h10.1 = h8.1 ∧ ∀ y, h10.2 y = if y = p then (5, [j0, j1, j2, j3, j4], [], [some (p + 1), some (p + 2), some (p + 3), some (p + 4), some (p + 5)]) else h8.2 y := ⟨_, pb_pi pp4 (by simp) j4, rfl, fun _ => rfl⟩
  have R4 : ∀ y, y ≠ p → h10.2 y = h8.2 y := fun y hy => by rw [B4, if_neg hy]
  have pp5 : h10.2 p = (5, [j0, j1, j2, j3, j4], [], [some (p + 1), some (p + 2), some (p + 3), some (p + 4), some (p + 5)]) := by rw [B4, if_pos rfl]
  have qq5 := (R4 q (by omega)).trans qq4
  have R9 : ∀ y, y ≠ p → h10.2 y = h.2 y := fun y hy => by rw [R4 y hy, R3 y hy, R2 y hy, R1 y hy, R0 y hy]
  have a0 : ss_gr h10 (some q) 5 0 = some (some (q + 1)) := pb_gr qq5 0
  have b0 : ss_gr h10 (some p) 5 0 = some (some (p + 1)) := pb_gr pp5 0
  obtain ⟨k0, C0, D0, G0⟩ : ∃ k0, ss_cp h10 (some (q + 1)) (nI 0) (some (p + 1)) (nI 0) (nI 4) = some k0 ∧ k0.1 = h10.1 ∧ ∀ y, k0.2 y = if y = p + 1 then (20, own, [], []) else h10.2 y := ⟨_, pb_cp ((R9 _ (by omega)).trans q1) ((R9 _ (by omega)).trans p1) lq1 lp1 (by omega), rfl, fun _ => rfl⟩
  have Q0 : ∀ y, y ≠ p + 1 → k0.2 y = h10.2 y := fun y hy => by rw [G0, if_neg hy]
  have pk0 := (Q0 p (by omega)).trans pp5
  have qk0 := (Q0 q (by omega)).trans qq5
  have a1 : ss_gr k0 (some q) 5 1 = some (some (q + 2)) := pb_gr qk0 1
  have b1 : ss_gr k0 (some p) 5 1 = some (some (p + 2)) := pb_gr pk0 1
  obtain ⟨k1, C1, D1, G1⟩ : ∃ k1, ss_cp k0 (some (q + 2)) (nI 0) (some (p + 2)) (nI 0) (nI 4) = some k1 ∧ k1.1 = k0.1 ∧ ∀ y, k1.2 y = if y = p + 2 then (20, str, [], []) else k0.2 y := ⟨_, pb_cp ((Q0 _ (by omega)).trans ((R9 _ (by omega)).trans q2)) ((Q0 _ (by omega)).trans ((R9 _ (by omega)).trans p2)) lq2 lp2 (by omega), rfl, fun _ => rfl⟩
  have Q1 : ∀ y, y ≠ p + 2 → k1.2 y = k0.2 y := fun y hy => by rw [G1, if_neg hy]
  have pk1 := (Q1 p (by omega)).trans pk0
  have qk1 := (Q1 q (by omega)).trans qk0
  have a2 : ss_gr k1 (some q) 5 2 = some (some (q + 3)) := pb_gr qk1 2
  have b2 : ss_gr k1 (some p) 5 2 = some (some (p + 3)) := pb_gr pk1 2
  obtain ⟨k2, C2, D2, G2⟩ : ∃ k2, ss_cp k1 (some (q + 3)) (nI 0) (some (p + 3)) (nI 0) (nI 8) = some k2 ∧ k2.1 = k1.1 ∧ ∀ y, k2.2 y = if y = p + 3 then (20, bes, [], []) else k1.2 y := ⟨_, pb_cp ((Q1 _ (by omega)).trans ((Q0 _ (by omega)).trans ((R9 _ (by omega)).trans q3))) ((Q1 _ (by omega)).trans ((Q0 _ (by omega)).trans ((R9 _ (by omega)).trans p3))) lq3 lp3 (by omega), rfl, fun _ => rfl⟩
  have Q2 : ∀ y, y ≠ p + 3 → k2.2 y = k1.2 y := fun y hy => by rw [G2, if_neg hy]
  have pk2 := (Q2 p (by omega)).trans pk1
  have qk2 := (Q2 q (by omega)).trans qk1
  have a3 : ss_gr k2 (some q) 5 3 = some (some (q + 4)) := pb_gr qk2 3
  have b3 : ss_gr k2 (some p) 5 3 = some (some (p + 4)) := pb_gr pk2 3
  obtain ⟨k3, C3, D3, G3⟩ : ∃ k3, ss_cp k2 (some (q + 4)) (nI 0) (some (p + 4)) (nI 0) (nI 8) = some k3 ∧ k3.1 = k2.1 ∧ ∀ y, k3.2 y = if y = p + 4 then (20, nds, [], []) else k2.2 y := ⟨_, pb_cp ((Q2 _ (by omega)).trans ((Q1 _ (by omega)).trans ((Q0 _ (by omega)).trans ((R9 _ (by omega)).trans q4)))) ((Q2 _ (by omega)).trans ((Q1 _ (by omega)).trans ((Q0 _ (by omega)).trans ((R9 _ (by omega)).trans p4)))) lq4 lp4 (by omega), rfl, fun _ => rfl⟩
  have Q3 : ∀ y, y ≠ p + 4 → k3.2 y = k2.2 y := fun y hy => by rw [G3, if_neg hy]
  have pk3 := (Q3 p (by omega)).trans pk2
  have qk3 := (Q3 q (by omega)).trans qk2
  have Q9 : ∀ y, y ≠ p → y ≠ p + 1 → y ≠ p + 2 → y ≠ p + 3 → y ≠ p + 4 → k3.2 y = h.2 y := fun y y0 y1 y2 y3 y4 => by rw [Q3 y y4, Q2 y y3, Q1 y y2, Q0 y y1, R9 y y0]
  have a4 : ss_gr k3 (some q) 5 4 = some (some (q + 5)) := pb_gr qk3 4
  have b4 : ss_gr k3 (some p) 5 4 = some (some (p + 5)) := pb_gr pk3 4
  have c0 := pb_copy (N := N) ((Q9 (p + 5) (by omega) (by omega) (by omega) (by omega) (by omega)).trans p5) ((Q9 (p + 6) (by omega) (by omega) (by omega) (by omega) (by omega)).trans p6) ((Q9 (p + 7) (by omega) (by omega) (by omega) (by omega) (by omega)).trans p7) ((Q9 (q + 5) (by omega) (by omega) (by omega) (by omega) (by omega)).trans q5) ((Q9 (q + 6) (by omega) (by omega) (by omega) (by omega) (by omega)).trans q6) ((Q9 (q + 7) (by omega) (by omega) (by omega) (by omega) (by omega)).trans q7) rfl lq5 lq6 lp5 lp6 (by omega) (by omega) (by omega)
  obtain ⟨k4, C4, D4, G4⟩ : ∃ k4, mm_G_copyFrom N (some (p + 5)) (some (q + 5)) k3 = some k4 ∧ k4.1 = k3.1 ∧ ∀ y, k4.2 y = if y = p + 5 then (0, [nI 0, nI 0, nI 0, nI 0], [], [some (p + 6), some (p + 7)]) else if y = p + 7 then (20, wa, [], []) else if y = p + 6 then (20, sn, [], []) else k3.2 y := ⟨_, c0, rfl, fun _ => rfl⟩
  have Q4 : ∀ y, y ≠ p + 5 → y ≠ p + 6 → y ≠ p + 7 → k4.2 y = k3.2 y := fun y a b c => by rw [G4, if_neg a, if_neg c, if_neg b]
  refine ⟨k4, ?_, by rw [D4, D3, D2, D1, D0, A4, A3, A2, A1, A0], ⟨(Q4 p (by omega) (by omega) (by omega)).trans pk3, ?_, ?_, ?_, ?_, ?_, ?_, ?_⟩, fun y hy => ?_⟩
  · unfold mm_V_copyFrom
    simp (disch := omega) only [pb_its, pb_l2, pb_ll, nI_add, pb_mul, if_true, if_false, pb_bs, pb_b2n, pb_bz0, pb_bz1, pb_10, pb_01, pb_i31, is, g0, E0, g1, E1, g2, E2, g3, E3, g4, E4, a0, b0, C0, a1, b1, C1, a2, b2, C2, a3, b3, C3, a4, b4, C4]
  · rw [Q4 _ (by omega) (by omega) (by omega), Q3 _ (by omega), Q2 _ (by omega), Q1 _ (by omega), G0, if_pos rfl]
  · rw [Q4 _ (by omega) (by omega) (by omega), Q3 _ (by omega), Q2 _ (by omega), G1, if_pos rfl]
  · rw [Q4 _ (by omega) (by omega) (by omega), Q3 _ (by omega), G2, if_pos rfl]
  · rw [Q4 _ (by omega) (by omega) (by omega), G3, if_pos rfl]
  · rw [G4, if_pos rfl]
  · rw [G4, if_neg (by omega), if_neg (by omega), if_pos rfl]
  · rw [G4, if_neg (by omega), if_pos rfl]
  · rw [Q4 y (by omega) (by omega) (by omega), Q9 y (by omega) (by omega) (by omega) (by omega) (by omega)]
/-- a World's cells at w, whatever it holds -/
def ww_R (g : Nat → ss_Cl) (w : Nat) (I j own str bes nds sn wa J S W D E F : List Int32) : Prop := g w = (8, I, [], [some (w + 1), some (w + 9), some (w + 12), some (w + 13), some (w + 14)]) ∧ bv_R g (w + 1) j own str bes nds sn wa ∧ qg_R g (w + 9) J S W ∧ g (w + 12) = (20, D, [], []) ∧ g (w + 13) = (20, E, [], []) ∧ g (w + 14) = (20, F, [], [])
def wl_L (I j own str bes nds sn wa J S W D E F : List Int32) : Prop := I.length = 3 ∧ bl_L j own str bes nds sn wa ∧ J.length = 4 ∧ S.length = 8 ∧ W.length = 8 ∧ D.length = 10 ∧ E.length = 10 ∧ F.length = 10
def ws_R (g : Nat → ss_Cl) (w : Nat) : Prop := ∃ I j own str bes nds sn wa J S W D E F, ww_R g w I j own str bes nds sn wa J S W D E F ∧ wl_L I j own str bes nds sn wa J S W D E F
theorem wo_cp {N : Nat} {h : ss_Hp} {p q : Nat} {own str bes nds sn wa S W D E F : List Int32} {i0 i1 i2 j0 j1 j2 j3 j4 t0 t1 t2 t3 : Int32} (hp : ws_R h.2 p) (hq : ww_R h.2 q [i0, i1, i2] [j0, j1, j2, j3, j4] own str bes nds sn wa [t0, t1, t2, t3] S W D E F) (lq : wl_L [i0, i1, i2] [j0, j1, j2, j3, j4] own str bes nds sn wa [t0, t1, t2, t3] S W D E F) (hz : j0 = nI 0 ∨ j0 = nI 1) (d : p + 15 ≤ q ∨ q + 15 ≤ p) : ∃ h', mm_Wo_copyFrom N (some p) (some q) h = some h' ∧ h'.1 = h.1 ∧ ww_R h'.2 p [i0, i1, i2] [j0, j1, j2, j3, j4] own str bes nds sn wa [t0, t1, t2, t3] S W D E F ∧ ∀ y, y < p ∨ p + 15 ≤ y → h'.2 y = h.2 y := by
  obtain ⟨I1, jv1, own1, str1, bes1, nds1, sn1, wa1, J1, S1, W1, D1, E1, F1, ⟨u0, u1, ⟨u2, u3, u4⟩, u5, u6, u7⟩, m0, m1, m2, m3, m4, m5, m6, m7⟩ := hp
  obtain ⟨q0, q1, ⟨q2, q3, q4⟩, q5, q6, q7⟩ := hq
  obtain ⟨l0, l1, l2, l3, l4, l5, l6, l7⟩ := lq
  obtain ⟨k0, k1, k2, rfl⟩ : ∃ k0 k1 k2, I1 = [k0, k1, k2] := by
    match I1, m0 with
    | [k0, k1, k2], _ => exact ⟨k0, k1, k2, rfl⟩
  have is : ss_is h (some p) 8 = true := pb_is u0
  have g0 : ss_gr h (some p) 8 0 = some (some (p + 1)) := pb_gr u0 0
  have g1 : ss_gr h (some q) 8 0 = some (some (q + 1)) := pb_gr q0 0
  obtain ⟨h1, X1, A1, V1, R1⟩ := va_copy (N := N) u1 q1 m1 l1 hz (by omega)
  have pa := (R1 p (by omega)).trans u0
  have qa := (R1 q (by omega)).trans q0
  have g2 : ss_gr h1 (some p) 8 1 = some (some (p + 9)) := pb_gr pa 1
  have g3 : ss_gr h1 (some q) 8 1 = some (some (q + 9)) := pb_gr qa 1
  have c0 := pb_copy (N := N) ((R1 (p + 9) (by omega)).trans u2) ((R1 (p + 9 + 1) (by omega)).trans u3) ((R1 (p + 9 + 2) (by omega)).trans u4) ((R1 (q + 9) (by omega)).trans q2) ((R1 (q + 9 + 1) (by omega)).trans q3) ((R1 (q + 9 + 2) (by omega)).trans q4) m2 l3 l4 m3 m4 (by omega) (by omega) (by omega)
  obtain ⟨h2, X2, A2, B2⟩ : ∃ h2, mm_G_copyFrom N (some (p + 9)) (some (q + 9)) h1 = some h2 ∧ h2.1 = h1.1 ∧ ∀ y, h2.2 y = if y = p + 9 then (0, [t0, t1, t2, t3], [], [some (p + 9 + 1), some (p + 9 + 2)]) else if y = p + 9 + 2 then (20, W, [], []) else if y = p + 9 + 1 then (20, S, [], []) else h1.2 y := ⟨_, c0, rfl, fun _ => rfl⟩
  have R2 : ∀ y, y ≠ p + 9 → y ≠ p + 9 + 1 → y ≠ p + 9 + 2 → h2.2 y = h1.2 y := fun y a b c => by rw [B2, if_neg a, if_neg c, if_neg b]
  have pb := (R2 p (by omega) (by omega) (by omega)).trans pa
  have qb := (R2 q (by omega) (by omega) (by omega)).trans qa
  have g4 : ss_gi h2 (some q) 8 0 = some i0 := pb_gi qb 0
  obtain ⟨h3, X3, A3, B3⟩ : ∃ h3, ss_pi h2 (some p) 8 0 i0 = some h3 ∧ h3.1 = h2.1 ∧ ∀ y, h3.2 y = if y = p then (8, [i0, k1, k2], [], [some (p + 1), some (p + 9), some (p + 12), some (p + 13), some (p + 14)]) else h2.2 y := ⟨_, pb_pi pb (by simp) i0, rfl, fun _ => rfl⟩
  have R3 : ∀ y, y ≠ p → h3.2 y = h2.2 y := fun y hy => by rw [B3, if_neg hy]
  have pc3 : h3.2 p = (8, [i0, k1, k2], [], [some (p + 1), some (p + 9), some (p + 12), some (p + 13), some (p + 14)]) := by rw [B3, if_pos rfl]
  have qc := (R3 q (by omega)).trans qb
  have g5 : ss_gi h3 (some q) 8 1 = some i1 := pb_gi qc 1
  obtain ⟨h4, X4, A4, B4⟩ : ∃ h4, ss_pi h3 (some p) 8 1 i1 = some h4 ∧ h4.1 = h3.1 ∧ ∀ y, h4.2 y = if y = p then (8, [i0, i1, k2], [], [some (p + 1), some (p + 9), some (p + 12), some (p + 13), some (p + 14)]) else h3.2 y := ⟨_, pb_pi pc3 (by simp) i1, rfl, fun _ => rfl⟩
  have R4 : ∀ y, y ≠ p → h4.2 y = h3.2 y := fun y hy => by rw [B4, if_neg hy]
  have pc4 : h4.2 p = (8, [i0, i1, k2], [], [some (p + 1), some (p + 9), some (p + 12), some (p + 13), some (p + 14)]) := by rw [B4, if_pos rfl]
  have qd := (R4 q (by omega)).trans qc
  have g6 : ss_gi h4 (some q) 8 2 = some i2 := pb_gi qd 2
  obtain ⟨h5, X5, A5, B5⟩ : ∃ h5, ss_pi h4 (some p) 8 2 i2 = some h5 ∧ h5.1 = h4.1 ∧ ∀ y, h5.2 y = if y = p then (8, [i0, i1, i2], [], [some (p + 1), some (p + 9), some (p + 12), some (p + 13), some (p + 14)]) else h4.2 y := ⟨_, pb_pi pc4 (by simp) i2, rfl, fun _ => rfl⟩
  have R5 : ∀ y, y ≠ p → h5.2 y = h4.2 y := fun y hy => by rw [B5, if_neg hy]
  have pc5 : h5.2 p = (8, [i0, i1, i2], [], [some (p + 1), some (p + 9), some (p + 12), some (p + 13), some (p + 14)]) := by rw [B5, if_pos rfl]
  have qe := (R5 q (by omega)).trans qd
  have RR : ∀ y, y ≠ p → y ≠ p + 9 → y ≠ p + 9 + 1 → y ≠ p + 9 + 2 → h5.2 y = h1.2 y := fun y a b c d => by rw [R5 y a, R4 y a, R3 y a, R2 y b c d]
  have RH : ∀ y, y < p ∨ p + 12 ≤ y → h5.2 y = h.2 y := fun y hy => by rw [RR y (by omega) (by omega) (by omega) (by omega), R1 y (by omega)]
  have g7 : ss_gr h5 (some q) 8 2 = some (some (q + 12)) := pb_gr qe 2
  have g8 : ss_gr h5 (some p) 8 2 = some (some (p + 12)) := pb_gr pc5 2
  obtain ⟨h6, X6, A6, B6⟩ : ∃ h6, ss_cp h5 (some (q + 12)) (nI 0) (some (p + 12)) (nI 0) (nI 10) = some h6 ∧ h6.1 = h5.1 ∧ ∀ y, h6.2 y = if y = p + 12 then (20, D, [], []) else h5.2 y := ⟨_, pb_cp ((RH _ (by omega)).trans q5) ((RH _ (by omega)).trans u5) l5 m5 (by omega), rfl, fun _ => rfl⟩
  have R6 : ∀ y, y ≠ p + 12 → h6.2 y = h5.2 y := fun y hy => by rw [B6, if_neg hy]
  have pc6 := (R6 p (by omega)).trans pc5
  have qf := (R6 q (by omega)).trans qe
  have g9 : ss_gr h6 (some q) 8 3 = some (some (q + 13)) := pb_gr qf 3
  have ga : ss_gr h6 (some p) 8 3 = some (some (p + 13)) := pb_gr pc6 3
  obtain ⟨h7, X7, A7, B7⟩ : ∃ h7, ss_cp h6 (some (q + 13)) (nI 0) (some (p + 13)) (nI 0) (nI 10) = some h7 ∧ h7.1 = h6.1 ∧ ∀ y, h7.2 y = if y = p + 13 then (20, E, [], []) else h6.2 y := ⟨_, pb_cp ((R6 _ (by omega)).trans ((RH _ (by omega)).trans q6)) ((R6 _ (by omega)).trans ((RH _ (by omega)).trans u6)) l6 m6 (by omega), rfl, fun _ => rfl⟩
  have R7 : ∀ y, y ≠ p + 13 → h7.2 y = h6.2 y := fun y hy => by rw [B7, if_neg hy]
  have pc7 := (R7 p (by omega)).trans pc6
  have qg := (R7 q (by omega)).trans qf
  have gb : ss_gr h7 (some q) 8 4 = some (some (q + 14)) := pb_gr qg 4
  have gc : ss_gr h7 (some p) 8 4 = some (some (p + 14)) := pb_gr pc7 4
  obtain ⟨h8, X8, A8, B8⟩ : ∃ h8, ss_cp h7 (some (q + 14)) (nI 0) (some (p + 14)) (nI 0) (nI 10) = some h8 ∧ h8.1 = h7.1 ∧ ∀ y, h8.2 y = if y = p + 14 then (20, F, [], []) else h7.2 y := ⟨_, pb_cp ((R7 _ (by omega)).trans ((R6 _ (by omega)).trans ((RH _ (by omega)).trans q7))) ((R7 _ (by omega)).trans ((R6 _ (by omega)).trans ((RH _ (by omega)).trans u7))) l7 m7 (by omega), rfl, fun _ => rfl⟩
  have R8 : ∀ y, y ≠ p + 14 → h8.2 y = h7.2 y := fun y hy => by rw [B8, if_neg hy]
  have RL : ∀ y, y < p + 12 → h8.2 y = h5.2 y := fun y hy => by rw [R8 y (by omega), R7 y (by omega), R6 y (by omega)]
  have RM : ∀ y, y ≠ p → y < p + 12 → h8.2 y = h2.2 y := fun y a b => by rw [RL y b, R5 y a, R4 y a, R3 y a]
  refine ⟨h8, ?_, by rw [A8, A7, A6, A5, A4, A3, A2, A1], ⟨(R8 p (by omega)).trans pc7, bv_R_fr (fun i hi => ?_) V1, ⟨?_, ?_, ?_⟩, ?_, ?_, ?_⟩, fun y hy => ?_⟩
  · unfold mm_Wo_copyFrom
    simp (disch := omega) only [pb_its, pb_l2, pb_ll, nI_add, pb_mul, if_true, if_false, pb_bs, pb_b2n, pb_bz0, pb_bz1, pb_10, pb_01, pb_i31, is, g0, g1, X1, g2, g3, X2, g4, X3, g5, X4, g6, X5, g7, g8, X6, g9, ga, X7, gb, gc, X8]
  · rw [RM _ (by omega) (by omega), R2 _ (by omega) (by omega) (by omega)]
  · rw [RM _ (by omega) (by omega), B2, if_pos rfl]
  · rw [RM _ (by omega) (by omega), B2, if_neg (by omega), if_neg (by omega), if_pos rfl]
  · rw [RM _ (by omega) (by omega), B2, if_neg (by omega), if_pos rfl]
  · rw [R8 _ (by omega), R7 _ (by omega), B6, if_pos rfl]
  · rw [R8 _ (by omega), B7, if_pos rfl]
  · rw [B8, if_pos rfl]
  · rw [R8 y (by omega), R7 y (by omega), R6 y (by omega), RH y (by omega)]
theorem wo_init {N : Nat} {h : ss_Hp} {w : Nat} (hw : h.2 w = (8, [nI 0, nI 0, nI 0], [], [none, none, none, none, none])) (h1 : h.1 = w + 1) (hN : 8 < N) : ∃ h', mm_Wo_init N (some w) h = some h' ∧ h'.1 = w + 15 ∧ (h'.2 w).1 = 8 ∧ ws_R h'.2 w ∧ ∀ y, y < w ∨ w + 15 ≤ y → h'.2 y = h.2 y := by
  have is : ss_is h (some w) 8 = true := pb_is hw
  obtain ⟨k1, E1, A1, B1⟩ : ∃ k1, ss_no h 5 5 0 5 = some (some (w + 1), k1) ∧ k1.1 = w + 2 ∧ ∀ y, k1.2 y = if y = w + 1 then (5, [nI 0, nI 0, nI 0, nI 0, nI 0], [], [none, none, none, none, none]) else h.2 y := by
    refine ⟨ss_hn h (5, [nI 0, nI 0, nI 0, nI 0, nI 0], [], [none, none, none, none, none]), ?_, by show h.1 + 1 = _; omega, fun y => ?_⟩
    · rw [← h1]
      rfl
    · rw [← h1]
      rfl
  obtain ⟨k2, E2, A2, d0, d1, d2, d3, d4, d5, d6, d7, B2⟩ := va_init (N := N) (h := k1) (v := w + 1) (by rw [B1, if_pos rfl]) (by omega) hN
  have w_2 : k2.2 w = (8, [nI 0, nI 0, nI 0], [], [none, none, none, none, none]) := by rw [B2 w (by omega), B1, if_neg (by omega)]; exact hw
  obtain ⟨k3, E3, A3, B3⟩ : ∃ k3, ss_pr k2 (some w) 8 0 (some (w + 1)) = some k3 ∧ k3.1 = k2.1 ∧ ∀ y, k3.2 y = if y = w then (8, [nI 0, nI 0, nI 0], [], [some (w + 1), none, none, none, none]) else k2.2 y := ⟨_, pb_pr w_2 (by simp) _, rfl, fun _ => rfl⟩
  have nk3 : k3.1 = w + 9 := by omega
  obtain ⟨k4, E4, A4, B4⟩ : ∃ k4, ss_no k3 0 4 0 2 = some (some (w + 9), k4) ∧ k4.1 = w + 10 ∧ ∀ y, k4.2 y = if y = w + 9 then (0, [nI 0, nI 0, nI 0, nI 0], [], [none, none]) else k3.2 y := by
    refine ⟨ss_hn k3 (0, [nI 0, nI 0, nI 0, nI 0], [], [none, none]), ?_, by show k3.1 + 1 = _; omega, fun y => ?_⟩
    · rw [← nk3]
      rfl
    · rw [← nk3]
      rfl
  obtain ⟨k5, E5, A5, C5, D5, F5, B5⟩ := ga_init (N := N) (h := k4) (p := w + 9) (by rw [B4, if_pos rfl]) (by omega) hN
  rw [A4] at C5 D5 F5 B5
  have w_5 : k5.2 w = (8, [nI 0, nI 0, nI 0], [], [some (w + 1), none, none, none, none]) := by rw [B5 w (by omega) (by omega) (by omega), B4, if_neg (by omega), B3, if_pos rfl]
  obtain ⟨k6, E6, A6, B6⟩ : ∃ k6, ss_pr k5 (some w) 8 1 (some (w + 9)) = some k6 ∧ k6.1 = k5.1 ∧ ∀ y, k6.2 y = if y = w then (8, [nI 0, nI 0, nI 0], [], [some (w + 1), some (w + 9), none, none, none]) else k5.2 y := ⟨_, pb_pr w_5 (by simp) _, rfl, fun _ => rfl⟩
  obtain ⟨k7, E7, A7, B7⟩ : ∃ k7, ss_pi k6 (some w) 8 0 (-nI 1) = some k7 ∧ k7.1 = k6.1 ∧ ∀ y, k7.2 y = if y = w then (8, [-nI 1, nI 0, nI 0], [], [some (w + 1), some (w + 9), none, none, none]) else k6.2 y := ⟨_, pb_pi (h := k6) (a := w) (c := 8) (by rw [B6, if_pos rfl]) (by simp) _, rfl, fun _ => rfl⟩
  have nk7 : k7.1 = w + 12 := by omega
  obtain ⟨k8, Ek8, Ak8, Bk8⟩ : ∃ k8, ss_na k7 20 10 (nI 10) = some (some (w + 12), k8) ∧ k8.1 = w + 13 ∧ ∀ y, k8.2 y = if y = w + 12 then (20, z10, [], []) else k7.2 y := by
    refine ⟨_, by rw [← nk7]; exact pb_na (by omega) (by omega), by show k7.1 + 1 = _; omega, fun y => ?_⟩
    rw [← nk7]
    rfl
  obtain ⟨k9, E9, A9, B9⟩ : ∃ k9, ss_pr k8 (some w) 8 2 (some (w + 12)) = some k9 ∧ k9.1 = k8.1 ∧ ∀ y, k9.2 y = if y = w then (8, [-nI 1, nI 0, nI 0], [], [some (w + 1), some (w + 9), some (w + 12), none, none]) else k8.2 y := ⟨_, pb_pr (h := k8) (a := w) (c := 8) (by rw [Bk8, if_neg (by omega), B7, if_pos rfl]) (by simp) _, rfl, fun _ => rfl⟩
  have nk9 : k9.1 = w + 13 := by omega
  obtain ⟨ka, Eka, Aka, Bka⟩ : ∃ ka, ss_na k9 20 10 (nI 10) = some (some (w + 13), ka) ∧ ka.1 = w + 14 ∧ ∀ y, ka.2 y = if y = w + 13 then (20, z10, [], []) else k9.2 y := by
    refine ⟨_, by rw [← nk9]; exact pb_na (by omega) (by omega), by show k9.1 + 1 = _; omega, fun y => ?_⟩
    rw [← nk9]
    rfl
  obtain ⟨kb, Eb, Ab, Bb⟩ : ∃ kb, ss_pr ka (some w) 8 3 (some (w + 13)) = some kb ∧ kb.1 = ka.1 ∧ ∀ y, kb.2 y = if y = w then (8, [-nI 1, nI 0, nI 0], [], [some (w + 1), some (w + 9), some (w + 12), some (w + 13), none]) else ka.2 y := ⟨_, pb_pr (h := ka) (a := w) (c := 8) (by rw [Bka, if_neg (by omega), B9, if_pos rfl]) (by simp) _, rfl, fun _ => rfl⟩
  have nkb : kb.1 = w + 14 := by omega
  obtain ⟨kc, Ekc, Akc, Bkc⟩ : ∃ kc, ss_na kb 20 10 (nI 10) = some (some (w + 14), kc) ∧ kc.1 = w + 15 ∧ ∀ y, kc.2 y = if y = w + 14 then (20, z10, [], []) else kb.2 y := by
    refine ⟨_, by rw [← nkb]; exact pb_na (by omega) (by omega), by show kb.1 + 1 = _; omega, fun y => ?_⟩
    rw [← nkb]
    rfl
  obtain ⟨kd, Ed, Ad, Bd⟩ : ∃ kd, ss_pr kc (some w) 8 4 (some (w + 14)) = some kd ∧ kd.1 = kc.1 ∧ ∀ y, kd.2 y = if y = w then (8, [-nI 1, nI 0, nI 0], [], [some (w + 1), some (w + 9), some (w + 12), some (w + 13), some (w + 14)]) else kc.2 y := ⟨_, pb_pr (h := kc) (a := w) (c := 8) (by rw [Bkc, if_neg (by omega), Bb, if_pos rfl]) (by simp) _, rfl, fun _ => rfl⟩
  have ud : ∀ y, y ≠ w → kd.2 y = kc.2 y := fun y hy => by rw [Bd, if_neg hy]
  have ub : ∀ y, y ≠ w → y ≠ w + 14 → kd.2 y = ka.2 y := fun y a b => by rw [ud y a, Bkc, if_neg b, Bb, if_neg a]
  have u9 : ∀ y, y ≠ w → y ≠ w + 13 → y ≠ w + 14 → kd.2 y = k8.2 y := fun y a b c => by rw [ub y a c, Bka, if_neg b, B9, if_neg a]
  have u7 : ∀ y, y ≠ w → y ≠ w + 12 → y ≠ w + 13 → y ≠ w + 14 → kd.2 y = k5.2 y := fun y a b c d => by rw [u9 y a c d, Bk8, if_neg b, B7, if_neg a, B6, if_neg a]
  have u5 : ∀ y, y ≠ w → y < w + 9 ∨ w + 15 ≤ y → kd.2 y = k2.2 y := fun y a b => by rw [u7 y a (by omega) (by omega) (by omega), B5 y (by omega) (by omega) (by omega), B4, if_neg (by omega), B3, if_neg a]
  have wd : kd.2 w = (8, [-nI 1, nI 0, nI 0], [], [some (w + 1), some (w + 9), some (w + 12), some (w + 13), some (w + 14)]) := by rw [Bd, if_pos rfl]
  refine ⟨kd, ?_, by omega, by rw [wd], ⟨_, _, _, _, _, _, _, _, _, _, _, z10, z10, z10, ⟨wd, ⟨(u5 _ (by omega) (by omega)).trans d0, (u5 _ (by omega) (by omega)).trans d1, (u5 _ (by omega) (by omega)).trans d2, (u5 _ (by omega) (by omega)).trans d3, (u5 _ (by omega) (by omega)).trans d4, (u5 _ (by omega) (by omega)).trans d5, (u5 _ (by omega) (by omega)).trans d6, (u5 _ (by omega) (by omega)).trans d7⟩, ⟨(u7 _ (by omega) (by omega) (by omega) (by omega)).trans C5, (u7 _ (by omega) (by omega) (by omega) (by omega)).trans D5, (u7 _ (by omega) (by omega) (by omega) (by omega)).trans F5⟩, ?_, ?_, ?_⟩, rfl, ⟨rfl, rfl, rfl, rfl, rfl, rfl, rfl⟩, rfl, rfl, rfl, rfl, rfl, rfl⟩, fun y hy => ?_⟩
  · unfold mm_Wo_init
    simp (disch := omega) only [pb_its, pb_l2, pb_ll, nI_add, pb_mul, if_true, if_false, pb_bs, pb_b2n, pb_bz0, pb_bz1, pb_10, pb_01, pb_i31, is, E1, E2, E3, E4, E5, E6, E7, Ek8, E9, Eka, Eb, Ekc, Ed]
  · rw [u9 _ (by omega) (by omega) (by omega), Bk8, if_pos rfl]
  · rw [ub _ (by omega) (by omega), Bka, if_pos rfl]
  · rw [ud _ (by omega), Bkc, if_pos rfl]
  · rw [u5 y (by omega) (by omega), B2 y (by omega), B1, if_neg (by omega)]
/-! what a valley and a world tell -/
theorem sa_told_01 (a : List Int32) : sa_told a = nI 0 ∨ sa_told a = nI 1 := by
  unfold sa_told
  split
  · exact Or.inl rfl
  · exact Or.inr rfl
def vd_R (a nds wa : List Int32) : Prop := nd_R nds a ∧ wa.length = 8 ∧ (¬ pv a 0 ≤ nI 0 → wa = sl a 54 8)
theorem qv_bv {g : Nat → ss_Cl} {v : Nat} {a : List Int32} (h : qv_R g v a) : ∃ nds wa, bv_R g v [sa_told a, pv a 0, pv a 1, pv a 2, pv a 3] [pv a 38, pv a 40, pv a 42, pv a 44] [pv a 39, pv a 41, pv a 43, pv a 45] (sl a 30 8) nds (sl a 46 8) wa ∧ vd_R a nds wa := by
  obtain ⟨⟨hv, tl, nds, g0, g1, g3, g4, gn⟩, h1, h2, h3, h4, w, h5, h6, h7⟩ := h
  rw [g0] at h1
  have ht : tl = sa_told a := Option.some.inj h1
  subst ht
  exact ⟨nds, w, ⟨g0, g1, h2, g3, g4, h3, h4, h6⟩, gn, h5, h7⟩
theorem bv_qv {g : Nat → ss_Cl} {v : Nat} {a nds wa : List Int32} (hv : v = 25 ∨ 142 ≤ v) (h : bv_R g v [sa_told a, pv a 0, pv a 1, pv a 2, pv a 3] [pv a 38, pv a 40, pv a 42, pv a 44] [pv a 39, pv a 41, pv a 43, pv a 45] (sl a 30 8) nds (sl a 46 8) wa) (hd : vd_R a nds wa) : qv_R g v a := by
  obtain ⟨h0, h1, h2, h3, h4, h5, h6, h7⟩ := h
  obtain ⟨d1, d2, d3⟩ := hd
  exact ⟨⟨hv, _, nds, h0, h1, h3, h4, d1⟩, by rw [h0]; rfl, h2, h5, h6, wa, d2, h7, d3⟩
theorem vd_L {a nds wa : List Int32} (hd : vd_R a nds wa) : bl_L [sa_told a, pv a 0, pv a 1, pv a 2, pv a 3] [pv a 38, pv a 40, pv a 42, pv a 44] [pv a 39, pv a 41, pv a 43, pv a 45] (sl a 30 8) nds (sl a 46 8) wa := ⟨rfl, rfl, rfl, sl_len _ _ _, hd.1.1, sl_len _ _ _, hd.2.1⟩
def wd_R (a nds wa W D E F : List Int32) : Prop := vd_R a nds wa ∧ (W.length = 8 ∧ (¬ pv a 0 ≤ nI 0 → W = sl a 22 8)) ∧ note_R D E F a
theorem wq_ww {g : Nat → ss_Cl} {w : Nat} {a : List Int32} {fo x : Int32} (h : wq_R g w a fo x) : ∃ nds wa W D E F, ww_R g w [fo, x, pv a 123] [sa_told a, pv a 0, pv a 1, pv a 2, pv a 3] [pv a 38, pv a 40, pv a 42, pv a 44] [pv a 39, pv a 41, pv a 43, pv a 45] (sl a 30 8) nds (sl a 46 8) wa [pv a 11, pv a 12, pv a 13, pv a 10] (sl a 14 8) W D E F ∧ wd_R a nds wa W D E F := by
  obtain ⟨⟨h1, h2⟩, ⟨W, h3, h4, h5⟩, nd, ns, nw, h6, h7, h8, h9⟩ := h
  obtain ⟨nds, wa, v1, v2⟩ := qv_bv h2
  exact ⟨nds, wa, W, nd, ns, nw, ⟨h1, v1, h4, h6, h7, h8⟩, v2, ⟨h3, h5⟩, h9⟩
theorem ww_wq {g : Nat → ss_Cl} {w : Nat} {a nds wa W D E F : List Int32} {fo x : Int32} (hw : w = 24 ∨ 142 ≤ w) (h : ww_R g w [fo, x, pv a 123] [sa_told a, pv a 0, pv a 1, pv a 2, pv a 3] [pv a 38, pv a 40, pv a 42, pv a 44] [pv a 39, pv a 41, pv a 43, pv a 45] (sl a 30 8) nds (sl a 46 8) wa [pv a 11, pv a 12, pv a 13, pv a 10] (sl a 14 8) W D E F) (hd : wd_R a nds wa W D E F) : wq_R g w a fo x := by
  obtain ⟨h0, h1, h2, h3, h4, h5⟩ := h
  obtain ⟨d1, ⟨d2, d3⟩, d4⟩ := hd
  exact ⟨⟨h0, bv_qv (by omega) h1 d1⟩, ⟨W, d2, h2, d3⟩, D, E, F, h3, h4, h5, d4⟩
theorem wd_L {a nds wa W D E F : List Int32} {fo x : Int32} (hd : wd_R a nds wa W D E F) : wl_L [fo, x, pv a 123] [sa_told a, pv a 0, pv a 1, pv a 2, pv a 3] [pv a 38, pv a 40, pv a 42, pv a 44] [pv a 39, pv a 41, pv a 43, pv a 45] (sl a 30 8) nds (sl a 46 8) wa [pv a 11, pv a 12, pv a 13, pv a 10] (sl a 14 8) W D E F := ⟨rfl, vd_L hd.1, rfl, sl_len _ _ _, hd.2.1.1, hd.2.2.1, hd.2.2.2.1, hd.2.2.2.2.1⟩
theorem wq_ws {g : Nat → ss_Cl} {w : Nat} {a : List Int32} {fo x : Int32} (h : wq_R g w a fo x) : ws_R g w := by
  obtain ⟨nds, wa, W, D, E, F, h1, h2⟩ := wq_ww h
  exact ⟨_, _, _, _, _, _, _, _, _, _, _, _, _, _, h1, wd_L h2⟩
theorem wo_copy {N : Nat} {h : ss_Hp} {p q : Nat} {a : List Int32} {fo x : Int32} (hv : p = 24 ∨ 142 ≤ p) (hp : ws_R h.2 p) (hq : wq_R h.2 q a fo x) (d : p + 15 ≤ q ∨ q + 15 ≤ p) : ∃ h', mm_Wo_copyFrom N (some p) (some q) h = some h' ∧ h'.1 = h.1 ∧ wq_R h'.2 p a fo x ∧ ∀ y, y < p ∨ p + 15 ≤ y → h'.2 y = h.2 y := by
  obtain ⟨nds, wa, W, D, E, F, h1, h2⟩ := wq_ww hq
  obtain ⟨h', e1, e2, e3, e4⟩ := wo_cp (N := N) hp h1 (wd_L h2) (sa_told_01 a) d
  exact ⟨h', e1, e2, ww_wq hv e3 h2, e4⟩
/-! what is made lies apart -/
def tg (g : Nat → ss_Cl) (w : Nat) : Prop := (∀ i, i < 15 → (g (w + i)).1 = 99) ∨ ((g w).1 = 8 ∧ ∀ i, 1 ≤ i → i < 15 → (g (w + i)).1 = 0 ∨ (g (w + i)).1 = 20 ∨ (g (w + i)).1 = 5)
theorem qv_tags {g : Nat → ss_Cl} {v : Nat} {a : List Int32} (h : qv_R g v a) : (g v).1 = 5 ∧ ∀ j, 1 ≤ j → j < 8 → (g (v + j)).1 = 20 ∨ (g (v + j)).1 = 0 := by
  obtain ⟨⟨hv, tl, nds, g0, g1, g3, g4, gn⟩, h1, h2, h3, h4, w, h5, h6, h7⟩ := h
  refine ⟨by rw [g0], fun j h1 h8 => ?_⟩
  have : j = 1 ∨ j = 2 ∨ j = 3 ∨ j = 4 ∨ j = 5 ∨ j = 6 ∨ j = 7 := by omega
  rcases this with e | e | e | e | e | e | e <;> subst e
  · exact Or.inl (by rw [g1])
  · exact Or.inl (by rw [h2])
  · exact Or.inl (by rw [g3])
  · exact Or.inl (by rw [g4])
  · exact Or.inr (by rw [h3])
  · exact Or.inl (by rw [h4])
  · exact Or.inl (by rw [h6])
theorem tg_r {g : Nat → ss_Cl} {p w : Nat} {R : List ru_C} (ht : tg g w) (h : rc_R g p R) : p + 2 < w ∨ w + 14 < p := by
  obtain ⟨h0, h1, code, starts, r0, r1, r2, -⟩ := h
  have t0 : (g p).1 = 1 := by rw [r0]
  have t1 : ∀ j, 1 ≤ j → j < 3 → (g (p + j)).1 = 20 := fun j a b => by
    have : j = 1 ∨ j = 2 := by omega
    rcases this with e | e <;> subst e
    · rw [r1]
    · rw [r2]
  rcases Nat.lt_or_ge (p + 2) w with c | c
  · exact Or.inl c
  rcases Nat.lt_or_ge (w + 14) p with c2 | c2
  · exact Or.inr c2
  exfalso
  rcases ht with t | ⟨t, t'⟩
  · rcases Nat.lt_or_ge p w with q | q
    · have h1 := t 0 (by omega)
      have h2 := t1 (w - p) (by omega) (by omega)
      rw [show p + (w - p) = w + 0 by omega, h1] at h2
      omega
    · have h1 := t (p - w) (by omega)
      rw [show w + (p - w) = p by omega, t0] at h1
      omega
  · rcases Nat.lt_or_ge p w with q | q
    · have h2 := t1 (w - p) (by omega) (by omega)
      rw [show p + (w - p) = w by omega, t] at h2
      omega
    · rcases Nat.lt_or_ge w p with q2 | q2
      · have h1 := t' (p - w) (by omega) (by omega)
        rw [show w + (p - w) = p by omega, t0] at h1
        omega
      · have : p = w := by omega
        rw [this, t] at t0
        omega
theorem qw_tags {g : Nat → ss_Cl} {u : Nat} {s : List Int32} {f y : Int32} (h : qw_R g u s f y) : (g u).1 = 8 ∧ ∀ i, 1 ≤ i → i < 15 → (g (u + i)).1 = 0 ∨ (g (u + i)).1 = 20 ∨ (g (u + i)).1 = 5 := by
  obtain ⟨h0, ⟨h1, h2⟩, ⟨W, w1, ⟨w2, w3, w4⟩, w5⟩, nd, ns, nw, n1, n2, n3, n4⟩ := h
  obtain ⟨v0, v1⟩ := qv_tags h2
  refine ⟨by rw [h1], fun j a b => ?_⟩
  rcases Nat.lt_or_ge j 9 with c | c
  · rcases Nat.lt_or_ge j 2 with c2 | c2
    · have e : j = 1 := by omega
      subst e
      exact Or.inr (Or.inr v0)
    · have := v1 (j - 1) (by omega) (by omega)
      rw [show u + 1 + (j - 1) = u + j by omega] at this
      omega
  · have : j = 9 ∨ j = 10 ∨ j = 11 ∨ j = 12 ∨ j = 13 ∨ j = 14 := by omega
    rcases this with e | e | e | e | e | e <;> subst e
    · exact Or.inl (by rw [w2])
    · exact Or.inr (Or.inl (by show (g (u + 9 + 1)).1 = 20; rw [w3]))
    · exact Or.inr (Or.inl (by show (g (u + 9 + 2)).1 = 20; rw [w4]))
    · exact Or.inr (Or.inl (by rw [n1]))
    · exact Or.inr (Or.inl (by rw [n2]))
    · exact Or.inr (Or.inl (by rw [n3]))
theorem tg_w {g : Nat → ss_Cl} {u w : Nat} {s : List Int32} {f y : Int32} (ht : tg g w) (h : qw_R g u s f y) (hn : u ≠ w) : u + 14 < w ∨ w + 14 < u := by
  obtain ⟨t0, t1⟩ := qw_tags h
  rcases Nat.lt_or_ge (u + 14) w with c | c
  · exact Or.inl c
  rcases Nat.lt_or_ge (w + 14) u with c2 | c2
  · exact Or.inr c2
  exfalso
  rcases ht with t | ⟨t, t'⟩
  · rcases Nat.lt_or_ge u w with q | q
    · have h1 := t 0 (by omega)
      have h2 := t1 (w - u) (by omega) (by omega)
      rw [show u + (w - u) = w + 0 by omega, h1] at h2
      omega
    · have h1 := t (u - w) (by omega)
      rw [show w + (u - w) = u by omega, t0] at h1
      omega
  · rcases Nat.lt_or_ge u w with q | q
    · have h2 := t1 (w - u) (by omega) (by omega)
      rw [show u + (w - u) = w by omega, t] at h2
      omega
    · have h1 := t' (u - w) (by omega) (by omega)
      rw [show w + (u - w) = u by omega, t0] at h1
      omega
theorem qv_R_x {g g' : Nat → ss_Cl} {v : Nat} {a : List Int32} (e : ∀ j, j < 8 → g' (v + j) = g (v + j)) (h : qv_R g v a) : qv_R g' v a := by
  obtain ⟨⟨hv, tl, nds, g0, g1, g3, g4, gn⟩, h1, h2, h3, h4, w, h5, h6, h7⟩ := h
  have e0 : g' v = g v := e 0 (by omega)
  exact ⟨⟨hv, tl, nds, by rw [e0, g0], by rw [e 1 (by omega), g1], by rw [e 3 (by omega), g3], by rw [e 4 (by omega), g4], gn⟩, by rw [e0]; exact h1, by rw [e 2 (by omega)]; exact h2, by rw [e 5 (by omega)]; exact h3, by rw [e 6 (by omega)]; exact h4, w, h5, by rw [e 7 (by omega)]; exact h6, h7⟩
theorem rc_R_x {g g' : Nat → ss_Cl} {r : Nat} {R : List ru_C} (e : ∀ j, j < 3 → g' (r + j) = g (r + j)) (h : rc_R g r R) : rc_R g' r R := by
  obtain ⟨h0, h1, code, starts, h2, h3, h4, h5⟩ := h
  have e0 : g' r = g r := e 0 (by omega)
  exact ⟨h0, h1, code, starts, by rw [e0]; exact h2, by rw [e 1 (by omega)]; exact h3, by rw [e 2 (by omega)]; exact h4, h5⟩
theorem wq_R_x {g g' : Nat → ss_Cl} {w : Nat} {s : List Int32} {f y : Int32} (e : ∀ j, j < 15 → g' (w + j) = g (w + j)) (h : wq_R g w s f y) : wq_R g' w s f y := by
  obtain ⟨⟨h1, h2⟩, ⟨W, h3, h4, h5⟩, nd, ns, nw, h6, h7, h8, h9⟩ := h
  have e0 : g' w = g w := e 0 (by omega)
  exact ⟨⟨by rw [e0]; exact h1, qv_R_x (fun j hj => by rw [show w + 1 + j = w + (1 + j) by omega]; exact e (1 + j) (by omega)) h2⟩, ⟨W, h3, qg_R_fr (fun j hj => by rw [show w + 9 + j = w + (9 + j) by omega]; exact e (9 + j) (by omega)) h4, h5⟩, nd, ns, nw, by rw [e 12 (by omega)]; exact h6, by rw [e 13 (by omega)]; exact h7, by rw [e 14 (by omega)]; exact h8, h9⟩
theorem qw_R_x {g g' : Nat → ss_Cl} {w : Nat} {s : List Int32} {f y : Int32} (e : ∀ j, j < 15 → g' (w + j) = g (w + j)) (h : qw_R g w s f y) : qw_R g' w s f y := ⟨h.1, wq_R_x e h.2⟩
theorem qu_R_x {g g' : Nat → ss_Cl} {nx : Nat} {US : List (List Int32)} (e : ∀ p, 42 ≤ p → p < 102 → g' p = g p) (h : qu_R g nx US) : qu_R g' nx US := by
  refine ⟨h.1, fun i hi => ?_, fun j hj => qg_R_fr (fun i hi => e _ (by omega) (by have := Nat.mod_lt (nx + 19 - j) (show 0 < 20 by omega); omega)) (h.2.2 j hj)⟩
  obtain ⟨J, S, W, h1, h2, h3, h4⟩ := h.2.1 i hi
  exact ⟨J, S, W, h1, h2, h3, qg_R_fr (fun i hi => e _ (by omega) (by omega)) h4⟩
section RE
variable {n : Nat} {g : Nat → ss_Cl} {rc : Int32} {ti : List Int32} {tb : List Int32} {vt : Option Nat} {ri : List Int32} {cd : List Int32} {sx : List Int32} {rl : List (Option Nat)} {wi : List Int32} {wv : Option Nat} {gi : List Int32} {gs : List Int32} {gw : List Int32} {nd : List Int32} {ns : List Int32} {nw : List Int32} {il : List (Option Nat)} {ai : List Int32} {yv : Option Nat} {yr : Option Nat} {yi : List Int32} {ys : List Int32} {yw : List Int32} {yt : List Int32} {yh : List Int32} {yf : List Int32} {yo : List Int64} {yk : List Int64} {fr : List Int32} {fg : List Int32} {pl : List Int32} {pc : List Int32} {pg : List Int32} {N : Nat}
theorem pk_re {h' : ss_Hp} (e : ∀ p, ¬ pk_fr p → h'.2 p = (pk_C n g rc ti tb vt ri cd sx rl wi wv gi gs gw nd ns nw il ai yv yr yi ys yw yt yh yf yo yk fr fg pl pc pg).2 p) : h' = (pk_C h'.1 h'.2 rc ti tb vt ri cd sx rl wi wv gi gs gw nd ns nw il ai yv yr yi ys yw yt yh yf yo yk fr fg pl pc pg) := Prod.ext rfl (funext fun p => by
  by_cases q : pk_fr p
  · rw [pk_out q]
  · rw [e p q]
    exact pk_inn q)
end RE
theorem cl_now {T : List Nat} {a : List Int32} {fo x : Int32} {RS : List (List ru_C)} {US : List (List Int32)} {I : Nat → Option (List Int32 × Int32 × Int32)} {n : Nat} {g : Nat → ss_Cl} {rc : Int32} {ti : List Int32} {tb : List Int32} {vt : Option Nat} {ri : List Int32} {cd : List Int32} {sx : List Int32} {rl : List (Option Nat)} {wi : List Int32} {wv : Option Nat} {gi : List Int32} {gs : List Int32} {gw : List Int32} {nd : List Int32} {ns : List Int32} {nw : List Int32} {il : List (Option Nat)} {ai : List Int32} {yv : Option Nat} {yr : Option Nat} {yi : List Int32} {ys : List Int32} {yw : List Int32} {yt : List Int32} {yh : List Int32} {yf : List Int32} {yo : List Int64} {yk : List Int64} {fr : List Int32} {fg : List Int32} {pl : List Int32} {pc : List Int32} {pg : List Int32} {h : ss_Hp} (eh : h = pk_C n g rc ti tb vt ri cd sx rl wi wv gi gs gw nd ns nw il ai yv yr yi ys yw yt yh yf yo yk fr fg pl pc pg) (F : cl_F n g rc ti tb vt ri cd sx rl wi wv gi gs gw nd ns nw il ai yv yr yi ys yw yt yh yf yo yk fr fg pl pc pg T a fo x RS US I) : wq_R h.2 24 a fo x := by
  obtain ⟨Fn, Frc, Ft, ⟨Fr1, Fr2, Fr3, Fr4, Fx⟩, Fl, ⟨Fw, ⟨v, Fv, Fq⟩, Fg, Fs, Fwl, Fno⟩, Fi, ⟨nx, Fa, Fu⟩, Fy, Ff⟩ := F
  have ev : v = 25 := Option.some.inj (Fv.symm.trans Fx.2.1)
  subst ev
  subst eh
  refine ⟨⟨by rw [pk_c24, Fw, Fv], qv_R_x (fun j hj => pk_out (by unfold pk_fr; omega)) Fq⟩, ⟨gw, Fwl.1, ⟨by rw [pk_c33, Fg], by rw [← Fs]; exact pk_c34, pk_c35⟩, Fwl.2⟩, nd, ns, nw, pk_c36, pk_c37, pk_c38, Fno⟩
