/-! ===== way: the class ===== -/
theorem ct_mono {P Q : Nat → Prop} : ∀ L, (∀ q, q < L → P q → Q q) → ct P L ≤ ct Q L := by
  intro L
  induction L with
  | zero => intro _; exact Nat.le_refl _
  | succ L ih =>
    intro h
    have h1 := ih (fun q hq => h q (by omega))
    rw [ct, ct]
    by_cases c : P L
    · rw [pI_t c, pI_t (h L (by omega) c)]; omega
    · rw [pI_f c]; omega
theorem ct_lt {P Q : Nat → Prop} {u : Nat} : ∀ L, (∀ q, q < L → P q → Q q) → u < L → ¬ P u → Q u → ct P L < ct Q L := by
  intro L
  induction L with
  | zero => intro _ h; omega
  | succ L ih =>
    intro h hu hp hq
    rw [ct, ct]
    by_cases e : u = L
    · subst e
      have h1 := ct_mono u (fun q hq => h q (by omega))
      rw [pI_f hp, pI_t hq]
      omega
    · have h1 := ih (fun q hq => h q (by omega)) (by omega) hp hq
      by_cases c : P L
      · rw [pI_t c, pI_t (h L (by omega) c)]; omega
      · rw [pI_f c]; omega
theorem ct_all {P : Nat → Prop} {L : Nat} (h : ct P L = 0) : ∀ q, q < L → ¬ P q := fun q hq p => by
  have := ct_pos hq p
  omega
theorem w16 (a : List Int32) (s : Nat) : (w1 a s = 1 ∧ w6 a s = 1) ∨ (w1 a s = 101 ∧ w6 a s = 17) := by
  unfold w1 w6
  split
  · exact Or.inl ⟨rfl, rfl⟩
  · exact Or.inr ⟨rfl, rfl⟩
def wS (a : List Int32) (k to : Nat) (f : Nat → Nat) : Prop := wI a k to f ∧ ∀ s t, s < k → t < k → wA a s t → f t < 9999 → f s ≤ f t + w1 a s
theorem wS_ex {a : List Int32} {k to s : Nat} {f : Nat → Nat} (h : wS a k to f) (hs : s < k) (hst : s ≠ to) (hf : f s < 9999) : ∃ t, t < k ∧ wA a s t ∧ f t < 9999 ∧ f s = f t + w1 a s := by
  obtain ⟨t, t1, t2, t3, t4⟩ := h.1.2.2 s hs hst hf
  have := h.2 s t hs t1 t2 t3
  exact ⟨t, t1, t2, t3, by omega⟩
theorem wS_len {a : List Int32} {k to : Nat} {f : Nat → Nat} (h : wS a k to f) (hk8 : k ≤ 8) (hto : to < k) : ∀ v s, s < k → f s = v → v < 9999 → 1 ≤ v % 100 ∧ v % 100 ≤ ct (fun t => f t ≤ v) k ∧ v ≤ 101 * ct (fun t => f t ≤ v) k := by
  intro v
  induction v using Nat.strongRecOn with
  | _ v ih =>
    intro s hs hv hl
    by_cases e : s = to
    · have hft := h.1.2.1
      rw [e] at hv
      have hp : 0 < ct (fun t => f t ≤ v) k := ct_pos hto (by show f to ≤ v; omega)
      rcases w16 a to with ⟨q, -⟩ | ⟨q, -⟩ <;> omega
    · obtain ⟨t, t1, t2, t3, t4⟩ := wS_ex h hs e (by omega)
      have w := w16 a s
      obtain ⟨i1, i2, i3⟩ := ih (f t) (by omega) t t1 rfl t3
      have c1 := ct_le (P := fun u => f u ≤ f t) k
      have c2 := ct_lt (P := fun u => f u ≤ f t) (Q := fun u => f u ≤ v) (u := s) k (fun q _ (p : f q ≤ f t) => by show f q ≤ v; omega) hs (by show ¬ f s ≤ f t; omega) (by show f s ≤ v; omega)
      rcases w with ⟨q, -⟩ | ⟨q, -⟩ <;> omega
theorem wS_8 {a : List Int32} {k to s : Nat} {f : Nat → Nat} (h : wS a k to f) (hk8 : k ≤ 8) (hto : to < k) (hs : s < k) (hf : f s < 9999) : f s % 100 ≤ 8 ∧ 1 ≤ f s % 100 ∧ f s ≤ 808 := by
  obtain ⟨i1, i2, i3⟩ := wS_len h hk8 hto (f s) s hs rfl hf
  have := ct_le (P := fun u => f u ≤ f s) k
  omega
def gW (f : Nat → Nat) (s : Nat) : Nat := if f s < 9999 then 16 * (f s / 100) + f s % 100 else 1000000
theorem gW_f {f : Nat → Nat} {s : Nat} (h : f s < 9999) : gW f s = 16 * (f s / 100) + f s % 100 := if_pos h
theorem gW_i {f : Nat → Nat} {s : Nat} (h : ¬ f s < 9999) : gW f s = 1000000 := if_neg h
theorem gW_le {f : Nat → Nat} {s : Nat} : gW f s ≤ 1000000 := by
  unfold gW
  split <;> omega
theorem gW_lt {f : Nat → Nat} {s : Nat} (h : f s < 9999) : gW f s < 10000 := by
  rw [gW_f h]
  omega
theorem gW_to {a : List Int32} {k to : Nat} {f : Nat → Nat} (h : wS a k to f) : gW f to = w6 a to := by
  have hft := h.1.2.1
  rcases w16 a to with ⟨q, q'⟩ | ⟨q, q'⟩
  · rw [gW_f (by omega)]; omega
  · rw [gW_f (by omega)]; omega
theorem gW_ex {a : List Int32} {k to s : Nat} {f : Nat → Nat} (h : wS a k to f) (hk8 : k ≤ 8) (hto : to < k) (hs : s < k) (hst : s ≠ to) (hf : f s < 9999) : ∃ t, t < k ∧ wA a s t ∧ f t < 9999 ∧ f s = f t + w1 a s ∧ gW f s = gW f t + w6 a s := by
  obtain ⟨t, t1, t2, t3, t4⟩ := wS_ex h hs hst hf
  have := wS_8 h hk8 hto t1 t3
  refine ⟨t, t1, t2, t3, t4, ?_⟩
  rw [gW_f hf, gW_f t3]
  rcases w16 a s with ⟨q, q'⟩ | ⟨q, q'⟩ <;> omega
theorem gW_tri {a : List Int32} {k to s t : Nat} {f : Nat → Nat} (h : wS a k to f) (hk8 : k ≤ 8) (hto : to < k) (hs : s < k) (ht : t < k) (ha : wA a s t) : gW f s ≤ w6 a s + gW f t := by
  by_cases ct : f t < 9999
  · have h1 := h.2 s t hs ht ha ct
    have h2 := wS_8 h hk8 hto ht ct
    by_cases cs : f s < 9999
    · have h3 := wS_8 h hk8 hto hs cs
      rw [gW_f cs, gW_f ct]
      rcases w16 a s with ⟨q, q'⟩ | ⟨q, q'⟩ <;> omega
    · exfalso
      have hs9 := h.1.1 s (by omega)
      rcases w16 a s with ⟨q, q'⟩ | ⟨q, q'⟩ <;> omega
  · rw [gW_i ct]
    have := gW_le (f := f) (s := s)
    omega
noncomputable def cB (A : Nat → Prop) (g : Nat → Nat) : Nat → Nat
  | 0 => 1000000
  | t + 1 => pI (A t) (min (g t) (cB A g t)) (cB A g t)
theorem cB_s {A : Nat → Prop} {g : Nat → Nat} : ∀ j, cB A g j ≤ 1000000 ∧ (∀ t, t < j → A t → cB A g j ≤ g t) ∧ (cB A g j = 1000000 ∨ ∃ t, t < j ∧ A t ∧ cB A g j = g t) := by
  intro j
  induction j with
  | zero => exact ⟨Nat.le_refl _, (fun t ht => by omega), Or.inl rfl⟩
  | succ j ih =>
    obtain ⟨g1, g2, g3⟩ := ih
    rw [cB]
    by_cases c : A j
    · rw [pI_t c]
      refine ⟨by omega, fun t ht ha => ?_, ?_⟩
      · by_cases e : t = j
        · rw [e]; omega
        · have := g2 t (by omega) ha; omega
      · by_cases cm : g j ≤ cB A g j
        · right
          exact ⟨j, by omega, c, by omega⟩
        · have em : min (g j) (cB A g j) = cB A g j := by omega
          rw [em]
          rcases g3 with q | ⟨t, t1, t2, t3⟩
          · exact Or.inl q
          · exact Or.inr ⟨t, by omega, t2, t3⟩
    · rw [pI_f c]
      refine ⟨g1, fun t ht ha => ?_, ?_⟩
      · by_cases e : t = j
        · rw [e] at ha; exact absurd ha c
        · exact g2 t (by omega) ha
      · rcases g3 with q | ⟨t, t1, t2, t3⟩
        · exact Or.inl q
        · exact Or.inr ⟨t, by omega, t2, t3⟩
theorem cb_weight {N : Nat} {h0 h : ss_Hp} {T : List Nat} {a : List Int32} {fo x : Int32} {RS : List (List ru_C)} {US : List (List Int32)} {I : Nat → Option (List Int32 × Int32 × Int32)} {Z : Nat → List Int32} {k s : Nat} (hc : cb_h h0 h T a fo x RS US I Z) (hk8 : k ≤ 8) (h2 : pv a 2 = nI k) (hs : s < k) (hN : 5000 < N) : mm_P_weight N (some 114) (nI s) h = some (nI (w6 a s)) := by
  have hk := cb_ck hc
  obtain ⟨v, ⟨⟨bV, bI, bT, bF, bD, bS, bH⟩, ⟨bR0, bR1, bR2, bR3, bR4⟩, ⟨bFo, bX, bNo⟩, ⟨bG0, bG1, bG2, bG3⟩, bOwn, bStr, bBes, bSn, bWl, bNd, bCl⟩⟩ := cb_r hc
  have cl := sa_clo_v (a := a) hk8 hs
  unfold mm_P_weight w6
  by_cases c : pv a (14 + s) < pv a 1
  · rw [if_pos c] at cl ⊢
    simp (disch := omega) only [pb_its, pb_l2, pb_ll, nI_add, pb_mul, if_true, if_false, pb_bs, pb_b2n, pb_bz0, pb_bz1, pb_10, pb_01, pb_i31, ck_is0 hk, ck_r0_0 hk, ck_r0_1 hk, ck_r0_2 hk, ck_r0_3 hk, ck_r0_4 hk, ck_r0_5 hk, ck_r0_6 hk, ck_r0_7 hk, ck_r0_8 hk, ck_r0_9 hk, ck_is1 hk, ck_r1_0 hk, ck_is3 hk, ck_r3_0 hk, ck_r3_1 hk, ck_is20 hk, ck_r20_0 hk, ck_r20_1 hk, ck_r20_2 hk, ck_is24 hk, ck_r24_1 hk, ck_r24_2 hk, ck_r24_3 hk, ck_r24_4 hk, ck_is33 hk, ck_r33_0 hk, ck_r33_1 hk, ck_is40 hk, ck_r40_0 hk, ck_is102 hk, ck_r102_0 hk, ck_r102_1 hk, ck_r102_2 hk, ck_r102_3 hk, ck_r102_4 hk, ck_r102_5 hk, ck_is103 hk, ck_r103_0 hk, ck_r103_1 hk, ck_is111 hk, ck_r111_0 hk, ck_r111_1 hk, ck_r111_2 hk, ck_r111_3 hk, ck_r111_4 hk, ck_is114 hk, ck_r114_0 hk, ck_r114_1 hk, ck_r114_2 hk, ck_r114_3 hk, ck_r114_4 hk, bCl N k hk8 h2 (by omega), cl]
  · rw [if_neg c] at cl ⊢
    simp (disch := omega) only [pb_its, pb_l2, pb_ll, nI_add, pb_mul, if_true, if_false, pb_bs, pb_b2n, pb_bz0, pb_bz1, pb_10, pb_01, pb_i31, ck_is0 hk, ck_r0_0 hk, ck_r0_1 hk, ck_r0_2 hk, ck_r0_3 hk, ck_r0_4 hk, ck_r0_5 hk, ck_r0_6 hk, ck_r0_7 hk, ck_r0_8 hk, ck_r0_9 hk, ck_is1 hk, ck_r1_0 hk, ck_is3 hk, ck_r3_0 hk, ck_r3_1 hk, ck_is20 hk, ck_r20_0 hk, ck_r20_1 hk, ck_r20_2 hk, ck_is24 hk, ck_r24_1 hk, ck_r24_2 hk, ck_r24_3 hk, ck_r24_4 hk, ck_is33 hk, ck_r33_0 hk, ck_r33_1 hk, ck_is40 hk, ck_r40_0 hk, ck_is102 hk, ck_r102_0 hk, ck_r102_1 hk, ck_r102_2 hk, ck_r102_3 hk, ck_r102_4 hk, ck_r102_5 hk, ck_is103 hk, ck_r103_0 hk, ck_r103_1 hk, ck_is111 hk, ck_r111_0 hk, ck_r111_1 hk, ck_r111_2 hk, ck_r111_3 hk, ck_r111_4 hk, ck_is114 hk, ck_r114_0 hk, ck_r114_1 hk, ck_r114_2 hk, ck_r114_3 hk, ck_r114_4 hk, bCl N k hk8 h2 (by omega), cl]
theorem cb_cheap {N : Nat} {h0 h : ss_Hp} {T : List Nat} {a : List Int32} {fo x : Int32} {RS : List (List ru_C)} {US : List (List Int32)} {I : Nat → Option (List Int32 × Int32 × Int32)} {Z : Nat → List Int32} {k s : Nat} {g : Nat → Nat} (hc : cb_h h0 h T a fo x RS US I Z) (hk8 : k ≤ 8) (h2 : pv a 2 = nI k) (hs : s < k) (hg : ∀ t, t < k → g t ≤ 1000000 ∧ pv (Z 3) t = nI (g t)) (hN : 5000 < N) : mm_P_cheapestBeside N (some 114) (nI s) h = some (nI (cB (wA a s) g k)) := by
  have hk := cb_ck hc
  obtain ⟨v, ⟨⟨bV, bI, bT, bF, bD, bS, bH⟩, ⟨bR0, bR1, bR2, bR3, bR4⟩, ⟨bFo, bX, bNo⟩, ⟨bG0, bG1, bG2, bG3⟩, bOwn, bStr, bBes, bSn, bWl, bNd, bCl⟩⟩ := cb_r hc
  rw [h2] at bS
  have be := bBes s (by omega)
  have l : ss_lp (mm_P_cheapestBeside_b5 N (some 114) (nI s) h) N (nI 1000000, nI 0) = some (nI (cB (wA a s) g k)) := by
    refine pb_lp (fun t => (nI (cB (wA a s) g t), nI t)) k (by omega) (fun t ht => ?_) ?_
    · have hlt : ¬ nI k ≤ nI t := nI_ge ht (by omega)
      obtain ⟨c1, -, -⟩ := cB_s (A := wA a s) (g := g) t
      obtain ⟨g1, g2⟩ := hg t ht
      have z3 := cb_z3 hc (show t < 8 by omega)
      rw [g2] at z3
      unfold mm_P_cheapestBeside_b5 mm_P_cheapestBeside_j50
      rw [cB]
      by_cases ca : wA a s t
      · have ca' : (pv a (30 + s) >>> nI t) &&& nI 1 = nI 1 := ca
        rw [pI_t ca]
        by_cases cl : g t < cB (wA a s) g t
        · have n1 : nI (g t) < nI (cB (wA a s) g t) := nI_lt cl (by omega)
          rw [show min (g t) (cB (wA a s) g t) = g t by omega]
          simp (disch := omega) only [pb_its, pb_l2, pb_ll, nI_add, pb_mul, if_true, if_false, pb_bs, pb_b2n, pb_bz0, pb_bz1, pb_10, pb_01, pb_i31, ck_is0 hk, ck_r0_0 hk, ck_r0_1 hk, ck_r0_2 hk, ck_r0_3 hk, ck_r0_4 hk, ck_r0_5 hk, ck_r0_6 hk, ck_r0_7 hk, ck_r0_8 hk, ck_r0_9 hk, ck_is1 hk, ck_r1_0 hk, ck_is3 hk, ck_r3_0 hk, ck_r3_1 hk, ck_is20 hk, ck_r20_0 hk, ck_r20_1 hk, ck_r20_2 hk, ck_is24 hk, ck_r24_1 hk, ck_r24_2 hk, ck_r24_3 hk, ck_r24_4 hk, ck_is33 hk, ck_r33_0 hk, ck_r33_1 hk, ck_is40 hk, ck_r40_0 hk, ck_is102 hk, ck_r102_0 hk, ck_r102_1 hk, ck_r102_2 hk, ck_r102_3 hk, ck_r102_4 hk, ck_r102_5 hk, ck_is103 hk, ck_r103_0 hk, ck_r103_1 hk, ck_is111 hk, ck_r111_0 hk, ck_r111_1 hk, ck_r111_2 hk, ck_r111_3 hk, ck_r111_4 hk, ck_is114 hk, ck_r114_0 hk, ck_r114_1 hk, ck_r114_2 hk, ck_r114_3 hk, ck_r114_4 hk, bV, bI, bT, bF, bD, bS, bH, bR0, bR1, bR2, bR3, bR4, bFo, bX, bNo, bG0, bG1, bG2, bG3, hlt, be, ca', z3, n1]
        · have n1 : ¬ nI (g t) < nI (cB (wA a s) g t) := nI_nlt (by omega) (by omega)
          rw [show min (g t) (cB (wA a s) g t) = cB (wA a s) g t by omega]
          simp (disch := omega) only [pb_its, pb_l2, pb_ll, nI_add, pb_mul, if_true, if_false, pb_bs, pb_b2n, pb_bz0, pb_bz1, pb_10, pb_01, pb_i31, ck_is0 hk, ck_r0_0 hk, ck_r0_1 hk, ck_r0_2 hk, ck_r0_3 hk, ck_r0_4 hk, ck_r0_5 hk, ck_r0_6 hk, ck_r0_7 hk, ck_r0_8 hk, ck_r0_9 hk, ck_is1 hk, ck_r1_0 hk, ck_is3 hk, ck_r3_0 hk, ck_r3_1 hk, ck_is20 hk, ck_r20_0 hk, ck_r20_1 hk, ck_r20_2 hk, ck_is24 hk, ck_r24_1 hk, ck_r24_2 hk, ck_r24_3 hk, ck_r24_4 hk, ck_is33 hk, ck_r33_0 hk, ck_r33_1 hk, ck_is40 hk, ck_r40_0 hk, ck_is102 hk, ck_r102_0 hk, ck_r102_1 hk, ck_r102_2 hk, ck_r102_3 hk, ck_r102_4 hk, ck_r102_5 hk, ck_is103 hk, ck_r103_0 hk, ck_r103_1 hk, ck_is111 hk, ck_r111_0 hk, ck_r111_1 hk, ck_r111_2 hk, ck_r111_3 hk, ck_r111_4 hk, ck_is114 hk, ck_r114_0 hk, ck_r114_1 hk, ck_r114_2 hk, ck_r114_3 hk, ck_r114_4 hk, bV, bI, bT, bF, bD, bS, bH, bR0, bR1, bR2, bR3, bR4, bFo, bX, bNo, bG0, bG1, bG2, bG3, hlt, be, ca', z3, n1]
      · have ca' : ¬ (pv a (30 + s) >>> nI t) &&& nI 1 = nI 1 := ca
        rw [pI_f ca]
        simp (disch := omega) only [pb_its, pb_l2, pb_ll, nI_add, pb_mul, if_true, if_false, pb_bs, pb_b2n, pb_bz0, pb_bz1, pb_10, pb_01, pb_i31, ck_is0 hk, ck_r0_0 hk, ck_r0_1 hk, ck_r0_2 hk, ck_r0_3 hk, ck_r0_4 hk, ck_r0_5 hk, ck_r0_6 hk, ck_r0_7 hk, ck_r0_8 hk, ck_r0_9 hk, ck_is1 hk, ck_r1_0 hk, ck_is3 hk, ck_r3_0 hk, ck_r3_1 hk, ck_is20 hk, ck_r20_0 hk, ck_r20_1 hk, ck_r20_2 hk, ck_is24 hk, ck_r24_1 hk, ck_r24_2 hk, ck_r24_3 hk, ck_r24_4 hk, ck_is33 hk, ck_r33_0 hk, ck_r33_1 hk, ck_is40 hk, ck_r40_0 hk, ck_is102 hk, ck_r102_0 hk, ck_r102_1 hk, ck_r102_2 hk, ck_r102_3 hk, ck_r102_4 hk, ck_r102_5 hk, ck_is103 hk, ck_r103_0 hk, ck_r103_1 hk, ck_is111 hk, ck_r111_0 hk, ck_r111_1 hk, ck_r111_2 hk, ck_r111_3 hk, ck_r111_4 hk, ck_is114 hk, ck_r114_0 hk, ck_r114_1 hk, ck_r114_2 hk, ck_r114_3 hk, ck_r114_4 hk, bV, bI, bT, bF, bD, bS, bH, bR0, bR1, bR2, bR3, bR4, bFo, bX, bNo, bG0, bG1, bG2, bG3, hlt, be, ca']
    · unfold mm_P_cheapestBeside_b5
      simp (disch := omega) only [pb_its, pb_l2, pb_ll, nI_add, pb_mul, if_true, if_false, pb_bs, pb_b2n, pb_bz0, pb_bz1, pb_10, pb_01, pb_i31, ck_is0 hk, ck_r0_0 hk, ck_r0_1 hk, ck_r0_2 hk, ck_r0_3 hk, ck_r0_4 hk, ck_r0_5 hk, ck_r0_6 hk, ck_r0_7 hk, ck_r0_8 hk, ck_r0_9 hk, ck_is1 hk, ck_r1_0 hk, ck_is3 hk, ck_r3_0 hk, ck_r3_1 hk, ck_is20 hk, ck_r20_0 hk, ck_r20_1 hk, ck_r20_2 hk, ck_is24 hk, ck_r24_1 hk, ck_r24_2 hk, ck_r24_3 hk, ck_r24_4 hk, ck_is33 hk, ck_r33_0 hk, ck_r33_1 hk, ck_is40 hk, ck_r40_0 hk, ck_is102 hk, ck_r102_0 hk, ck_r102_1 hk, ck_r102_2 hk, ck_r102_3 hk, ck_r102_4 hk, ck_r102_5 hk, ck_is103 hk, ck_r103_0 hk, ck_r103_1 hk, ck_is111 hk, ck_r111_0 hk, ck_r111_1 hk, ck_r111_2 hk, ck_r111_3 hk, ck_r111_4 hk, ck_is114 hk, ck_r114_0 hk, ck_r114_1 hk, ck_r114_2 hk, ck_r114_3 hk, ck_r114_4 hk, bV, bI, bT, bF, bD, bS, bH, bR0, bR1, bR2, bR3, bR4, bFo, bX, bNo, bG0, bG1, bG2, bG3, nI_le (Nat.le_refl k) (by omega : k < 2 ^ 31)]
  unfold mm_P_cheapestBeside
  simp (disch := omega) only [pb_its, pb_l2, pb_ll, nI_add, pb_mul, if_true, if_false, pb_bs, pb_b2n, pb_bz0, pb_bz1, pb_10, pb_01, pb_i31, ck_is0 hk, ck_r0_0 hk, ck_r0_1 hk, ck_r0_2 hk, ck_r0_3 hk, ck_r0_4 hk, ck_r0_5 hk, ck_r0_6 hk, ck_r0_7 hk, ck_r0_8 hk, ck_r0_9 hk, ck_is1 hk, ck_r1_0 hk, ck_is3 hk, ck_r3_0 hk, ck_r3_1 hk, ck_is20 hk, ck_r20_0 hk, ck_r20_1 hk, ck_r20_2 hk, ck_is24 hk, ck_r24_1 hk, ck_r24_2 hk, ck_r24_3 hk, ck_r24_4 hk, ck_is33 hk, ck_r33_0 hk, ck_r33_1 hk, ck_is40 hk, ck_r40_0 hk, ck_is102 hk, ck_r102_0 hk, ck_r102_1 hk, ck_r102_2 hk, ck_r102_3 hk, ck_r102_4 hk, ck_r102_5 hk, ck_is103 hk, ck_r103_0 hk, ck_r103_1 hk, ck_is111 hk, ck_r111_0 hk, ck_r111_1 hk, ck_r111_2 hk, ck_r111_3 hk, ck_r111_4 hk, ck_is114 hk, ck_r114_0 hk, ck_r114_1 hk, ck_r114_2 hk, ck_r114_3 hk, ck_r114_4 hk, l]
/-- one round settles one more -/
theorem wR_round {a : List Int32} {k to : Nat} {f g g' : Nat → Nat} (h : wS a k to f) (hk8 : k ≤ 8) (hto : to < k) (hg : ∀ s, s < k → gW f s ≤ g s ∧ g s ≤ 1000000) (hg' : ∀ s, s < k → gW f s ≤ g' s ∧ g' s ≤ g s) (ht : g to = gW f to) (hb : ∀ s t, s < k → t < k → wA a s t → g' s ≤ w6 a s + g t) : ct (fun s => g' s ≠ gW f s) k < ct (fun s => g s ≠ gW f s) k ∨ ct (fun s => g' s ≠ gW f s) k = 0 := by
  rcases ex_least (fun v => ∃ s, s < k ∧ g s ≠ gW f s ∧ gW f s = v) 1000001 with hno | ⟨v, v1, ⟨u, u1, u2, u3⟩, v3⟩
  · right
    refine ct_zero (fun q hq p => ?_)
    have hq1 := hg q hq
    have hq2 := hg' q hq
    exact hno (gW f q) (by have := gW_le (f := f) (s := q); omega) ⟨q, hq, by omega, rfl⟩
  · left
    have hu := hg u u1
    have huto : u ≠ to := fun e => u2 (by rw [e]; exact ht)
    have hfu : f u < 9999 := by
      rcases Nat.lt_or_ge (f u) 9999 with c | c
      · exact c
      · have := gW_i (f := f) (s := u) (by omega)
        omega
    obtain ⟨t, t1, t2, t3, t4, t5⟩ := gW_ex h hk8 hto u1 huto hfu
    have wp : 1 ≤ w6 a u := by rcases w16 a u with ⟨q, q'⟩ | ⟨q, q'⟩ <;> omega
    have hst : g t = gW f t := by
      by_cases c : g t = gW f t
      · exact c
      · exact absurd ⟨t, t1, c, rfl⟩ (v3 (gW f t) (by omega))
    have hsu : g' u = gW f u := by
      have h1 := hb u t u1 t1 t2
      have h2 := hg' u u1
      omega
    refine ct_lt k (fun q hq p => ?_) u1 (fun p => p hsu) u2
    have h1 := hg q hq
    have h2 := hg' q hq
    show g q ≠ gW f q
    have p : g' q ≠ gW f q := p
    omega
theorem cb_costs {N : Nat} {h0 h : ss_Hp} {T : List Nat} {a : List Int32} {fo x : Int32} {RS : List (List ru_C)} {US : List (List Int32)} {I : Nat → Option (List Int32 × Int32 × Int32)} {Z : Nat → List Int32} {k to : Nat} {f : Nat → Nat} (hc : cb_h h0 h T a fo x RS US I Z) (hk8 : k ≤ 8) (h2 : pv a 2 = nI k) (hto : to < k) (hw : wS a k to f) (hN : 5000 < N) : ∃ h' Z', mm_P_spreadCosts N (some 114) (nI to) h = some h' ∧ cb_h h0 h' T a fo x RS US I Z' ∧ ∀ s, s < k → pv (Z' 3) s = nI (gW f s) := by
  have hk := cb_ck hc
  obtain ⟨v, ⟨⟨bV, bI, bT, bF, bD, bS, bH⟩, ⟨bR0, bR1, bR2, bR3, bR4⟩, ⟨bFo, bX, bNo⟩, ⟨bG0, bG1, bG2, bG3⟩, bOwn, bStr, bBes, bSn, bWl, bNd, bCl⟩⟩ := cb_r hc
  rw [h2] at bS
  have k1 := pb_for (body := mm_P_spreadCosts_b13 N (some 114) (nI to) (nI k)) k (fun i s => ∃ h' Z', s = (nI i, h') ∧ cb_h h0 h' T a fo x RS US I Z' ∧ ∀ t, t < i → pv (Z' 3) t = nI (if t = to then w6 a to else 1000000)) (fun h' => ∃ Z', cb_h h0 h' T a fo x RS US I Z' ∧ ∀ t, t < k → pv (Z' 3) t = nI (if t = to then w6 a to else 1000000)) (N := N) (s := (nI 0, h)) (by omega) ⟨h, Z, rfl, hc, fun t ht => by omega⟩ (by
    rintro i s hi ⟨h', Z', rfl, c, r⟩
    left
    have ck := cb_ck c
    have hlt : ¬ nI k ≤ nI i := nI_ge hi (by omega)
    have hl := (cb_len c).2.2.2.1
    have we := cb_weight (N := N) c hk8 h2 hi hN
    obtain ⟨h3, e3, c3⟩ := cb_y3 (i := i) (y := nI (if i = to then w6 a to else 1000000)) c (by omega)
    refine ⟨(nI (i + 1), h3), ?_, h3, _, rfl, c3, fun t ht => ?_⟩
    · unfold mm_P_spreadCosts_b13 mm_P_spreadCosts_j38
      by_cases e : i = to
      · subst e
        rw [if_pos rfl] at e3
        simp (disch := omega) only [pb_its, pb_l2, pb_ll, nI_add, pb_mul, if_true, if_false, pb_bs, pb_b2n, pb_bz0, pb_bz1, pb_10, pb_01, pb_i31, ck_is0 ck, ck_r0_0 ck, ck_r0_1 ck, ck_r0_2 ck, ck_r0_3 ck, ck_r0_4 ck, ck_r0_5 ck, ck_r0_6 ck, ck_r0_7 ck, ck_r0_8 ck, ck_r0_9 ck, ck_is1 ck, ck_r1_0 ck, ck_is3 ck, ck_r3_0 ck, ck_r3_1 ck, ck_is20 ck, ck_r20_0 ck, ck_r20_1 ck, ck_r20_2 ck, ck_is24 ck, ck_r24_1 ck, ck_r24_2 ck, ck_r24_3 ck, ck_r24_4 ck, ck_is33 ck, ck_r33_0 ck, ck_r33_1 ck, ck_is40 ck, ck_r40_0 ck, ck_is102 ck, ck_r102_0 ck, ck_r102_1 ck, ck_r102_2 ck, ck_r102_3 ck, ck_r102_4 ck, ck_r102_5 ck, ck_is103 ck, ck_r103_0 ck, ck_r103_1 ck, ck_is111 ck, ck_r111_0 ck, ck_r111_1 ck, ck_r111_2 ck, ck_r111_3 ck, ck_r111_4 ck, ck_is114 ck, ck_r114_0 ck, ck_r114_1 ck, ck_r114_2 ck, ck_r114_3 ck, ck_r114_4 ck, hlt, we, e3]
      · have e' : ¬ nI i = nI to := fun q => e ((nI_eq (by omega) (by omega)).mp q)
        rw [if_neg e] at e3
        simp (disch := omega) only [pb_its, pb_l2, pb_ll, nI_add, pb_mul, if_true, if_false, pb_bs, pb_b2n, pb_bz0, pb_bz1, pb_10, pb_01, pb_i31, ck_is0 ck, ck_r0_0 ck, ck_r0_1 ck, ck_r0_2 ck, ck_r0_3 ck, ck_r0_4 ck, ck_r0_5 ck, ck_r0_6 ck, ck_r0_7 ck, ck_r0_8 ck, ck_r0_9 ck, ck_is1 ck, ck_r1_0 ck, ck_is3 ck, ck_r3_0 ck, ck_r3_1 ck, ck_is20 ck, ck_r20_0 ck, ck_r20_1 ck, ck_r20_2 ck, ck_is24 ck, ck_r24_1 ck, ck_r24_2 ck, ck_r24_3 ck, ck_r24_4 ck, ck_is33 ck, ck_r33_0 ck, ck_r33_1 ck, ck_is40 ck, ck_r40_0 ck, ck_is102 ck, ck_r102_0 ck, ck_r102_1 ck, ck_r102_2 ck, ck_r102_3 ck, ck_r102_4 ck, ck_r102_5 ck, ck_is103 ck, ck_r103_0 ck, ck_r103_1 ck, ck_is111 ck, ck_r111_0 ck, ck_r111_1 ck, ck_r111_2 ck, ck_r111_3 ck, ck_r111_4 ck, ck_is114 ck, ck_r114_0 ck, ck_r114_1 ck, ck_r114_2 ck, ck_r114_3 ck, ck_r114_4 ck, hlt, e', e3]
    · rw [zs_eq, pv_set (by omega)]
      by_cases e : t = i
      · rw [if_pos e, e]
      · rw [if_neg e]
        exact r t (by omega)) (by
    rintro s ⟨h', Z', rfl, c, r⟩
    refine ⟨h', ?_, Z', c, r⟩
    unfold mm_P_spreadCosts_b13
    simp (disch := omega) only [pb_its, pb_l2, pb_ll, nI_add, pb_mul, if_true, if_false, pb_bs, pb_b2n, pb_bz0, pb_bz1, pb_10, pb_01, pb_i31, nI_le (Nat.le_refl k) (by omega : k < 2 ^ 31)])
  obtain ⟨h1, l1, Z1, c1, r1⟩ := k1
  have gto := gW_to hw
  have w6le : ∀ s, w6 a s ≤ 17 ∧ 1 ≤ w6 a s := fun s => by rcases w16 a s with ⟨q, q'⟩ | ⟨q, q'⟩ <;> omega
  have k2 := pb_for (body := mm_P_spreadCosts_b47 N (some 114) (nI k)) k (fun r s => ∃ h' Z', ∃ g : Nat → Nat, s = (nI r, h') ∧ cb_h h0 h' T a fo x RS US I Z' ∧ (∀ t, t < k → pv (Z' 3) t = nI (g t)) ∧ (∀ s, s < k → gW f s ≤ g s ∧ g s ≤ 1000000) ∧ g to = gW f to ∧ ct (fun s => g s ≠ gW f s) k ≤ k - r) (fun h' => ∃ Z', cb_h h0 h' T a fo x RS US I Z' ∧ ∀ s, s < k → pv (Z' 3) s = nI (gW f s)) (N := N) (s := (nI 0, h1)) (by omega) ⟨h1, Z1, fun t => if t = to then w6 a to else 1000000, rfl, c1, r1, fun s hs => by
      show gW f s ≤ (if s = to then w6 a to else 1000000) ∧ (if s = to then w6 a to else 1000000) ≤ 1000000
      have := gW_le (f := f) (s := s)
      have := w6le to
      by_cases e : s = to
      · rw [if_pos e, e, gto]; omega
      · rw [if_neg e]; omega, by show (if to = to then w6 a to else 1000000) = gW f to; rw [if_pos rfl, gto], by have := ct_le (P := fun s => (if s = to then w6 a to else 1000000) ≠ gW f s) k; omega⟩ (by
    rintro r s hr ⟨h', Z', g, rfl, c, rg, gb, gt, gc⟩
    left
    have hlt : ¬ nI k ≤ nI r := nI_ge hr (by omega)
    have kk := pb_for (body := mm_P_spreadCosts_b55 N (some 114) (nI k) (nI r)) k (fun i s => ∃ h' Z', ∃ g' : Nat → Nat, s = (nI i, h') ∧ cb_h h0 h' T a fo x RS US I Z' ∧ (∀ t, t < k → pv (Z' 3) t = nI (g' t)) ∧ (∀ s, s < k → gW f s ≤ g' s ∧ g' s ≤ g s) ∧ ∀ s t, s < i → t < k → wA a s t → g' s ≤ w6 a s + g t) (fun h' => ∃ Z', ∃ g' : Nat → Nat, cb_h h0 h' T a fo x RS US I Z' ∧ (∀ t, t < k → pv (Z' 3) t = nI (g' t)) ∧ (∀ s, s < k → gW f s ≤ g' s ∧ g' s ≤ g s) ∧ ∀ s t, s < k → t < k → wA a s t → g' s ≤ w6 a s + g t) (N := N) (s := (nI 0, h')) (by omega) ⟨h', Z', g, rfl, c, rg, fun s hs => ⟨(gb s hs).1, Nat.le_refl _⟩, fun s t hs => by omega⟩ (by
      rintro i s hi ⟨h5, Z5, g5, rfl, c5, r5, b5, t5⟩
      left
      have ck := cb_ck c5
      have hlt : ¬ nI k ≤ nI i := nI_ge hi (by omega)
      have hl := (cb_len c5).2.2.2.1
      have g5b : ∀ t, t < k → g5 t ≤ 1000000 := fun t ht => by have := b5 t ht; have := gb t ht; omega
      have we := cb_weight (N := N) c5 hk8 h2 hi hN
      have ch := cb_cheap (N := N) (g := g5) c5 hk8 h2 hi (fun t ht => ⟨g5b t ht, r5 t ht⟩) hN
      obtain ⟨d1, d2, d3⟩ := cB_s (A := wA a i) (g := g5) k
      have z3 := cb_z3 c5 (show i < 8 by omega)
      rw [r5 i hi] at z3
      have wi := w6le i
      have gi := g5b i hi
      obtain ⟨h6, e6, c6⟩ := cb_y3 (i := i) (y := nI (min (g5 i) (w6 a i + cB (wA a i) g5 k))) c5 (by omega)
      have lb : gW f i ≤ min (g5 i) (w6 a i + cB (wA a i) g5 k) := by
        have q1 := (b5 i hi).1
        rcases d3 with q | ⟨t, q2, q3, q4⟩
        · have := gW_le (f := f) (s := i); omega
        · have q5 := gW_tri hw hk8 hto hi q2 q3
          have q6 := (b5 t q2).1
          omega
      refine ⟨(nI (i + 1), h6), ?_, h6, _, fun s => if s = i then min (g5 i) (w6 a i + cB (wA a i) g5 k) else g5 s, rfl, c6, fun t ht => ?_, fun s hs => ?_, fun s t hs ht ha => ?_⟩
      · unfold mm_P_spreadCosts_b55
        by_cases cl : w6 a i + cB (wA a i) g5 k < g5 i
        · have n1 : nI (w6 a i + cB (wA a i) g5 k) < nI (g5 i) := nI_lt cl (by omega)
          rw [show min (g5 i) (w6 a i + cB (wA a i) g5 k) = w6 a i + cB (wA a i) g5 k by omega] at e6
          simp (disch := omega) only [pb_its, pb_l2, pb_ll, nI_add, pb_mul, if_true, if_false, pb_bs, pb_b2n, pb_bz0, pb_bz1, pb_10, pb_01, pb_i31, ck_is0 ck, ck_r0_0 ck, ck_r0_1 ck, ck_r0_2 ck, ck_r0_3 ck, ck_r0_4 ck, ck_r0_5 ck, ck_r0_6 ck, ck_r0_7 ck, ck_r0_8 ck, ck_r0_9 ck, ck_is1 ck, ck_r1_0 ck, ck_is3 ck, ck_r3_0 ck, ck_r3_1 ck, ck_is20 ck, ck_r20_0 ck, ck_r20_1 ck, ck_r20_2 ck, ck_is24 ck, ck_r24_1 ck, ck_r24_2 ck, ck_r24_3 ck, ck_r24_4 ck, ck_is33 ck, ck_r33_0 ck, ck_r33_1 ck, ck_is40 ck, ck_r40_0 ck, ck_is102 ck, ck_r102_0 ck, ck_r102_1 ck, ck_r102_2 ck, ck_r102_3 ck, ck_r102_4 ck, ck_r102_5 ck, ck_is103 ck, ck_r103_0 ck, ck_r103_1 ck, ck_is111 ck, ck_r111_0 ck, ck_r111_1 ck, ck_r111_2 ck, ck_r111_3 ck, ck_r111_4 ck, ck_is114 ck, ck_r114_0 ck, ck_r114_1 ck, ck_r114_2 ck, ck_r114_3 ck, ck_r114_4 ck, hlt, z3, we, ch, n1, e6]
        · have n1 : ¬ nI (w6 a i + cB (wA a i) g5 k) < nI (g5 i) := nI_nlt (by omega) (by omega)
          rw [show min (g5 i) (w6 a i + cB (wA a i) g5 k) = g5 i by omega] at e6
          simp (disch := omega) only [pb_its, pb_l2, pb_ll, nI_add, pb_mul, if_true, if_false, pb_bs, pb_b2n, pb_bz0, pb_bz1, pb_10, pb_01, pb_i31, ck_is0 ck, ck_r0_0 ck, ck_r0_1 ck, ck_r0_2 ck, ck_r0_3 ck, ck_r0_4 ck, ck_r0_5 ck, ck_r0_6 ck, ck_r0_7 ck, ck_r0_8 ck, ck_r0_9 ck, ck_is1 ck, ck_r1_0 ck, ck_is3 ck, ck_r3_0 ck, ck_r3_1 ck, ck_is20 ck, ck_r20_0 ck, ck_r20_1 ck, ck_r20_2 ck, ck_is24 ck, ck_r24_1 ck, ck_r24_2 ck, ck_r24_3 ck, ck_r24_4 ck, ck_is33 ck, ck_r33_0 ck, ck_r33_1 ck, ck_is40 ck, ck_r40_0 ck, ck_is102 ck, ck_r102_0 ck, ck_r102_1 ck, ck_r102_2 ck, ck_r102_3 ck, ck_r102_4 ck, ck_r102_5 ck, ck_is103 ck, ck_r103_0 ck, ck_r103_1 ck, ck_is111 ck, ck_r111_0 ck, ck_r111_1 ck, ck_r111_2 ck, ck_r111_3 ck, ck_r111_4 ck, ck_is114 ck, ck_r114_0 ck, ck_r114_1 ck, ck_r114_2 ck, ck_r114_3 ck, ck_r114_4 ck, hlt, z3, we, ch, n1, e6]
      · rw [zs_eq, pv_set (by omega)]
        show _ = nI (if t = i then min (g5 i) (w6 a i + cB (wA a i) g5 k) else g5 t)
        by_cases e : t = i
        · rw [if_pos e, if_pos e]
        · rw [if_neg e, if_neg e]
          exact r5 t ht
      · show gW f s ≤ (if s = i then min (g5 i) (w6 a i + cB (wA a i) g5 k) else g5 s) ∧ (if s = i then min (g5 i) (w6 a i + cB (wA a i) g5 k) else g5 s) ≤ g s
        by_cases e : s = i
        · rw [if_pos e, e]
          have := (b5 i hi).2
          exact ⟨lb, by omega⟩
        · rw [if_neg e]
          exact b5 s hs
      · show (if s = i then min (g5 i) (w6 a i + cB (wA a i) g5 k) else g5 s) ≤ w6 a s + g t
        by_cases e : s = i
        · rw [e] at ha
          rw [if_pos e, e]
          have := d2 t ht ha
          have := (b5 t ht).2
          omega
        · rw [if_neg e]
          exact t5 s t (by omega) ht ha) (by
      rintro s ⟨h5, Z5, g5, rfl, c5, r5, b5, t5⟩
      refine ⟨h5, ?_, Z5, g5, c5, r5, b5, t5⟩
      unfold mm_P_spreadCosts_b55
      simp (disch := omega) only [pb_its, pb_l2, pb_ll, nI_add, pb_mul, if_true, if_false, pb_bs, pb_b2n, pb_bz0, pb_bz1, pb_10, pb_01, pb_i31, nI_le (Nat.le_refl k) (by omega : k < 2 ^ 31)])
    obtain ⟨h5, l5, Z5, g5, c5, r5, b5, t5⟩ := kk
    refine ⟨(nI (r + 1), h5), ?_, h5, Z5, g5, rfl, c5, r5, fun s hs => ⟨(b5 s hs).1, by have := b5 s hs; have := gb s hs; omega⟩, by have := b5 to hto; omega, ?_⟩
    · unfold mm_P_spreadCosts_b47
      simp (disch := omega) only [pb_its, pb_l2, pb_ll, nI_add, pb_mul, if_true, if_false, pb_bs, pb_b2n, pb_bz0, pb_bz1, pb_10, pb_01, pb_i31, hlt, l5]
    · rcases wR_round hw hk8 hto gb b5 gt t5 with q | q <;> omega) (by
    rintro s ⟨h', Z', g, rfl, c, rg, gb, gt, gc⟩
    have all := ct_all (P := fun s => g s ≠ gW f s) (L := k) (by omega)
    refine ⟨h', ?_, Z', c, fun s hs => ?_⟩
    · unfold mm_P_spreadCosts_b47
      simp (disch := omega) only [pb_its, pb_l2, pb_ll, nI_add, pb_mul, if_true, if_false, pb_bs, pb_b2n, pb_bz0, pb_bz1, pb_10, pb_01, pb_i31, nI_le (Nat.le_refl k) (by omega : k < 2 ^ 31)]
    · rw [rg s hs]
      have := Classical.not_not.mp (all s hs)
      rw [this])
  obtain ⟨h3, l3, Z3, c3, r3⟩ := k2
  refine ⟨h3, Z3, ?_, c3, r3⟩
  unfold mm_P_spreadCosts
  simp (disch := omega) only [pb_its, pb_l2, pb_ll, nI_add, pb_mul, if_true, if_false, pb_bs, pb_b2n, pb_bz0, pb_bz1, pb_10, pb_01, pb_i31, ck_is0 hk, ck_r0_0 hk, ck_r0_1 hk, ck_r0_2 hk, ck_r0_3 hk, ck_r0_4 hk, ck_r0_5 hk, ck_r0_6 hk, ck_r0_7 hk, ck_r0_8 hk, ck_r0_9 hk, ck_is1 hk, ck_r1_0 hk, ck_is3 hk, ck_r3_0 hk, ck_r3_1 hk, ck_is20 hk, ck_r20_0 hk, ck_r20_1 hk, ck_r20_2 hk, ck_is24 hk, ck_r24_1 hk, ck_r24_2 hk, ck_r24_3 hk, ck_r24_4 hk, ck_is33 hk, ck_r33_0 hk, ck_r33_1 hk, ck_is40 hk, ck_r40_0 hk, ck_is102 hk, ck_r102_0 hk, ck_r102_1 hk, ck_r102_2 hk, ck_r102_3 hk, ck_r102_4 hk, ck_r102_5 hk, ck_is103 hk, ck_r103_0 hk, ck_r103_1 hk, ck_is111 hk, ck_r111_0 hk, ck_r111_1 hk, ck_r111_2 hk, ck_r111_3 hk, ck_r111_4 hk, ck_is114 hk, ck_r114_0 hk, ck_r114_1 hk, ck_r114_2 hk, ck_r114_3 hk, ck_r114_4 hk, bV, bI, bT, bF, bD, bS, bH, bR0, bR1, bR2, bR3, bR4, bFo, bX, bNo, bG0, bG1, bG2, bG3, l1, l3]
theorem jx_way {N : Nat} {h h2 : ss_Hp} {z y w : Int32} {T : List Nat} {a : List Int32} {fo x : Int32} {RS : List (List ru_C)} {US : List (List Int32)} {I : Nat → Option (List Int32 × Int32 × Int32)} (hc : cl_h h T a fo x RS US I) (hm : mo_h h2 T a fo x RS US I) (ha : as_ok T a fo x RS US I) (hN : 5000 < N) (hN2 : 100000 < N) : jo (mm_S_way N (some 0) z y w h) (mm_M_way N (some 118) z y w h2) h h2 := by
  obtain ⟨Z, hb⟩ := cb_of hc
  obtain ⟨v, ⟨⟨bV, bI, bT, bF, bD, bS, bH⟩, ⟨bR0, bR1, bR2, bR3, bR4⟩, ⟨bFo, bX, bNo⟩, ⟨bG0, bG1, bG2, bG3⟩, bOwn, bStr, bBes, bSn, bWl, bNd, bCl⟩⟩ := cb_r hb
  have hk := cb_ck hb
  obtain ⟨th, fa, kp, dx, Y, hm1⟩ := mb_of hm
  have hk2 := mb_mk hm1
  have ha0 := ha
  obtain ⟨⟨Ht1, Ht2⟩, ⟨k, m, d, Hsd, Hul, Hu⟩, HRS, Hfo, Hx, HI⟩ := ha
  have Hok := Hsd.1
  obtain ⟨Hl, ⟨Hk, H2⟩, ⟨Hm, H3⟩, ⟨Hd, H10⟩, Hwl, Hbe, How⟩ := Hok
  by_cases cs : ¬ sp_st a z
  · refine jo_no hc hm ha0 (r := -nI 3) ?_ ?_
    · unfold mm_S_way mm_S_way_j25
      simp (disch := omega) only [pb_its, pb_l2, pb_ll, nI_add, pb_mul, if_true, if_false, pb_bs, pb_b2n, pb_bz0, pb_bz1, pb_10, pb_01, pb_i31, ck_is0 hk, ck_r0_0 hk, ck_r0_1 hk, ck_r0_2 hk, ck_r0_3 hk, ck_r0_4 hk, ck_r0_5 hk, ck_r0_6 hk, ck_r0_7 hk, ck_r0_8 hk, ck_r0_9 hk, ck_is1 hk, ck_r1_0 hk, ck_is3 hk, ck_r3_0 hk, ck_r3_1 hk, ck_is20 hk, ck_r20_0 hk, ck_r20_1 hk, ck_r20_2 hk, ck_is24 hk, ck_r24_1 hk, ck_r24_2 hk, ck_r24_3 hk, ck_r24_4 hk, ck_is33 hk, ck_r33_0 hk, ck_r33_1 hk, ck_is40 hk, ck_r40_0 hk, ck_is102 hk, ck_r102_0 hk, ck_r102_1 hk, ck_r102_2 hk, ck_r102_3 hk, ck_r102_4 hk, ck_r102_5 hk, ck_is103 hk, ck_r103_0 hk, ck_r103_1 hk, ck_is111 hk, ck_r111_0 hk, ck_r111_1 hk, ck_r111_2 hk, ck_r111_3 hk, ck_r111_4 hk, ck_is114 hk, ck_r114_0 hk, ck_r114_1 hk, ck_r114_2 hk, ck_r114_3 hk, ck_r114_4 hk, bV, bI, bT, bF, bD, bS, bH, bR0, bR1, bR2, bR3, bR4, bFo, bX, bNo, bG0, bG1, bG2, bG3, cb_isStep hb, pb_cf cs]
    · unfold mm_M_way mm_M_way_j28
      simp (disch := omega) only [pb_its, pb_l2, pb_ll, nI_add, pb_mul, if_true, if_false, pb_bs, pb_b2n, pb_bz0, pb_bz1, pb_10, pb_01, pb_i31, mk_is hk2, mk_g0 hk2, mk_g1 hk2, mk_g2 hk2, mk_g3 hk2, mk_g4 hk2, mk_g5 hk2, mk_g6 hk2, mk_g7 hk2, mk_g8 hk2, mk_g9 hk2, mk_g10 hk2, mk_g11 hk2, mk_g12 hk2, mk_g13 hk2, mk_g14 hk2, mk_g15 hk2, mk_g16 hk2, mk_g17 hk2, mk_g18 hk2, mk_g19 hk2, mk_g20 hk2, mk_g21 hk2, mk_g22 hk2, mb_isStepC hm1 Hl, pb_cf cs]
  replace cs := Classical.not_not.mp cs
  by_cases cy : ¬ sp_st a y
  · refine jo_no hc hm ha0 (r := -nI 3) ?_ ?_
    · unfold mm_S_way mm_S_way_j25
      simp (disch := omega) only [pb_its, pb_l2, pb_ll, nI_add, pb_mul, if_true, if_false, pb_bs, pb_b2n, pb_bz0, pb_bz1, pb_10, pb_01, pb_i31, ck_is0 hk, ck_r0_0 hk, ck_r0_1 hk, ck_r0_2 hk, ck_r0_3 hk, ck_r0_4 hk, ck_r0_5 hk, ck_r0_6 hk, ck_r0_7 hk, ck_r0_8 hk, ck_r0_9 hk, ck_is1 hk, ck_r1_0 hk, ck_is3 hk, ck_r3_0 hk, ck_r3_1 hk, ck_is20 hk, ck_r20_0 hk, ck_r20_1 hk, ck_r20_2 hk, ck_is24 hk, ck_r24_1 hk, ck_r24_2 hk, ck_r24_3 hk, ck_r24_4 hk, ck_is33 hk, ck_r33_0 hk, ck_r33_1 hk, ck_is40 hk, ck_r40_0 hk, ck_is102 hk, ck_r102_0 hk, ck_r102_1 hk, ck_r102_2 hk, ck_r102_3 hk, ck_r102_4 hk, ck_r102_5 hk, ck_is103 hk, ck_r103_0 hk, ck_r103_1 hk, ck_is111 hk, ck_r111_0 hk, ck_r111_1 hk, ck_r111_2 hk, ck_r111_3 hk, ck_r111_4 hk, ck_is114 hk, ck_r114_0 hk, ck_r114_1 hk, ck_r114_2 hk, ck_r114_3 hk, ck_r114_4 hk, bV, bI, bT, bF, bD, bS, bH, bR0, bR1, bR2, bR3, bR4, bFo, bX, bNo, bG0, bG1, bG2, bG3, cb_isStep hb, pb_ct cs, pb_cf cy]
    · unfold mm_M_way mm_M_way_j28
      simp (disch := omega) only [pb_its, pb_l2, pb_ll, nI_add, pb_mul, if_true, if_false, pb_bs, pb_b2n, pb_bz0, pb_bz1, pb_10, pb_01, pb_i31, mk_is hk2, mk_g0 hk2, mk_g1 hk2, mk_g2 hk2, mk_g3 hk2, mk_g4 hk2, mk_g5 hk2, mk_g6 hk2, mk_g7 hk2, mk_g8 hk2, mk_g9 hk2, mk_g10 hk2, mk_g11 hk2, mk_g12 hk2, mk_g13 hk2, mk_g14 hk2, mk_g15 hk2, mk_g16 hk2, mk_g17 hk2, mk_g18 hk2, mk_g19 hk2, mk_g20 hk2, mk_g21 hk2, mk_g22 hk2, mb_isStepC hm1 Hl, pb_ct cs, pb_cf cy]
  replace cy := Classical.not_not.mp cy
  by_cases cw : ¬ sp_in w 0 2
  · refine jo_no hc hm ha0 (r := -nI 3) ?_ ?_
    · unfold mm_S_way mm_S_way_j25
      simp (disch := omega) only [pb_its, pb_l2, pb_ll, nI_add, pb_mul, if_true, if_false, pb_bs, pb_b2n, pb_bz0, pb_bz1, pb_10, pb_01, pb_i31, ck_is0 hk, ck_r0_0 hk, ck_r0_1 hk, ck_r0_2 hk, ck_r0_3 hk, ck_r0_4 hk, ck_r0_5 hk, ck_r0_6 hk, ck_r0_7 hk, ck_r0_8 hk, ck_r0_9 hk, ck_is1 hk, ck_r1_0 hk, ck_is3 hk, ck_r3_0 hk, ck_r3_1 hk, ck_is20 hk, ck_r20_0 hk, ck_r20_1 hk, ck_r20_2 hk, ck_is24 hk, ck_r24_1 hk, ck_r24_2 hk, ck_r24_3 hk, ck_r24_4 hk, ck_is33 hk, ck_r33_0 hk, ck_r33_1 hk, ck_is40 hk, ck_r40_0 hk, ck_is102 hk, ck_r102_0 hk, ck_r102_1 hk, ck_r102_2 hk, ck_r102_3 hk, ck_r102_4 hk, ck_r102_5 hk, ck_is103 hk, ck_r103_0 hk, ck_r103_1 hk, ck_is111 hk, ck_r111_0 hk, ck_r111_1 hk, ck_r111_2 hk, ck_r111_3 hk, ck_r111_4 hk, ck_is114 hk, ck_r114_0 hk, ck_r114_1 hk, ck_r114_2 hk, ck_r114_3 hk, ck_r114_4 hk, bV, bI, bT, bF, bD, bS, bH, bR0, bR1, bR2, bR3, bR4, bFo, bX, bNo, bG0, bG1, bG2, bG3, cb_isStep hb, pb_ct cs, pb_ct cy, pq_withinC, pb_cf cw]
    · unfold mm_M_way mm_M_way_j28
      simp (disch := omega) only [pb_its, pb_l2, pb_ll, nI_add, pb_mul, if_true, if_false, pb_bs, pb_b2n, pb_bz0, pb_bz1, pb_10, pb_01, pb_i31, mk_is hk2, mk_g0 hk2, mk_g1 hk2, mk_g2 hk2, mk_g3 hk2, mk_g4 hk2, mk_g5 hk2, mk_g6 hk2, mk_g7 hk2, mk_g8 hk2, mk_g9 hk2, mk_g10 hk2, mk_g11 hk2, mk_g12 hk2, mk_g13 hk2, mk_g14 hk2, mk_g15 hk2, mk_g16 hk2, mk_g17 hk2, mk_g18 hk2, mk_g19 hk2, mk_g20 hk2, mk_g21 hk2, mk_g22 hk2, mb_isStepC hm1 Hl, pb_ct cs, pb_ct cy, po_inC, pb_cf cw]
  replace cw := Classical.not_not.mp cw
  obtain ⟨from_, hfr, rfl⟩ := sp_st_n Hk H2 cs
  obtain ⟨to, hto, rfl⟩ := sp_st_n Hk H2 cy
  obtain ⟨g1, Y1, f, f1, m1, rf, wi, st⟩ := mb_prices (N := N) (to := to) hm1 Hl Hk H2 hto hN2
  have ws : wS a k to f := ⟨wi, st⟩
  obtain ⟨h1, Z1, e1, c1, r1⟩ := cb_costs (N := N) hb Hk H2 hto ws hN
  have k1 := cb_ck c1
  have k2 := mb_mk m1
  have zc := cb_z3 c1 (show from_ < 8 by omega)
  rw [r1 from_ hfr] at zc
  have zm := mb_z1 m1 (show from_ < 8 by omega)
  rw [rf from_ (by omega)] at zm
  have f9 := wi.1 from_ (by omega)
  have G9 := gW_le (f := f) (s := from_)
  by_cases ff : f from_ < 9999
  · have n1 : nI (f from_) < nI 9999 := nI_lt ff (by omega)
    have gl := gW_lt ff
    have n2 : nI (gW f from_) < nI 1000000 := nI_lt (by omega) (by omega)
    have w8 := wS_8 ws Hk hto hfr ff
    have eG := gW_f ff
    have hw3 : w = nI 0 ∨ w = nI 1 ∨ w = nI 2 := by
      obtain ⟨q, -, hq, e⟩ := sp_in_n cw (by omega) (by omega)
      have : q = 0 ∨ q = 1 ∨ q = 2 := by omega
      rcases this with e' | e' | e' <;> subst e'
      · exact Or.inl e
      · exact Or.inr (Or.inl e)
      · exact Or.inr (Or.inr e)
    rcases hw3 with e | e | e <;> subst e
    · have d1 := pb_sdiv (a := gW f from_) (b := 16) (by omega) (by omega) (by omega)
      have d2 := pb_sdiv (a := f from_) (b := 100) (by omega) (by omega) (by omega)
      rw [show gW f from_ / 16 = f from_ / 100 by omega] at d1
      refine jo_ask ha0 c1 m1 (r := nI (f from_ / 100)) ?_ ?_
      · unfold mm_S_way mm_P_wayOf
        simp (disch := omega) only [pb_its, pb_l2, pb_ll, nI_add, pb_mul, if_true, if_false, pb_bs, pb_b2n, pb_bz0, pb_bz1, pb_10, pb_01, pb_i31, ck_is0 hk, ck_r0_0 hk, ck_r0_1 hk, ck_r0_2 hk, ck_r0_3 hk, ck_r0_4 hk, ck_r0_5 hk, ck_r0_6 hk, ck_r0_7 hk, ck_r0_8 hk, ck_r0_9 hk, ck_is1 hk, ck_r1_0 hk, ck_is3 hk, ck_r3_0 hk, ck_r3_1 hk, ck_is20 hk, ck_r20_0 hk, ck_r20_1 hk, ck_r20_2 hk, ck_is24 hk, ck_r24_1 hk, ck_r24_2 hk, ck_r24_3 hk, ck_r24_4 hk, ck_is33 hk, ck_r33_0 hk, ck_r33_1 hk, ck_is40 hk, ck_r40_0 hk, ck_is102 hk, ck_r102_0 hk, ck_r102_1 hk, ck_r102_2 hk, ck_r102_3 hk, ck_r102_4 hk, ck_r102_5 hk, ck_is103 hk, ck_r103_0 hk, ck_r103_1 hk, ck_is111 hk, ck_r111_0 hk, ck_r111_1 hk, ck_r111_2 hk, ck_r111_3 hk, ck_r111_4 hk, ck_is114 hk, ck_r114_0 hk, ck_r114_1 hk, ck_r114_2 hk, ck_r114_3 hk, ck_r114_4 hk, bV, bI, bT, bF, bD, bS, bH, bR0, bR1, bR2, bR3, bR4, bFo, bX, bNo, bG0, bG1, bG2, bG3, cb_isStep hb, pb_ct cs, pb_ct cy, pq_withinC, pb_ct cw, e1, ck_is0 k1, ck_r0_0 k1, ck_r0_1 k1, ck_r0_2 k1, ck_r0_3 k1, ck_r0_4 k1, ck_r0_5 k1, ck_r0_6 k1, ck_r0_7 k1, ck_r0_8 k1, ck_r0_9 k1, ck_is1 k1, ck_r1_0 k1, ck_is3 k1, ck_r3_0 k1, ck_r3_1 k1, ck_is20 k1, ck_r20_0 k1, ck_r20_1 k1, ck_r20_2 k1, ck_is24 k1, ck_r24_1 k1, ck_r24_2 k1, ck_r24_3 k1, ck_r24_4 k1, ck_is33 k1, ck_r33_0 k1, ck_r33_1 k1, ck_is40 k1, ck_r40_0 k1, ck_is102 k1, ck_r102_0 k1, ck_r102_1 k1, ck_r102_2 k1, ck_r102_3 k1, ck_r102_4 k1, ck_r102_5 k1, ck_is103 k1, ck_r103_0 k1, ck_r103_1 k1, ck_is111 k1, ck_r111_0 k1, ck_r111_1 k1, ck_r111_2 k1, ck_r111_3 k1, ck_r111_4 k1, ck_is114 k1, ck_r114_0 k1, ck_r114_1 k1, ck_r114_2 k1, ck_r114_3 k1, ck_r114_4 k1, zc, n2, d1]
      · unfold mm_M_way mm_M_way_j98
        simp (disch := omega) only [pb_its, pb_l2, pb_ll, nI_add, pb_mul, if_true, if_false, pb_bs, pb_b2n, pb_bz0, pb_bz1, pb_10, pb_01, pb_i31, mk_is hk2, mk_g0 hk2, mk_g1 hk2, mk_g2 hk2, mk_g3 hk2, mk_g4 hk2, mk_g5 hk2, mk_g6 hk2, mk_g7 hk2, mk_g8 hk2, mk_g9 hk2, mk_g10 hk2, mk_g11 hk2, mk_g12 hk2, mk_g13 hk2, mk_g14 hk2, mk_g15 hk2, mk_g16 hk2, mk_g17 hk2, mk_g18 hk2, mk_g19 hk2, mk_g20 hk2, mk_g21 hk2, mk_g22 hk2, mb_isStepC hm1 Hl, pb_ct cs, pb_ct cy, po_inC, pb_ct cw, f1, mk_is k2, mk_g0 k2, mk_g1 k2, mk_g2 k2, mk_g3 k2, mk_g4 k2, mk_g5 k2, mk_g6 k2, mk_g7 k2, mk_g8 k2, mk_g9 k2, mk_g10 k2, mk_g11 k2, mk_g12 k2, mk_g13 k2, mk_g14 k2, mk_g15 k2, mk_g16 k2, mk_g17 k2, mk_g18 k2, mk_g19 k2, mk_g20 k2, mk_g21 k2, mk_g22 k2, zm, n1, d2]
    · have d1 := pb_srem (a := gW f from_) (b := 16) (by omega) (by omega) (by omega)
      have d2 := pb_srem (a := f from_) (b := 100) (by omega) (by omega) (by omega)
      rw [show gW f from_ % 16 = f from_ % 100 by omega] at d1
      refine jo_ask ha0 c1 m1 (r := nI (f from_ % 100)) ?_ ?_
      · unfold mm_S_way mm_P_wayOf
        simp (disch := omega) only [pb_its, pb_l2, pb_ll, nI_add, pb_mul, if_true, if_false, pb_bs, pb_b2n, pb_bz0, pb_bz1, pb_10, pb_01, pb_i31, ck_is0 hk, ck_r0_0 hk, ck_r0_1 hk, ck_r0_2 hk, ck_r0_3 hk, ck_r0_4 hk, ck_r0_5 hk, ck_r0_6 hk, ck_r0_7 hk, ck_r0_8 hk, ck_r0_9 hk, ck_is1 hk, ck_r1_0 hk, ck_is3 hk, ck_r3_0 hk, ck_r3_1 hk, ck_is20 hk, ck_r20_0 hk, ck_r20_1 hk, ck_r20_2 hk, ck_is24 hk, ck_r24_1 hk, ck_r24_2 hk, ck_r24_3 hk, ck_r24_4 hk, ck_is33 hk, ck_r33_0 hk, ck_r33_1 hk, ck_is40 hk, ck_r40_0 hk, ck_is102 hk, ck_r102_0 hk, ck_r102_1 hk, ck_r102_2 hk, ck_r102_3 hk, ck_r102_4 hk, ck_r102_5 hk, ck_is103 hk, ck_r103_0 hk, ck_r103_1 hk, ck_is111 hk, ck_r111_0 hk, ck_r111_1 hk, ck_r111_2 hk, ck_r111_3 hk, ck_r111_4 hk, ck_is114 hk, ck_r114_0 hk, ck_r114_1 hk, ck_r114_2 hk, ck_r114_3 hk, ck_r114_4 hk, bV, bI, bT, bF, bD, bS, bH, bR0, bR1, bR2, bR3, bR4, bFo, bX, bNo, bG0, bG1, bG2, bG3, cb_isStep hb, pb_ct cs, pb_ct cy, pq_withinC, pb_ct cw, e1, ck_is0 k1, ck_r0_0 k1, ck_r0_1 k1, ck_r0_2 k1, ck_r0_3 k1, ck_r0_4 k1, ck_r0_5 k1, ck_r0_6 k1, ck_r0_7 k1, ck_r0_8 k1, ck_r0_9 k1, ck_is1 k1, ck_r1_0 k1, ck_is3 k1, ck_r3_0 k1, ck_r3_1 k1, ck_is20 k1, ck_r20_0 k1, ck_r20_1 k1, ck_r20_2 k1, ck_is24 k1, ck_r24_1 k1, ck_r24_2 k1, ck_r24_3 k1, ck_r24_4 k1, ck_is33 k1, ck_r33_0 k1, ck_r33_1 k1, ck_is40 k1, ck_r40_0 k1, ck_is102 k1, ck_r102_0 k1, ck_r102_1 k1, ck_r102_2 k1, ck_r102_3 k1, ck_r102_4 k1, ck_r102_5 k1, ck_is103 k1, ck_r103_0 k1, ck_r103_1 k1, ck_is111 k1, ck_r111_0 k1, ck_r111_1 k1, ck_r111_2 k1, ck_r111_3 k1, ck_r111_4 k1, ck_is114 k1, ck_r114_0 k1, ck_r114_1 k1, ck_r114_2 k1, ck_r114_3 k1, ck_r114_4 k1, zc, n2, d1]
      · unfold mm_M_way mm_M_way_j98
        simp (disch := omega) only [pb_its, pb_l2, pb_ll, nI_add, pb_mul, if_true, if_false, pb_bs, pb_b2n, pb_bz0, pb_bz1, pb_10, pb_01, pb_i31, mk_is hk2, mk_g0 hk2, mk_g1 hk2, mk_g2 hk2, mk_g3 hk2, mk_g4 hk2, mk_g5 hk2, mk_g6 hk2, mk_g7 hk2, mk_g8 hk2, mk_g9 hk2, mk_g10 hk2, mk_g11 hk2, mk_g12 hk2, mk_g13 hk2, mk_g14 hk2, mk_g15 hk2, mk_g16 hk2, mk_g17 hk2, mk_g18 hk2, mk_g19 hk2, mk_g20 hk2, mk_g21 hk2, mk_g22 hk2, mb_isStepC hm1 Hl, pb_ct cs, pb_ct cy, po_inC, pb_ct cw, f1, mk_is k2, mk_g0 k2, mk_g1 k2, mk_g2 k2, mk_g3 k2, mk_g4 k2, mk_g5 k2, mk_g6 k2, mk_g7 k2, mk_g8 k2, mk_g9 k2, mk_g10 k2, mk_g11 k2, mk_g12 k2, mk_g13 k2, mk_g14 k2, mk_g15 k2, mk_g16 k2, mk_g17 k2, mk_g18 k2, mk_g19 k2, mk_g20 k2, mk_g21 k2, mk_g22 k2, zm, n1, d2]
    · by_cases eft : from_ = to
      · subst eft
        refine jo_ask ha0 c1 m1 (r := -nI 1) ?_ ?_
        · unfold mm_S_way mm_P_wayOf mm_P_wayOf_j62
          simp (disch := omega) only [pb_its, pb_l2, pb_ll, nI_add, pb_mul, if_true, if_false, pb_bs, pb_b2n, pb_bz0, pb_bz1, pb_10, pb_01, pb_i31, ck_is0 hk, ck_r0_0 hk, ck_r0_1 hk, ck_r0_2 hk, ck_r0_3 hk, ck_r0_4 hk, ck_r0_5 hk, ck_r0_6 hk, ck_r0_7 hk, ck_r0_8 hk, ck_r0_9 hk, ck_is1 hk, ck_r1_0 hk, ck_is3 hk, ck_r3_0 hk, ck_r3_1 hk, ck_is20 hk, ck_r20_0 hk, ck_r20_1 hk, ck_r20_2 hk, ck_is24 hk, ck_r24_1 hk, ck_r24_2 hk, ck_r24_3 hk, ck_r24_4 hk, ck_is33 hk, ck_r33_0 hk, ck_r33_1 hk, ck_is40 hk, ck_r40_0 hk, ck_is102 hk, ck_r102_0 hk, ck_r102_1 hk, ck_r102_2 hk, ck_r102_3 hk, ck_r102_4 hk, ck_r102_5 hk, ck_is103 hk, ck_r103_0 hk, ck_r103_1 hk, ck_is111 hk, ck_r111_0 hk, ck_r111_1 hk, ck_r111_2 hk, ck_r111_3 hk, ck_r111_4 hk, ck_is114 hk, ck_r114_0 hk, ck_r114_1 hk, ck_r114_2 hk, ck_r114_3 hk, ck_r114_4 hk, bV, bI, bT, bF, bD, bS, bH, bR0, bR1, bR2, bR3, bR4, bFo, bX, bNo, bG0, bG1, bG2, bG3, cb_isStep hb, pb_ct cs, pb_ct cy, pq_withinC, pb_ct cw, e1, ck_is0 k1, ck_r0_0 k1, ck_r0_1 k1, ck_r0_2 k1, ck_r0_3 k1, ck_r0_4 k1, ck_r0_5 k1, ck_r0_6 k1, ck_r0_7 k1, ck_r0_8 k1, ck_r0_9 k1, ck_is1 k1, ck_r1_0 k1, ck_is3 k1, ck_r3_0 k1, ck_r3_1 k1, ck_is20 k1, ck_r20_0 k1, ck_r20_1 k1, ck_r20_2 k1, ck_is24 k1, ck_r24_1 k1, ck_r24_2 k1, ck_r24_3 k1, ck_r24_4 k1, ck_is33 k1, ck_r33_0 k1, ck_r33_1 k1, ck_is40 k1, ck_r40_0 k1, ck_is102 k1, ck_r102_0 k1, ck_r102_1 k1, ck_r102_2 k1, ck_r102_3 k1, ck_r102_4 k1, ck_r102_5 k1, ck_is103 k1, ck_r103_0 k1, ck_r103_1 k1, ck_is111 k1, ck_r111_0 k1, ck_r111_1 k1, ck_r111_2 k1, ck_r111_3 k1, ck_r111_4 k1, ck_is114 k1, ck_r114_0 k1, ck_r114_1 k1, ck_r114_2 k1, ck_r114_3 k1, ck_r114_4 k1, zc, n2, pb_nn]
        · unfold mm_M_way mm_M_way_j98
          simp (disch := omega) only [pb_its, pb_l2, pb_ll, nI_add, pb_mul, if_true, if_false, pb_bs, pb_b2n, pb_bz0, pb_bz1, pb_10, pb_01, pb_i31, mk_is hk2, mk_g0 hk2, mk_g1 hk2, mk_g2 hk2, mk_g3 hk2, mk_g4 hk2, mk_g5 hk2, mk_g6 hk2, mk_g7 hk2, mk_g8 hk2, mk_g9 hk2, mk_g10 hk2, mk_g11 hk2, mk_g12 hk2, mk_g13 hk2, mk_g14 hk2, mk_g15 hk2, mk_g16 hk2, mk_g17 hk2, mk_g18 hk2, mk_g19 hk2, mk_g20 hk2, mk_g21 hk2, mk_g22 hk2, mb_isStepC hm1 Hl, pb_ct cs, pb_ct cy, po_inC, pb_ct cw, f1, mk_is k2, mk_g0 k2, mk_g1 k2, mk_g2 k2, mk_g3 k2, mk_g4 k2, mk_g5 k2, mk_g6 k2, mk_g7 k2, mk_g8 k2, mk_g9 k2, mk_g10 k2, mk_g11 k2, mk_g12 k2, mk_g13 k2, mk_g14 k2, mk_g15 k2, mk_g16 k2, mk_g17 k2, mk_g18 k2, mk_g19 k2, mk_g20 k2, mk_g21 k2, mk_g22 k2, zm, n1, pb_nn]
      · have nft : ¬ nI from_ = nI to := fun q => eft ((nI_eq (by omega) (by omega)).mp q)
        obtain ⟨t, t1, t2, t3, t4, t5⟩ := gW_ex ws Hk hto hfr eft ff
        have nt := mb_nextTo (N := N) (f := f) m1 Hl Hk H2 (show from_ < 8 by omega) (fun t ht => ⟨wi.1 t ht, rf t ht⟩) hN
        obtain ⟨n3, n4⟩ := nT_s (A := wA a from_) (f := f) k
        cases hn : nT (wA a from_) f k with
        | none => exact absurd t3 (n3 hn t t1 t2)
        | some b =>
          rw [hn] at nt
          have nt : mm_M_nextTo N (some 118) (nI from_) g1 = some (nI b) := nt
          obtain ⟨p1, p2, p3, p4, p5⟩ := n4 b hn
          have q1 := p4 t t1 t2 t3
          have q2 := st from_ b hfr p1 p2 p3
          have fbt : f b = f t := by omega
          have Gb : gW f b = gW f t := by rw [gW_f p3, gW_f t3, fbt]
          have we := cb_weight (N := N) c1 Hk H2 hfr hN
          have sbr : nI (gW f from_) - nI (w6 a from_) = nI (gW f b) := by
            rw [pb_subn (by omega)]
            congr 1
            omega
          obtain ⟨v1, ⟨⟨bVx, bIx, bTx, bFx, bDx, bSx, bHx⟩, ⟨bR0x, bR1x, bR2x, bR3x, bR4x⟩, ⟨bFox, bXx, bNox⟩, ⟨bG0x, bG1x, bG2x, bG3x⟩, bOwnx, bStrx, bBesx, bSnx, bWlx, bNdx, bClx⟩⟩ := cb_r c1
          rw [H2] at bSx
          have be := bBesx from_ (by omega)
          have l1 : ss_lp (mm_P_nextOnWay_b15 N (some 114) (nI from_) (nI (gW f b)) h1) N (nI 0) = some (.inr (nI b)) := by
            refine pb_lp (fun s => nI s) b (by omega) (fun s hs => ?_) ?_
            · have hlt : ¬ nI k ≤ nI s := nI_ge (by omega) (by omega)
              have zs := cb_z3 c1 (show s < 8 by omega)
              rw [r1 s (by omega)] at zs
              unfold mm_P_nextOnWay_b15 mm_P_nextOnWay_j61
              by_cases ca : wA a from_ s
              · have ca' : (pv a (30 + from_) >>> nI s) &&& nI 1 = nI 1 := ca
                have ne : ¬ nI (gW f s) = nI (gW f b) := fun q => by
                  have e := (nI_eq (by have := gW_le (f := f) (s := s); omega) (by have := gW_le (f := f) (s := b); omega)).mp q
                  have gb := gW_lt p3
                  have w8b := wS_8 ws Hk hto p1 p3
                  by_cases fs : f s < 9999
                  · have := p5 s hs ca fs
                    have w8s := wS_8 ws Hk hto (show s < k by omega) fs
                    rw [gW_f fs, gW_f p3] at e
                    omega
                  · rw [gW_i fs] at e
                    omega
                simp (disch := omega) only [pb_its, pb_l2, pb_ll, nI_add, pb_mul, if_true, if_false, pb_bs, pb_b2n, pb_bz0, pb_bz1, pb_10, pb_01, pb_i31, ck_is0 k1, ck_r0_0 k1, ck_r0_1 k1, ck_r0_2 k1, ck_r0_3 k1, ck_r0_4 k1, ck_r0_5 k1, ck_r0_6 k1, ck_r0_7 k1, ck_r0_8 k1, ck_r0_9 k1, ck_is1 k1, ck_r1_0 k1, ck_is3 k1, ck_r3_0 k1, ck_r3_1 k1, ck_is20 k1, ck_r20_0 k1, ck_r20_1 k1, ck_r20_2 k1, ck_is24 k1, ck_r24_1 k1, ck_r24_2 k1, ck_r24_3 k1, ck_r24_4 k1, ck_is33 k1, ck_r33_0 k1, ck_r33_1 k1, ck_is40 k1, ck_r40_0 k1, ck_is102 k1, ck_r102_0 k1, ck_r102_1 k1, ck_r102_2 k1, ck_r102_3 k1, ck_r102_4 k1, ck_r102_5 k1, ck_is103 k1, ck_r103_0 k1, ck_r103_1 k1, ck_is111 k1, ck_r111_0 k1, ck_r111_1 k1, ck_r111_2 k1, ck_r111_3 k1, ck_r111_4 k1, ck_is114 k1, ck_r114_0 k1, ck_r114_1 k1, ck_r114_2 k1, ck_r114_3 k1, ck_r114_4 k1, bVx, bIx, bTx, bFx, bDx, bSx, bHx, bR0x, bR1x, bR2x, bR3x, bR4x, bFox, bXx, bNox, bG0x, bG1x, bG2x, bG3x, hlt, be, ca', zs, ne]
              · have ca' : ¬ (pv a (30 + from_) >>> nI s) &&& nI 1 = nI 1 := ca
                simp (disch := omega) only [pb_its, pb_l2, pb_ll, nI_add, pb_mul, if_true, if_false, pb_bs, pb_b2n, pb_bz0, pb_bz1, pb_10, pb_01, pb_i31, ck_is0 k1, ck_r0_0 k1, ck_r0_1 k1, ck_r0_2 k1, ck_r0_3 k1, ck_r0_4 k1, ck_r0_5 k1, ck_r0_6 k1, ck_r0_7 k1, ck_r0_8 k1, ck_r0_9 k1, ck_is1 k1, ck_r1_0 k1, ck_is3 k1, ck_r3_0 k1, ck_r3_1 k1, ck_is20 k1, ck_r20_0 k1, ck_r20_1 k1, ck_r20_2 k1, ck_is24 k1, ck_r24_1 k1, ck_r24_2 k1, ck_r24_3 k1, ck_r24_4 k1, ck_is33 k1, ck_r33_0 k1, ck_r33_1 k1, ck_is40 k1, ck_r40_0 k1, ck_is102 k1, ck_r102_0 k1, ck_r102_1 k1, ck_r102_2 k1, ck_r102_3 k1, ck_r102_4 k1, ck_r102_5 k1, ck_is103 k1, ck_r103_0 k1, ck_r103_1 k1, ck_is111 k1, ck_r111_0 k1, ck_r111_1 k1, ck_r111_2 k1, ck_r111_3 k1, ck_r111_4 k1, ck_is114 k1, ck_r114_0 k1, ck_r114_1 k1, ck_r114_2 k1, ck_r114_3 k1, ck_r114_4 k1, bVx, bIx, bTx, bFx, bDx, bSx, bHx, bR0x, bR1x, bR2x, bR3x, bR4x, bFox, bXx, bNox, bG0x, bG1x, bG2x, bG3x, hlt, be, ca']
            · have hlt : ¬ nI k ≤ nI b := nI_ge p1 (by omega)
              have zs := cb_z3 c1 (show b < 8 by omega)
              rw [r1 b p1] at zs
              have ca' : (pv a (30 + from_) >>> nI b) &&& nI 1 = nI 1 := p2
              unfold mm_P_nextOnWay_b15
              simp (disch := omega) only [pb_its, pb_l2, pb_ll, nI_add, pb_mul, if_true, if_false, pb_bs, pb_b2n, pb_bz0, pb_bz1, pb_10, pb_01, pb_i31, ck_is0 k1, ck_r0_0 k1, ck_r0_1 k1, ck_r0_2 k1, ck_r0_3 k1, ck_r0_4 k1, ck_r0_5 k1, ck_r0_6 k1, ck_r0_7 k1, ck_r0_8 k1, ck_r0_9 k1, ck_is1 k1, ck_r1_0 k1, ck_is3 k1, ck_r3_0 k1, ck_r3_1 k1, ck_is20 k1, ck_r20_0 k1, ck_r20_1 k1, ck_r20_2 k1, ck_is24 k1, ck_r24_1 k1, ck_r24_2 k1, ck_r24_3 k1, ck_r24_4 k1, ck_is33 k1, ck_r33_0 k1, ck_r33_1 k1, ck_is40 k1, ck_r40_0 k1, ck_is102 k1, ck_r102_0 k1, ck_r102_1 k1, ck_r102_2 k1, ck_r102_3 k1, ck_r102_4 k1, ck_r102_5 k1, ck_is103 k1, ck_r103_0 k1, ck_r103_1 k1, ck_is111 k1, ck_r111_0 k1, ck_r111_1 k1, ck_r111_2 k1, ck_r111_3 k1, ck_r111_4 k1, ck_is114 k1, ck_r114_0 k1, ck_r114_1 k1, ck_r114_2 k1, ck_r114_3 k1, ck_r114_4 k1, bVx, bIx, bTx, bFx, bDx, bSx, bHx, bR0x, bR1x, bR2x, bR3x, bR4x, bFox, bXx, bNox, bG0x, bG1x, bG2x, bG3x, hlt, be, ca', zs]
          refine jo_ask ha0 c1 m1 (r := nI b) ?_ ?_
          · unfold mm_S_way mm_P_wayOf mm_P_wayOf_j62 mm_P_nextOnWay
            simp (disch := omega) only [pb_its, pb_l2, pb_ll, nI_add, pb_mul, if_true, if_false, pb_bs, pb_b2n, pb_bz0, pb_bz1, pb_10, pb_01, pb_i31, ck_is0 hk, ck_r0_0 hk, ck_r0_1 hk, ck_r0_2 hk, ck_r0_3 hk, ck_r0_4 hk, ck_r0_5 hk, ck_r0_6 hk, ck_r0_7 hk, ck_r0_8 hk, ck_r0_9 hk, ck_is1 hk, ck_r1_0 hk, ck_is3 hk, ck_r3_0 hk, ck_r3_1 hk, ck_is20 hk, ck_r20_0 hk, ck_r20_1 hk, ck_r20_2 hk, ck_is24 hk, ck_r24_1 hk, ck_r24_2 hk, ck_r24_3 hk, ck_r24_4 hk, ck_is33 hk, ck_r33_0 hk, ck_r33_1 hk, ck_is40 hk, ck_r40_0 hk, ck_is102 hk, ck_r102_0 hk, ck_r102_1 hk, ck_r102_2 hk, ck_r102_3 hk, ck_r102_4 hk, ck_r102_5 hk, ck_is103 hk, ck_r103_0 hk, ck_r103_1 hk, ck_is111 hk, ck_r111_0 hk, ck_r111_1 hk, ck_r111_2 hk, ck_r111_3 hk, ck_r111_4 hk, ck_is114 hk, ck_r114_0 hk, ck_r114_1 hk, ck_r114_2 hk, ck_r114_3 hk, ck_r114_4 hk, bV, bI, bT, bF, bD, bS, bH, bR0, bR1, bR2, bR3, bR4, bFo, bX, bNo, bG0, bG1, bG2, bG3, cb_isStep hb, pb_ct cs, pb_ct cy, pq_withinC, pb_ct cw, e1, ck_is0 k1, ck_r0_0 k1, ck_r0_1 k1, ck_r0_2 k1, ck_r0_3 k1, ck_r0_4 k1, ck_r0_5 k1, ck_r0_6 k1, ck_r0_7 k1, ck_r0_8 k1, ck_r0_9 k1, ck_is1 k1, ck_r1_0 k1, ck_is3 k1, ck_r3_0 k1, ck_r3_1 k1, ck_is20 k1, ck_r20_0 k1, ck_r20_1 k1, ck_r20_2 k1, ck_is24 k1, ck_r24_1 k1, ck_r24_2 k1, ck_r24_3 k1, ck_r24_4 k1, ck_is33 k1, ck_r33_0 k1, ck_r33_1 k1, ck_is40 k1, ck_r40_0 k1, ck_is102 k1, ck_r102_0 k1, ck_r102_1 k1, ck_r102_2 k1, ck_r102_3 k1, ck_r102_4 k1, ck_r102_5 k1, ck_is103 k1, ck_r103_0 k1, ck_r103_1 k1, ck_is111 k1, ck_r111_0 k1, ck_r111_1 k1, ck_r111_2 k1, ck_r111_3 k1, ck_r111_4 k1, ck_is114 k1, ck_r114_0 k1, ck_r114_1 k1, ck_r114_2 k1, ck_r114_3 k1, ck_r114_4 k1, zc, n2, pb_nn, nft, we, sbr, l1]
          · unfold mm_M_way mm_M_way_j98
            simp (disch := omega) only [pb_its, pb_l2, pb_ll, nI_add, pb_mul, if_true, if_false, pb_bs, pb_b2n, pb_bz0, pb_bz1, pb_10, pb_01, pb_i31, mk_is hk2, mk_g0 hk2, mk_g1 hk2, mk_g2 hk2, mk_g3 hk2, mk_g4 hk2, mk_g5 hk2, mk_g6 hk2, mk_g7 hk2, mk_g8 hk2, mk_g9 hk2, mk_g10 hk2, mk_g11 hk2, mk_g12 hk2, mk_g13 hk2, mk_g14 hk2, mk_g15 hk2, mk_g16 hk2, mk_g17 hk2, mk_g18 hk2, mk_g19 hk2, mk_g20 hk2, mk_g21 hk2, mk_g22 hk2, mb_isStepC hm1 Hl, pb_ct cs, pb_ct cy, po_inC, pb_ct cw, f1, mk_is k2, mk_g0 k2, mk_g1 k2, mk_g2 k2, mk_g3 k2, mk_g4 k2, mk_g5 k2, mk_g6 k2, mk_g7 k2, mk_g8 k2, mk_g9 k2, mk_g10 k2, mk_g11 k2, mk_g12 k2, mk_g13 k2, mk_g14 k2, mk_g15 k2, mk_g16 k2, mk_g17 k2, mk_g18 k2, mk_g19 k2, mk_g20 k2, mk_g21 k2, mk_g22 k2, zm, n1, pb_nn, nft, nt]
  · have n1 : ¬ nI (f from_) < nI 9999 := nI_nlt (by omega) (by omega)
    rw [gW_i ff] at zc
    have n2 : ¬ nI 1000000 < nI 1000000 := Int32.lt_irrefl
    refine jo_ask ha0 c1 m1 (r := -nI 2) ?_ ?_
    · unfold mm_S_way mm_P_wayOf
      simp (disch := omega) only [pb_its, pb_l2, pb_ll, nI_add, pb_mul, if_true, if_false, pb_bs, pb_b2n, pb_bz0, pb_bz1, pb_10, pb_01, pb_i31, ck_is0 hk, ck_r0_0 hk, ck_r0_1 hk, ck_r0_2 hk, ck_r0_3 hk, ck_r0_4 hk, ck_r0_5 hk, ck_r0_6 hk, ck_r0_7 hk, ck_r0_8 hk, ck_r0_9 hk, ck_is1 hk, ck_r1_0 hk, ck_is3 hk, ck_r3_0 hk, ck_r3_1 hk, ck_is20 hk, ck_r20_0 hk, ck_r20_1 hk, ck_r20_2 hk, ck_is24 hk, ck_r24_1 hk, ck_r24_2 hk, ck_r24_3 hk, ck_r24_4 hk, ck_is33 hk, ck_r33_0 hk, ck_r33_1 hk, ck_is40 hk, ck_r40_0 hk, ck_is102 hk, ck_r102_0 hk, ck_r102_1 hk, ck_r102_2 hk, ck_r102_3 hk, ck_r102_4 hk, ck_r102_5 hk, ck_is103 hk, ck_r103_0 hk, ck_r103_1 hk, ck_is111 hk, ck_r111_0 hk, ck_r111_1 hk, ck_r111_2 hk, ck_r111_3 hk, ck_r111_4 hk, ck_is114 hk, ck_r114_0 hk, ck_r114_1 hk, ck_r114_2 hk, ck_r114_3 hk, ck_r114_4 hk, bV, bI, bT, bF, bD, bS, bH, bR0, bR1, bR2, bR3, bR4, bFo, bX, bNo, bG0, bG1, bG2, bG3, cb_isStep hb, pb_ct cs, pb_ct cy, pq_withinC, pb_ct cw, e1, ck_is0 k1, ck_r0_0 k1, ck_r0_1 k1, ck_r0_2 k1, ck_r0_3 k1, ck_r0_4 k1, ck_r0_5 k1, ck_r0_6 k1, ck_r0_7 k1, ck_r0_8 k1, ck_r0_9 k1, ck_is1 k1, ck_r1_0 k1, ck_is3 k1, ck_r3_0 k1, ck_r3_1 k1, ck_is20 k1, ck_r20_0 k1, ck_r20_1 k1, ck_r20_2 k1, ck_is24 k1, ck_r24_1 k1, ck_r24_2 k1, ck_r24_3 k1, ck_r24_4 k1, ck_is33 k1, ck_r33_0 k1, ck_r33_1 k1, ck_is40 k1, ck_r40_0 k1, ck_is102 k1, ck_r102_0 k1, ck_r102_1 k1, ck_r102_2 k1, ck_r102_3 k1, ck_r102_4 k1, ck_r102_5 k1, ck_is103 k1, ck_r103_0 k1, ck_r103_1 k1, ck_is111 k1, ck_r111_0 k1, ck_r111_1 k1, ck_r111_2 k1, ck_r111_3 k1, ck_r111_4 k1, ck_is114 k1, ck_r114_0 k1, ck_r114_1 k1, ck_r114_2 k1, ck_r114_3 k1, ck_r114_4 k1, zc, n2]
    · unfold mm_M_way
      simp (disch := omega) only [pb_its, pb_l2, pb_ll, nI_add, pb_mul, if_true, if_false, pb_bs, pb_b2n, pb_bz0, pb_bz1, pb_10, pb_01, pb_i31, mk_is hk2, mk_g0 hk2, mk_g1 hk2, mk_g2 hk2, mk_g3 hk2, mk_g4 hk2, mk_g5 hk2, mk_g6 hk2, mk_g7 hk2, mk_g8 hk2, mk_g9 hk2, mk_g10 hk2, mk_g11 hk2, mk_g12 hk2, mk_g13 hk2, mk_g14 hk2, mk_g15 hk2, mk_g16 hk2, mk_g17 hk2, mk_g18 hk2, mk_g19 hk2, mk_g20 hk2, mk_g21 hk2, mk_g22 hk2, mb_isStepC hm1 Hl, pb_ct cs, pb_ct cy, po_inC, pb_ct cw, f1, mk_is k2, mk_g0 k2, mk_g1 k2, mk_g2 k2, mk_g3 k2, mk_g4 k2, mk_g5 k2, mk_g6 k2, mk_g7 k2, mk_g8 k2, mk_g9 k2, mk_g10 k2, mk_g11 k2, mk_g12 k2, mk_g13 k2, mk_g14 k2, mk_g15 k2, mk_g16 k2, mk_g17 k2, mk_g18 k2, mk_g19 k2, mk_g20 k2, mk_g21 k2, mk_g22 k2, zm, n1]
