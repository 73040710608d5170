/-! ===== way ===== -/
def wA (a : List Int32) (s t : Nat) : Prop := (pv a (30 + s) >>> nI t) &&& nI 1 = nI 1
def w1 (a : List Int32) (s : Nat) : Nat := if pv a (14 + s) < pv a 1 then 1 else 101
def w6 (a : List Int32) (s : Nat) : Nat := if pv a (14 + s) < pv a 1 then 1 else 17
noncomputable def nT (A : Nat → Prop) (f : Nat → Nat) : Nat → Option Nat
  | 0 => none
  | t + 1 => pI (A t ∧ f t < 9999) (match nT A f t with
    | none => some t
    | some b => if f t < f b then some t else some b) (nT A f t)
theorem nT_s {A : Nat → Prop} {f : Nat → Nat} : ∀ j, (nT A f j = none → ∀ t, t < j → A t → ¬ f t < 9999) ∧ ∀ b, nT A f j = some b → b < j ∧ A b ∧ f b < 9999 ∧ (∀ t, t < j → A t → f t < 9999 → f b ≤ f t) ∧ ∀ t, t < b → A t → f t < 9999 → f b < f t := by
  intro j
  induction j with
  | zero => exact ⟨(fun _ t ht => by omega), fun b h => by cases h⟩
  | succ j ih =>
    obtain ⟨g1, g2⟩ := ih
    by_cases c : A j ∧ f j < 9999
    · rw [nT, pI_t c]
      cases hf : nT A f j with
      | none =>
        refine ⟨(fun h => by cases h), fun b h => ?_⟩
        cases h
        have g := g1 hf
        refine ⟨by omega, c.1, c.2, fun t ht ha hl => ?_, fun t ht ha hl => absurd hl (g t ht ha)⟩
        by_cases e : t = j
        · rw [e]; exact Nat.le_refl _
        · exact absurd hl (g t (by omega) ha)
      | some b =>
        obtain ⟨p1, p2, p3, p4, p5⟩ := g2 b hf
        by_cases cl : f j < f b
        · simp only [if_pos cl]
          refine ⟨(fun h => by cases h), fun b' h => ?_⟩
          cases h
          refine ⟨by omega, c.1, c.2, fun t ht ha hl => ?_, fun t ht ha hl => ?_⟩
          · by_cases e : t = j
            · rw [e]; exact Nat.le_refl _
            · have := p4 t (by omega) ha hl
              omega
          · have := p4 t ht ha hl
            omega
        · simp only [if_neg cl]
          refine ⟨(fun h => by cases h), fun b' h => ?_⟩
          cases h
          refine ⟨by omega, p2, p3, fun t ht ha hl => ?_, p5⟩
          by_cases e : t = j
          · rw [e]; omega
          · exact p4 t (by omega) ha hl
    · rw [nT, pI_f c]
      refine ⟨fun h t ht ha hl => ?_, fun b h => ?_⟩
      · by_cases e : t = j
        · rw [e] at ha hl
          exact c ⟨ha, hl⟩
        · exact g1 h t (by omega) ha hl
      · obtain ⟨p1, p2, p3, p4, p5⟩ := g2 b h
        refine ⟨by omega, p2, p3, fun t ht ha hl => ?_, p5⟩
        by_cases e : t = j
        · rw [e] at ha hl
          exact absurd ⟨ha, hl⟩ c
        · exact p4 t (by omega) ha hl
theorem mb_nextTo {N : Nat} {h0 h : ss_Hp} {T : List Nat} {a : List Int32} {fo x : Int32} {RS : List (List ru_C)} {US : List (List Int32)} {I : Nat → Option (List Int32 × Int32 × Int32)} {th2 fa2 kp2 : List Int32} {dx2 : Int64} {Z : Nat → List Int32} {k s : Nat} {f : Nat → Nat} (hc : mb_h h0 h T a fo x RS US I fo a th2 fa2 kp2 dx2 Z) (hl : a.length = 124) (hk8 : k ≤ 8) (h2 : pv a 2 = nI k) (hs : s < 8) (hf : ∀ t, t < 8 → f t ≤ 9999 ∧ pv (Z 1) t = nI (f t)) (hN : 5000 < N) : mm_M_nextTo N (some 118) (nI s) h = some ((nT (wA a s) f k).elim (-nI 1) nI) := by
  have hk := mb_mk hc
  have s2 := mb_said hc hl (show 2 < 124 by omega)
  rw [h2] at s2
  have sb := mb_said hc hl (show 30 + s < 124 by omega)
  have l : ss_lp (mm_M_nextTo_b4 N (some 118) (nI s) h) N (-nI 1, nI 0) = some ((nT (wA a s) f k).elim (-nI 1) nI) := by
    refine pb_lp (fun t => ((nT (wA a s) f t).elim (-nI 1) nI, nI t)) k (by omega) (fun t ht => ?_) ?_
    · have hlt : ¬ nI k ≤ nI t := nI_ge ht (by omega)
      have io := po_isOf (N := N) (a1 := pv a (30 + s)) (show t < 32 by omega)
      obtain ⟨f1, f2⟩ := hf t (by omega)
      have z1 := mb_z1 hc (show t < 8 by omega)
      rw [f2] at z1
      unfold mm_M_nextTo_b4 mm_M_nextTo_j61 mm_M_nextTo_j63
      rw [nT]
      by_cases ca : wA a s t
      · rw [if_pos (show (pv a (30 + s) >>> nI t) &&& nI 1 = nI 1 from ca)] at io
        by_cases cf : f t < 9999
        · have n1 : ¬ nI 9999 ≤ nI (f t) := nI_ge cf (by omega)
          rw [pI_t ⟨ca, cf⟩]
          cases hn : nT (wA a s) f t with
          | none =>
            have m1 : -nI 1 < nI 0 := pb_m1
            simp (disch := omega) only [pb_its, pb_l2, pb_ll, nI_add, pb_mul, if_true, if_false, pb_bs, pb_b2n, pb_bz0, pb_bz1, pb_10, pb_01, pb_i31, mk_is hk, mk_g0 hk, mk_g1 hk, mk_g2 hk, mk_g3 hk, mk_g4 hk, mk_g5 hk, mk_g6 hk, mk_g7 hk, mk_g8 hk, mk_g9 hk, mk_g10 hk, mk_g11 hk, mk_g12 hk, mk_g13 hk, mk_g14 hk, mk_g15 hk, mk_g16 hk, mk_g17 hk, mk_g18 hk, mk_g19 hk, mk_g20 hk, mk_g21 hk, mk_g22 hk, s2, hlt, sb, io, z1, n1, Option.elim, m1]
          | some b =>
            obtain ⟨p1, -, -, -, -⟩ := (nT_s t).2 b hn
            have m1 : ¬ nI b < nI 0 := nI_nlt (by omega) (by omega)
            obtain ⟨b1, b2⟩ := hf b (by omega)
            have zb := mb_z1 hc (show b < 8 by omega)
            rw [b2] at zb
            by_cases cl : f t < f b
            · have n2 : ¬ nI (f b) ≤ nI (f t) := nI_ge cl (by omega)
              simp (disch := omega) only [pb_its, pb_l2, pb_ll, nI_add, pb_mul, if_true, if_false, pb_bs, pb_b2n, pb_bz0, pb_bz1, pb_10, pb_01, pb_i31, mk_is hk, mk_g0 hk, mk_g1 hk, mk_g2 hk, mk_g3 hk, mk_g4 hk, mk_g5 hk, mk_g6 hk, mk_g7 hk, mk_g8 hk, mk_g9 hk, mk_g10 hk, mk_g11 hk, mk_g12 hk, mk_g13 hk, mk_g14 hk, mk_g15 hk, mk_g16 hk, mk_g17 hk, mk_g18 hk, mk_g19 hk, mk_g20 hk, mk_g21 hk, mk_g22 hk, s2, hlt, sb, io, z1, n1, Option.elim, m1, zb, n2, cl]
            · have n2 : nI (f b) ≤ nI (f t) := nI_le (by omega) (by omega)
              simp (disch := omega) only [pb_its, pb_l2, pb_ll, nI_add, pb_mul, if_true, if_false, pb_bs, pb_b2n, pb_bz0, pb_bz1, pb_10, pb_01, pb_i31, mk_is hk, mk_g0 hk, mk_g1 hk, mk_g2 hk, mk_g3 hk, mk_g4 hk, mk_g5 hk, mk_g6 hk, mk_g7 hk, mk_g8 hk, mk_g9 hk, mk_g10 hk, mk_g11 hk, mk_g12 hk, mk_g13 hk, mk_g14 hk, mk_g15 hk, mk_g16 hk, mk_g17 hk, mk_g18 hk, mk_g19 hk, mk_g20 hk, mk_g21 hk, mk_g22 hk, s2, hlt, sb, io, z1, n1, Option.elim, m1, zb, n2, cl]
        · have n1 : nI 9999 ≤ nI (f t) := nI_le (by omega) (by omega)
          rw [pI_f (fun q => cf q.2)]
          simp (disch := omega) only [pb_its, pb_l2, pb_ll, nI_add, pb_mul, if_true, if_false, pb_bs, pb_b2n, pb_bz0, pb_bz1, pb_10, pb_01, pb_i31, mk_is hk, mk_g0 hk, mk_g1 hk, mk_g2 hk, mk_g3 hk, mk_g4 hk, mk_g5 hk, mk_g6 hk, mk_g7 hk, mk_g8 hk, mk_g9 hk, mk_g10 hk, mk_g11 hk, mk_g12 hk, mk_g13 hk, mk_g14 hk, mk_g15 hk, mk_g16 hk, mk_g17 hk, mk_g18 hk, mk_g19 hk, mk_g20 hk, mk_g21 hk, mk_g22 hk, s2, hlt, sb, io, z1, n1]
      · rw [if_neg (show ¬ (pv a (30 + s) >>> nI t) &&& nI 1 = nI 1 from ca)] at io
        rw [pI_f (fun q => ca q.1)]
        simp (disch := omega) only [pb_its, pb_l2, pb_ll, nI_add, pb_mul, if_true, if_false, pb_bs, pb_b2n, pb_bz0, pb_bz1, pb_10, pb_01, pb_i31, mk_is hk, mk_g0 hk, mk_g1 hk, mk_g2 hk, mk_g3 hk, mk_g4 hk, mk_g5 hk, mk_g6 hk, mk_g7 hk, mk_g8 hk, mk_g9 hk, mk_g10 hk, mk_g11 hk, mk_g12 hk, mk_g13 hk, mk_g14 hk, mk_g15 hk, mk_g16 hk, mk_g17 hk, mk_g18 hk, mk_g19 hk, mk_g20 hk, mk_g21 hk, mk_g22 hk, s2, hlt, sb, io]
    · unfold mm_M_nextTo_b4
      simp (disch := omega) only [pb_its, pb_l2, pb_ll, nI_add, pb_mul, if_true, if_false, pb_bs, pb_b2n, pb_bz0, pb_bz1, pb_10, pb_01, pb_i31, mk_is hk, mk_g0 hk, mk_g1 hk, mk_g2 hk, mk_g3 hk, mk_g4 hk, mk_g5 hk, mk_g6 hk, mk_g7 hk, mk_g8 hk, mk_g9 hk, mk_g10 hk, mk_g11 hk, mk_g12 hk, mk_g13 hk, mk_g14 hk, mk_g15 hk, mk_g16 hk, mk_g17 hk, mk_g18 hk, mk_g19 hk, mk_g20 hk, mk_g21 hk, mk_g22 hk, s2, nI_le (Nat.le_refl k) (by omega : k < 2 ^ 31)]
  unfold mm_M_nextTo
  simp (disch := omega) only [pb_its, pb_l2, pb_ll, nI_add, pb_mul, if_true, if_false, pb_bs, pb_b2n, pb_bz0, pb_bz1, pb_10, pb_01, pb_i31, mk_is hk, mk_g0 hk, mk_g1 hk, mk_g2 hk, mk_g3 hk, mk_g4 hk, mk_g5 hk, mk_g6 hk, mk_g7 hk, mk_g8 hk, mk_g9 hk, mk_g10 hk, mk_g11 hk, mk_g12 hk, mk_g13 hk, mk_g14 hk, mk_g15 hk, mk_g16 hk, mk_g17 hk, mk_g18 hk, mk_g19 hk, mk_g20 hk, mk_g21 hk, mk_g22 hk, l]
theorem mb_priceOf {N : Nat} {h0 h : ss_Hp} {T : List Nat} {a : List Int32} {fo x : Int32} {RS : List (List ru_C)} {US : List (List Int32)} {I : Nat → Option (List Int32 × Int32 × Int32)} {th2 fa2 kp2 : List Int32} {dx2 : Int64} {Z : Nat → List Int32} {s : Nat} (hc : mb_h h0 h T a fo x RS US I fo a th2 fa2 kp2 dx2 Z) (hl : a.length = 124) (hs : s < 8) : mm_M_priceOf N (some 118) (nI s) h = some (nI (w1 a s)) := by
  have hk := mb_mk hc
  have ic := mb_isClosed (N := N) (s := s) hc hl hs
  unfold mm_M_priceOf mm_M_priceOf_j14 w1
  by_cases c : pv a (14 + s) < pv a 1
  · rw [if_pos c] at ic ⊢
    simp (disch := omega) only [pb_its, pb_l2, pb_ll, nI_add, pb_mul, if_true, if_false, pb_bs, pb_b2n, pb_bz0, pb_bz1, pb_10, pb_01, pb_i31, mk_is hk, mk_g0 hk, mk_g1 hk, mk_g2 hk, mk_g3 hk, mk_g4 hk, mk_g5 hk, mk_g6 hk, mk_g7 hk, mk_g8 hk, mk_g9 hk, mk_g10 hk, mk_g11 hk, mk_g12 hk, mk_g13 hk, mk_g14 hk, mk_g15 hk, mk_g16 hk, mk_g17 hk, mk_g18 hk, mk_g19 hk, mk_g20 hk, mk_g21 hk, mk_g22 hk, ic]
  · rw [if_neg c] at ic ⊢
    simp (disch := omega) only [pb_its, pb_l2, pb_ll, nI_add, pb_mul, if_true, if_false, pb_bs, pb_b2n, pb_bz0, pb_bz1, pb_10, pb_01, pb_i31, mk_is hk, mk_g0 hk, mk_g1 hk, mk_g2 hk, mk_g3 hk, mk_g4 hk, mk_g5 hk, mk_g6 hk, mk_g7 hk, mk_g8 hk, mk_g9 hk, mk_g10 hk, mk_g11 hk, mk_g12 hk, mk_g13 hk, mk_g14 hk, mk_g15 hk, mk_g16 hk, mk_g17 hk, mk_g18 hk, mk_g19 hk, mk_g20 hk, mk_g21 hk, mk_g22 hk, ic]
/-- the prices while they are filled -/
def wI (a : List Int32) (k to : Nat) (f : Nat → Nat) : Prop := (∀ s, s < 8 → f s ≤ 9999) ∧ f to = w1 a to ∧ ∀ s, s < k → s ≠ to → f s < 9999 → ∃ t, t < k ∧ wA a s t ∧ f t < 9999 ∧ f t + w1 a s ≤ f s
def sumN (f : Nat → Nat) : Nat → Nat
  | 0 => 0
  | k + 1 => sumN f k + f k
theorem sumN_le {f g : Nat → Nat} : ∀ k, (∀ s, s < k → g s ≤ f s) → sumN g k ≤ sumN f k := by
  intro k
  induction k with
  | zero => intro _; exact Nat.le_refl _
  | succ k ih => intro h; have := ih (fun s hs => h s (by omega)); have := h k (by omega); show sumN g k + g k ≤ sumN f k + f k; omega
theorem sumN_lt {f g : Nat → Nat} {u : Nat} : ∀ k, (∀ s, s < k → g s ≤ f s) → u < k → g u < f u → sumN g k < sumN f k := by
  intro k
  induction k with
  | zero => intro _ h; omega
  | succ k ih =>
    intro h hu hl
    show sumN g k + g k < sumN f k + f k
    by_cases e : u = k
    · rw [e] at hl
      have := sumN_le k (fun s hs => h s (show s < k + 1 by omega))
      omega
    · have := ih (fun s hs => h s (by omega)) (by omega) hl
      have := h k (by omega)
      omega
theorem sumN_b {f : Nat → Nat} {B : Nat} : ∀ k, (∀ s, s < k → f s ≤ B) → sumN f k ≤ k * B := by
  intro k
  induction k with
  | zero => intro _; exact Nat.zero_le _
  | succ k ih =>
    intro h
    have := ih (fun s hs => h s (by omega))
    have := h k (by omega)
    show sumN f k + f k ≤ (k + 1) * B
    rw [Nat.add_mul, Nat.one_mul]
    omega
theorem mb_prices {N : Nat} {h0 h : ss_Hp} {T : List Nat} {a : List Int32} {fo x : Int32} {RS : List (List ru_C)} {US : List (List Int32)} {I : Nat → Option (List Int32 × Int32 × Int32)} {th2 fa2 kp2 : List Int32} {dx2 : Int64} {Z : Nat → List Int32} {k to : Nat} (hc : mb_h h0 h T a fo x RS US I fo a th2 fa2 kp2 dx2 Z) (hl : a.length = 124) (hk8 : k ≤ 8) (h2 : pv a 2 = nI k) (hto : to < k) (hN : 100000 < N) : ∃ h' Z' f, mm_M_fillsPrices N (some 118) (nI to) h = some h' ∧ mb_h h0 h' T a fo x RS US I fo a th2 fa2 kp2 dx2 Z' ∧ (∀ t, t < 8 → pv (Z' 1) t = nI (f t)) ∧ wI a k to f ∧ ∀ s t, s < k → t < k → wA a s t → f t < 9999 → f s ≤ f t + w1 a s := by
  have hk := mb_mk hc
  have k1 := pb_for (body := mm_M_fillsPrices_b2 N (some 118) (nI to)) 8 (fun i s => ∃ h' Z', s = (nI i, h') ∧ mb_h h0 h' T a fo x RS US I fo a th2 fa2 kp2 dx2 Z' ∧ ∀ t, t < i → pv (Z' 1) t = nI 9999) (fun h' => ∃ Z', mb_h h0 h' T a fo x RS US I fo a th2 fa2 kp2 dx2 Z' ∧ ∀ t, t < 8 → pv (Z' 1) t = nI 9999) (N := N) (s := (nI 0, h)) (by omega) ⟨h, Z, rfl, hc, fun t ht => by omega⟩ (by
    rintro i s hi ⟨h', Z', rfl, c, r⟩
    left
    have ck := mb_mk c
    have hlt : ¬ nI 8 ≤ nI i := nI_ge hi (by omega)
    have hl1 := (mb_len c).2.2.1
    obtain ⟨h3, e3, c3⟩ := mb_y1 (i := i) (y := nI 9999) c hi
    refine ⟨(nI (i + 1), h3), ?_, h3, _, rfl, c3, fun t ht => ?_⟩
    · unfold mm_M_fillsPrices_b2
      simp (disch := omega) only [pb_its, pb_l2, pb_ll, nI_add, pb_mul, if_true, if_false, pb_bs, pb_b2n, pb_bz0, pb_bz1, pb_10, pb_01, pb_i31, mk_is ck, mk_g0 ck, mk_g1 ck, mk_g2 ck, mk_g3 ck, mk_g4 ck, mk_g5 ck, mk_g6 ck, mk_g7 ck, mk_g8 ck, mk_g9 ck, mk_g10 ck, mk_g11 ck, mk_g12 ck, mk_g13 ck, mk_g14 ck, mk_g15 ck, mk_g16 ck, mk_g17 ck, mk_g18 ck, mk_g19 ck, mk_g20 ck, mk_g21 ck, mk_g22 ck, hlt, e3]
    · rw [zs_eq, pv_set (by omega)]
      by_cases e : t = i
      · rw [if_pos e]
      · rw [if_neg e]; exact r t (by omega)) (by
    rintro s ⟨h', Z', rfl, c, r⟩
    refine ⟨h', ?_, Z', c, r⟩
    unfold mm_M_fillsPrices_b2
    simp (disch := omega) only [pb_its, pb_l2, pb_ll, nI_add, pb_mul, if_true, if_false, pb_bs, pb_b2n, pb_bz0, pb_bz1, pb_10, pb_01, pb_i31, nI_le (Nat.le_refl 8) (by omega : 8 < 2 ^ 31)])
  obtain ⟨h1, l1, Z1, c1, r1⟩ := k1
  have ck1 := mb_mk c1
  have hl1 := (mb_len c1).2.2.1
  have wle : ∀ s, w1 a s ≤ 101 ∧ 1 ≤ w1 a s := fun s => by unfold w1; split <;> omega
  obtain ⟨h3, e3, c3⟩ := mb_y1 (i := to) (y := nI (w1 a to)) c1 (by omega)
  have po := mb_priceOf (N := N) (s := to) c1 hl (by omega)
  have pass : ∀ (f : Nat → Nat) (h' : ss_Hp) (Z' : Nat → List Int32), mb_h h0 h' T a fo x RS US I fo a th2 fa2 kp2 dx2 Z' → (∀ t, t < 8 → pv (Z' 1) t = nI (f t)) → wI a k to f → ∃ h5 Z5 g mo, ss_lp (mm_M_fillsPrices_b44 N (some 118)) N (nI 0, nI 0, h') = some (mo, h5) ∧ mb_h h0 h5 T a fo x RS US I fo a th2 fa2 kp2 dx2 Z5 ∧ (∀ t, t < 8 → pv (Z5 1) t = nI (g t)) ∧ wI a k to g ∧ ((mo = nI 1 ∧ sumN g k < sumN f k) ∨ (mo = nI 0 ∧ ∀ s t, s < k → t < k → wA a s t → g t < 9999 → g s ≤ g t + w1 a s)) := by
    intro f h' Z' c r w
    have kk := pb_for (body := mm_M_fillsPrices_b44 N (some 118)) k (fun i s => ∃ h5 Z5 g mo, s = (mo, nI i, h5) ∧ mb_h h0 h5 T a fo x RS US I fo a th2 fa2 kp2 dx2 Z5 ∧ (∀ t, t < 8 → pv (Z5 1) t = nI (g t)) ∧ wI a k to g ∧ ((mo = nI 1 ∧ sumN g k < sumN f k) ∨ (mo = nI 0 ∧ sumN g k ≤ sumN f k ∧ ∀ s t, s < i → t < k → wA a s t → g t < 9999 → g s ≤ g t + w1 a s))) (fun e => ∃ h5 Z5 g mo, e = (mo, h5) ∧ mb_h h0 h5 T a fo x RS US I fo a th2 fa2 kp2 dx2 Z5 ∧ (∀ t, t < 8 → pv (Z5 1) t = nI (g t)) ∧ wI a k to g ∧ ((mo = nI 1 ∧ sumN g k < sumN f k) ∨ (mo = nI 0 ∧ ∀ s t, s < k → t < k → wA a s t → g t < 9999 → g s ≤ g t + w1 a s))) (N := N) (s := (nI 0, nI 0, h')) (by omega) ⟨h', Z', f, nI 0, rfl, c, r, w, Or.inr ⟨rfl, Nat.le_refl _, fun s t hs => by omega⟩⟩ (by
      rintro i s hi ⟨h5, Z5, g, mo, rfl, c5, r5, w5, q5⟩
      left
      have ck := mb_mk c5
      have hlt : ¬ nI k ≤ nI i := nI_ge hi (by omega)
      have s2 := mb_said c5 hl (show 2 < 124 by omega)
      rw [h2] at s2
      have nt := mb_nextTo (N := N) (f := g) c5 hl hk8 h2 (show i < 8 by omega) (fun t ht => ⟨w5.1 t ht, r5 t ht⟩) (by omega)
      have pr := mb_priceOf (N := N) (s := i) c5 hl (by omega)
      have wi := wle i
      obtain ⟨n1, n2⟩ := nT_s (A := wA a i) (f := g) k
      cases hn : nT (wA a i) g k with
      | none =>
        rw [hn] at nt
        have nt : mm_M_nextTo N (some 118) (nI i) h5 = some (-nI 1) := nt
        have m1 : -nI 1 < nI 0 := pb_m1
        refine ⟨(mo, nI (i + 1), h5), ?_, h5, Z5, g, mo, rfl, c5, r5, w5, ?_⟩
        · unfold mm_M_fillsPrices_b44 mm_M_fillsPrices_j112
          simp (disch := omega) only [pb_its, pb_l2, pb_ll, nI_add, pb_mul, if_true, if_false, pb_bs, pb_b2n, pb_bz0, pb_bz1, pb_10, pb_01, pb_i31, mk_is ck, mk_g0 ck, mk_g1 ck, mk_g2 ck, mk_g3 ck, mk_g4 ck, mk_g5 ck, mk_g6 ck, mk_g7 ck, mk_g8 ck, mk_g9 ck, mk_g10 ck, mk_g11 ck, mk_g12 ck, mk_g13 ck, mk_g14 ck, mk_g15 ck, mk_g16 ck, mk_g17 ck, mk_g18 ck, mk_g19 ck, mk_g20 ck, mk_g21 ck, mk_g22 ck, s2, hlt, nt, m1]
        · rcases q5 with q | ⟨q1, q2, q3⟩
          · exact Or.inl q
          · refine Or.inr ⟨q1, q2, fun s t hs ht ha hf => ?_⟩
            by_cases e : s = i
            · rw [e] at ha
              exact absurd hf (n1 hn t ht ha)
            · exact q3 s t (by omega) ht ha hf
      | some t0 =>
        rw [hn] at nt
        have nt : mm_M_nextTo N (some 118) (nI i) h5 = some (nI t0) := nt
        obtain ⟨p1, p2, p3, p4, p5⟩ := n2 t0 hn
        have m1 : ¬ nI t0 < nI 0 := nI_nlt (by omega) (by omega)
        have zt := mb_z1 c5 (show t0 < 8 by omega)
        rw [r5 t0 (by omega)] at zt
        have zi := mb_z1 c5 (show i < 8 by omega)
        rw [r5 i (by omega)] at zi
        have gi9 := w5.1 i (by omega)
        have gt9 := w5.1 t0 (by omega)
        by_cases cl : g t0 + w1 a i < g i
        · have n3 : nI (g t0 + w1 a i) < nI (g i) := nI_lt cl (by omega)
          obtain ⟨h6, e6, c6⟩ := mb_y1 (i := i) (y := nI (g t0 + w1 a i)) c5 (by omega)
          have hl5 := (mb_len c5).2.2.1
          have hito : i ≠ to := fun e => by
            have := w5.2.1
            rw [← e] at this
            omega
          have gle : ∀ s, (if s = i then g t0 + w1 a i else g s) ≤ g s := fun s => by
            by_cases e : s = i
            · rw [if_pos e, e]; omega
            · rw [if_neg e]; exact Nat.le_refl _
          refine ⟨(nI 1, nI (i + 1), h6), ?_, h6, _, fun s => if s = i then g t0 + w1 a i else g s, nI 1, rfl, c6, fun t ht => ?_, ⟨fun s hs => Nat.le_trans (gle s) (w5.1 s hs), ?_, fun s hs hst hf => ?_⟩, Or.inl ⟨rfl, ?_⟩⟩
          · unfold mm_M_fillsPrices_b44 mm_M_fillsPrices_j112
            simp (disch := omega) only [pb_its, pb_l2, pb_ll, nI_add, pb_mul, if_true, if_false, pb_bs, pb_b2n, pb_bz0, pb_bz1, pb_10, pb_01, pb_i31, mk_is ck, mk_g0 ck, mk_g1 ck, mk_g2 ck, mk_g3 ck, mk_g4 ck, mk_g5 ck, mk_g6 ck, mk_g7 ck, mk_g8 ck, mk_g9 ck, mk_g10 ck, mk_g11 ck, mk_g12 ck, mk_g13 ck, mk_g14 ck, mk_g15 ck, mk_g16 ck, mk_g17 ck, mk_g18 ck, mk_g19 ck, mk_g20 ck, mk_g21 ck, mk_g22 ck, s2, hlt, nt, m1, zt, pr, zi, n3, e6]
          · rw [zs_eq, pv_set (by omega)]
            by_cases e : t = i
            · rw [if_pos e]
              show nI (g t0 + w1 a i) = nI (if t = i then g t0 + w1 a i else g t)
              rw [if_pos e]
            · rw [if_neg e]
              show pv (Z5 1) t = nI (if t = i then g t0 + w1 a i else g t)
              rw [if_neg e]
              exact r5 t ht
          · show (if to = i then g t0 + w1 a i else g to) = w1 a to
            rw [if_neg (fun e => hito e.symm)]
            exact w5.2.1
          · by_cases e : s = i
            · have hti : t0 ≠ i := fun e => by rw [e] at cl; omega
              refine ⟨t0, p1, by rw [e]; exact p2, ?_, ?_⟩
              · show (if t0 = i then g t0 + w1 a i else g t0) < 9999
                rw [if_neg hti]; exact p3
              · show (if t0 = i then g t0 + w1 a i else g t0) + w1 a s ≤ if s = i then g t0 + w1 a i else g s
                rw [if_neg hti, if_pos e, e]
                exact Nat.le_refl _
            · have hf' : g s < 9999 := by
                have : (if s = i then g t0 + w1 a i else g s) < 9999 := hf
                rw [if_neg e] at this
                exact this
              obtain ⟨t, t1, t2, t3, t4⟩ := w5.2.2 s hs hst hf'
              have := gle t
              refine ⟨t, t1, t2, Nat.lt_of_le_of_lt this t3, ?_⟩
              show (if t = i then g t0 + w1 a i else g t) + w1 a s ≤ if s = i then g t0 + w1 a i else g s
              rw [if_neg e]
              omega
          · have hs := sumN_lt (f := g) (g := fun s => if s = i then g t0 + w1 a i else g s) (u := i) k (fun s _ => gle s) hi (by
              show (if i = i then g t0 + w1 a i else g i) < g i
              rw [if_pos rfl]
              exact cl)
            rcases q5 with ⟨-, q⟩ | ⟨-, q, -⟩ <;> omega
        · have n3 : ¬ nI (g t0 + w1 a i) < nI (g i) := nI_nlt (by omega) (by omega)
          refine ⟨(mo, nI (i + 1), h5), ?_, h5, Z5, g, mo, rfl, c5, r5, w5, ?_⟩
          · unfold mm_M_fillsPrices_b44 mm_M_fillsPrices_j112
            simp (disch := omega) only [pb_its, pb_l2, pb_ll, nI_add, pb_mul, if_true, if_false, pb_bs, pb_b2n, pb_bz0, pb_bz1, pb_10, pb_01, pb_i31, mk_is ck, mk_g0 ck, mk_g1 ck, mk_g2 ck, mk_g3 ck, mk_g4 ck, mk_g5 ck, mk_g6 ck, mk_g7 ck, mk_g8 ck, mk_g9 ck, mk_g10 ck, mk_g11 ck, mk_g12 ck, mk_g13 ck, mk_g14 ck, mk_g15 ck, mk_g16 ck, mk_g17 ck, mk_g18 ck, mk_g19 ck, mk_g20 ck, mk_g21 ck, mk_g22 ck, s2, hlt, nt, m1, zt, pr, zi, n3]
          · rcases q5 with q | ⟨q1, q2, q3⟩
            · exact Or.inl q
            · refine Or.inr ⟨q1, q2, fun s t hs ht ha hf => ?_⟩
              by_cases e : s = i
              · rw [e] at ha ⊢
                have := p4 t ht ha hf
                omega
              · exact q3 s t (by omega) ht ha hf) (by
      rintro s ⟨h5, Z5, g, mo, rfl, c5, r5, w5, q5⟩
      have ck := mb_mk c5
      have s2 := mb_said c5 hl (show 2 < 124 by omega)
      rw [h2] at s2
      refine ⟨_, ?_, h5, Z5, g, mo, rfl, c5, r5, w5, ?_⟩
      · unfold mm_M_fillsPrices_b44
        simp (disch := omega) only [pb_its, pb_l2, pb_ll, nI_add, pb_mul, if_true, if_false, pb_bs, pb_b2n, pb_bz0, pb_bz1, pb_10, pb_01, pb_i31, mk_is ck, mk_g0 ck, mk_g1 ck, mk_g2 ck, mk_g3 ck, mk_g4 ck, mk_g5 ck, mk_g6 ck, mk_g7 ck, mk_g8 ck, mk_g9 ck, mk_g10 ck, mk_g11 ck, mk_g12 ck, mk_g13 ck, mk_g14 ck, mk_g15 ck, mk_g16 ck, mk_g17 ck, mk_g18 ck, mk_g19 ck, mk_g20 ck, mk_g21 ck, mk_g22 ck, s2, nI_le (Nat.le_refl k) (by omega : k < 2 ^ 31)]
      · rcases q5 with q | ⟨q1, q2, q3⟩
        · exact Or.inl q
        · exact Or.inr ⟨q1, q3⟩)
    obtain ⟨_, l, h5, Z5, g, mo, rfl, q⟩ := kk
    exact ⟨h5, Z5, g, mo, l, q⟩
  have w0 : wI a k to (fun t => if t = to then w1 a to else 9999) := by
    refine ⟨fun s hs => ?_, if_pos rfl, fun s hs hst hf => ?_⟩
    · show (if s = to then w1 a to else 9999) ≤ 9999
      have := wle to
      split <;> omega
    · have : (if s = to then w1 a to else 9999) < 9999 := hf
      rw [if_neg hst] at this
      omega
  have lp := pb_inv (body := mm_M_fillsPrices_b36 N (some 118)) (fun s => ∃ h5 Z5 g mo, s = (mo, h5) ∧ mb_h h0 h5 T a fo x RS US I fo a th2 fa2 kp2 dx2 Z5 ∧ (∀ t, t < 8 → pv (Z5 1) t = nI (g t)) ∧ wI a k to g ∧ (mo = nI 1 ∨ (mo = nI 0 ∧ ∀ s t, s < k → t < k → wA a s t → g t < 9999 → g s ≤ g t + w1 a s))) (fun s => if s.1 = nI 0 then 1 else 2 + sumN (fun t => (ss_ai s.2 (some 134) 20 (nI t)).elim 0 Int32.toNatClampNeg) k) (fun h5 => ∃ Z5 g, mb_h h0 h5 T a fo x RS US I fo a th2 fa2 kp2 dx2 Z5 ∧ (∀ t, t < 8 → pv (Z5 1) t = nI (g t)) ∧ wI a k to g ∧ ∀ s t, s < k → t < k → wA a s t → g t < 9999 → g s ≤ g t + w1 a s) (by
    rintro s ⟨h5, Z5, g, mo, rfl, c5, r5, w5, q5⟩
    have sm : ∀ (h5 : ss_Hp) (Z5 : Nat → List Int32) (g : Nat → Nat), mb_h h0 h5 T a fo x RS US I fo a th2 fa2 kp2 dx2 Z5 → (∀ t, t < 8 → pv (Z5 1) t = nI (g t)) → wI a k to g → ∀ j, j ≤ k → sumN (fun t => (ss_ai h5 (some 134) 20 (nI t)).elim 0 Int32.toNatClampNeg) j = sumN g j := by
      intro h5 Z5 g c5 r5 w5 j
      induction j with
      | zero => intro _; rfl
      | succ j ih =>
        intro hj
        have z := mb_z1 c5 (show j < 8 by omega)
        rw [r5 j (by omega)] at z
        show sumN (fun t => (ss_ai h5 (some 134) 20 (nI t)).elim 0 Int32.toNatClampNeg) j + (ss_ai h5 (some 134) 20 (nI j)).elim 0 Int32.toNatClampNeg = sumN g j + g j
        rw [ih (by omega), z]
        show _ + (nI (g j)).toNatClampNeg = _
        rw [nI_clamp (by have := w5.1 j (by omega); omega)]
    rcases q5 with rfl | ⟨rfl, q⟩
    · left
      obtain ⟨h6, Z6, g6, mo6, l6, c6, r6, w6, q6⟩ := pass g h5 Z5 c5 r5 w5
      refine ⟨(mo6, h6), ?_, ⟨h6, Z6, g6, mo6, rfl, c6, r6, w6, ?_⟩, ?_⟩
      · unfold mm_M_fillsPrices_b36
        simp (disch := omega) only [pb_its, pb_l2, pb_ll, nI_add, pb_mul, if_true, if_false, pb_bs, pb_b2n, pb_bz0, pb_bz1, pb_10, pb_01, pb_i31, l6]
      · rcases q6 with ⟨q, -⟩ | q
        · exact Or.inl q
        · exact Or.inr q
      · show (if mo6 = nI 0 then 1 else 2 + sumN (fun t => (ss_ai h6 (some 134) 20 (nI t)).elim 0 Int32.toNatClampNeg) k) < if nI 1 = nI 0 then 1 else 2 + sumN (fun t => (ss_ai h5 (some 134) 20 (nI t)).elim 0 Int32.toNatClampNeg) k
        rw [sm h6 Z6 g6 c6 r6 w6 k (Nat.le_refl k), sm h5 Z5 g c5 r5 w5 k (Nat.le_refl k), if_neg (show ¬ nI 1 = nI 0 by decide)]
        rcases q6 with ⟨q, q'⟩ | ⟨q, q'⟩
        · rw [q, if_neg (show ¬ nI 1 = nI 0 by decide)]; omega
        · rw [q, if_pos rfl]; omega
    · right
      refine ⟨h5, ?_, Z5, g, c5, r5, w5, q⟩
      unfold mm_M_fillsPrices_b36
      simp (disch := omega) only [pb_its, pb_l2, pb_ll, nI_add, pb_mul, if_true, if_false, pb_bs, pb_b2n, pb_bz0, pb_bz1, pb_10, pb_01, pb_i31]) N (nI 1, h3) ⟨h3, _, fun t => if t = to then w1 a to else 9999, nI 1, rfl, c3, fun t ht => by
        rw [zs_eq, pv_set (by omega)]
        by_cases e : t = to
        · rw [if_pos e]
          show nI (w1 a to) = nI (if t = to then w1 a to else 9999)
          rw [if_pos e]
        · rw [if_neg e]
          show pv (Z1 1) t = nI (if t = to then w1 a to else 9999)
          rw [if_neg e]
          exact r1 t ht, w0, Or.inl rfl⟩ (by
    show (if nI 1 = nI 0 then 1 else 2 + sumN (fun t => (ss_ai h3 (some 134) 20 (nI t)).elim 0 Int32.toNatClampNeg) k) < N
    rw [if_neg (show ¬ nI 1 = nI 0 by decide)]
    have hb := sumN_b (f := fun t => (ss_ai h3 (some 134) 20 (nI t)).elim 0 Int32.toNatClampNeg) (B := 9999) k (fun t ht => by
      have z := mb_z1 c3 (show t < 8 by omega)
      show (ss_ai h3 (some 134) 20 (nI t)).elim 0 Int32.toNatClampNeg ≤ 9999
      rw [z]
      show (pv (zs Z1 1 ((Z1 1).set to (nI (w1 a to))) 1) t).toNatClampNeg ≤ 9999
      rw [zs_eq, pv_set (by omega)]
      have := wle to
      by_cases e : t = to
      · rw [if_pos e, nI_clamp (by omega)]; omega
      · rw [if_neg e, r1 t (by omega), nI_clamp (by omega)]; exact Nat.le_refl _)
    have : k * 9999 ≤ 8 * 9999 := Nat.mul_le_mul_right _ hk8
    omega)
  obtain ⟨h5, l5, Z5, g, c5, r5, w5, q5⟩ := lp
  refine ⟨h5, Z5, g, ?_, c5, r5, w5, q5⟩
  unfold mm_M_fillsPrices
  simp (disch := omega) only [pb_its, pb_l2, pb_ll, nI_add, pb_mul, if_true, if_false, pb_bs, pb_b2n, pb_bz0, pb_bz1, pb_10, pb_01, pb_i31, mk_is hk, mk_g0 hk, mk_g1 hk, mk_g2 hk, mk_g3 hk, mk_g4 hk, mk_g5 hk, mk_g6 hk, mk_g7 hk, mk_g8 hk, mk_g9 hk, mk_g10 hk, mk_g11 hk, mk_g12 hk, mk_g13 hk, mk_g14 hk, mk_g15 hk, mk_g16 hk, mk_g17 hk, mk_g18 hk, mk_g19 hk, mk_g20 hk, mk_g21 hk, mk_g22 hk, l1, mk_is ck1, mk_g0 ck1, mk_g1 ck1, mk_g2 ck1, mk_g3 ck1, mk_g4 ck1, mk_g5 ck1, mk_g6 ck1, mk_g7 ck1, mk_g8 ck1, mk_g9 ck1, mk_g10 ck1, mk_g11 ck1, mk_g12 ck1, mk_g13 ck1, mk_g14 ck1, mk_g15 ck1, mk_g16 ck1, mk_g17 ck1, mk_g18 ck1, mk_g19 ck1, mk_g20 ck1, mk_g21 ck1, mk_g22 ck1, po, e3, l5]
