/-! ===== spare ===== -/
theorem pc_nle : ∀ m, m < 1024 → pc_n m ≤ 10 := by decide +kernel
theorem pc_full : ∀ n, n ≤ 10 → ∀ m, m < 2 ^ n - 1 → pc_n m < pc_n (2 ^ n - 1) := by decide +kernel
theorem pc_fullle : ∀ n, n ≤ 10 → ∀ m, m < 2 ^ n → pc_n m ≤ pc_n (2 ^ n - 1) := by decide +kernel
def rB (row i : Nat) : Prop := (nI row >>> nI i) &&& nI 1 = nI 1
noncomputable def pI {α : Type} (P : Prop) (x y : α) : α := @ite _ P (Classical.propDecidable _) x y
theorem pI_t {α : Type} {P : Prop} {x y : α} (h : P) : pI P x y = x := if_pos h
theorem pI_f {α : Type} {P : Prop} {x y : α} (h : ¬ P) : pI P x y = y := if_neg h
/-- the least of fewest among those that are so -/
noncomputable def fw (P : Nat → Prop) : Nat → Option Nat
  | 0 => none
  | r + 1 => match fw P r with
    | none => pI (P r) (some r) none
    | some b => pI (pc_n r < pc_n b ∧ P r) (some r) (some b)
theorem fw_lt {P : Nat → Prop} : ∀ r b, fw P r = some b → b < r := by
  intro r
  induction r with
  | zero => intro b h; cases h
  | succ r ih =>
    intro b h
    rw [fw] at h
    cases hf : fw P r with
    | none =>
      rw [hf] at h
      by_cases c : P r
      · rw [pI_t c] at h
        cases h
        omega
      · rw [pI_f c] at h
        cases h
    | some b' =>
      rw [hf] at h
      have := ih b' hf
      by_cases c : pc_n r < pc_n b' ∧ P r
      · simp only [pI_t c] at h
        cases h
        omega
      · simp only [pI_f c] at h
        cases h
        omega
theorem fw_some {P : Nat → Prop} {r : Nat} (h : P r) : fw P (r + 1) ≠ none := by
  rw [fw]
  cases hf : fw P r with
  | none => rw [pI_t h]; intro e; cases e
  | some b' =>
    by_cases c : pc_n r < pc_n b' ∧ P r
    · simp only [pI_t c]; intro e; cases e
    · simp only [pI_f c]; intro e; cases e
/-! the snow of one step by a row of days -/
noncomputable def sv (a : List Int32) (row s : Nat) : Nat → Int32
  | 0 => pv a (14 + s)
  | i + 1 => pI (rB row i) (pv a 0) (sv a row s i)
def sV (a : List Int32) (row s d i : Nat) : Prop := (¬ (pI (rB row i) (nI 0) (sv a row s i)) < pv a 1) ∧ (sa_need a (d + i) >>> nI s) &&& nI 1 = nI 1
def sP (a : List Int32) (s d n row : Nat) : Prop := ∀ i, i < n → ¬ sV a row s d i
theorem cb_open {N : Nat} {h0 h : ss_Hp} {T : List Nat} {a : List Int32} {fo x : Int32} {RS : List (List ru_C)} {US : List (List Int32)} {I : Nat → Option (List Int32 × Int32 × Int32)} {Z : Nat → List Int32} {s d n row : Nat} (hc : cb_h h0 h T a fo x RS US I Z) (hs : s < 8) (hn : n ≤ 10) (hd : d < 10000) (h10 : pv a 10 = nI d) (hN : 5000 < N) : mm_P_isOpenByNeed N (some 114) (nI s) (nI n) (nI row) h = some (pI (sP a s d n row) (nI 1) (nI 0)) := by
  obtain ⟨v, ⟨⟨bV, bI, bT, bF, bD, bS, bH⟩, ⟨bR0, bR1, bR2, bR3, bR4⟩, ⟨bFo, bX, bNo⟩, ⟨bG0, bG1, bG2, bG3⟩, bOwn, bStr, bBes, bSn, bWl, bNd, bCl⟩⟩ := cb_r hc
  have hk := cb_ck hc
  rw [h10] at bG3
  have step : ∀ i, i < n → mm_P_isOpenByNeed_b17 N (some 114) (nI s) (nI n) (nI row) h (sv a row s i, nI i) = some (pI (sV a row s d i) (.inr (.inr ())) (.inl (sv a row s (i + 1), nI (i + 1)))) := by
    intro i hi
    have hlt : ¬ nI n ≤ nI i := nI_ge hi (by omega)
    have nd := bNd N s (d + i) hs (by omega)
    unfold mm_P_isOpenByNeed_b17 mm_P_isOpenByNeed_j38 mm_P_isOpenByNeed_j48 mm_P_isOpenByNeed_j92 mm_P_isOpenByNeed_j109
    rw [sv]
    unfold sV
    by_cases cb : rB row i
    · simp only [pI_t cb]
      have cb' : (nI row >>> nI i) &&& nI 1 = nI 1 := cb
      by_cases c1 : nI 0 < pv a 1
      · rw [pI_f (fun q => q.1 c1)]
        simp (disch := omega) only [pb_its, pb_l2, pb_ll, nI_add, pb_mul, if_true, if_false, pb_bs, pb_b2n, pb_bz0, pb_bz1, pb_10, pb_01, pb_i31, ck_is0 hk, ck_r0_0 hk, ck_r0_1 hk, ck_r0_2 hk, ck_r0_3 hk, ck_r0_4 hk, ck_r0_5 hk, ck_r0_6 hk, ck_r0_7 hk, ck_r0_8 hk, ck_r0_9 hk, ck_is1 hk, ck_r1_0 hk, ck_is3 hk, ck_r3_0 hk, ck_r3_1 hk, ck_is20 hk, ck_r20_0 hk, ck_r20_1 hk, ck_r20_2 hk, ck_is24 hk, ck_r24_1 hk, ck_r24_2 hk, ck_r24_3 hk, ck_r24_4 hk, ck_is33 hk, ck_r33_0 hk, ck_r33_1 hk, ck_is40 hk, ck_r40_0 hk, ck_is102 hk, ck_r102_0 hk, ck_r102_1 hk, ck_r102_2 hk, ck_r102_3 hk, ck_r102_4 hk, ck_r102_5 hk, ck_is103 hk, ck_r103_0 hk, ck_r103_1 hk, ck_is111 hk, ck_r111_0 hk, ck_r111_1 hk, ck_r111_2 hk, ck_r111_3 hk, ck_r111_4 hk, ck_is114 hk, ck_r114_0 hk, ck_r114_1 hk, ck_r114_2 hk, ck_r114_3 hk, ck_r114_4 hk, bV, bI, bT, bF, bD, bS, bH, bR0, bR1, bR2, bR3, bR4, bFo, bX, bNo, bG0, bG1, bG2, bG3, hlt, cb', c1]
      · by_cases c2 : (sa_need a (d + i) >>> nI s) &&& nI 1 = nI 1
        · rw [pI_t ⟨c1, c2⟩]
          simp (disch := omega) only [pb_its, pb_l2, pb_ll, nI_add, pb_mul, if_true, if_false, pb_bs, pb_b2n, pb_bz0, pb_bz1, pb_10, pb_01, pb_i31, ck_is0 hk, ck_r0_0 hk, ck_r0_1 hk, ck_r0_2 hk, ck_r0_3 hk, ck_r0_4 hk, ck_r0_5 hk, ck_r0_6 hk, ck_r0_7 hk, ck_r0_8 hk, ck_r0_9 hk, ck_is1 hk, ck_r1_0 hk, ck_is3 hk, ck_r3_0 hk, ck_r3_1 hk, ck_is20 hk, ck_r20_0 hk, ck_r20_1 hk, ck_r20_2 hk, ck_is24 hk, ck_r24_1 hk, ck_r24_2 hk, ck_r24_3 hk, ck_r24_4 hk, ck_is33 hk, ck_r33_0 hk, ck_r33_1 hk, ck_is40 hk, ck_r40_0 hk, ck_is102 hk, ck_r102_0 hk, ck_r102_1 hk, ck_r102_2 hk, ck_r102_3 hk, ck_r102_4 hk, ck_r102_5 hk, ck_is103 hk, ck_r103_0 hk, ck_r103_1 hk, ck_is111 hk, ck_r111_0 hk, ck_r111_1 hk, ck_r111_2 hk, ck_r111_3 hk, ck_r111_4 hk, ck_is114 hk, ck_r114_0 hk, ck_r114_1 hk, ck_r114_2 hk, ck_r114_3 hk, ck_r114_4 hk, bV, bI, bT, bF, bD, bS, bH, bR0, bR1, bR2, bR3, bR4, bFo, bX, bNo, bG0, bG1, bG2, bG3, hlt, cb', c1, nd, c2]
        · rw [pI_f (fun q => c2 q.2)]
          simp (disch := omega) only [pb_its, pb_l2, pb_ll, nI_add, pb_mul, if_true, if_false, pb_bs, pb_b2n, pb_bz0, pb_bz1, pb_10, pb_01, pb_i31, ck_is0 hk, ck_r0_0 hk, ck_r0_1 hk, ck_r0_2 hk, ck_r0_3 hk, ck_r0_4 hk, ck_r0_5 hk, ck_r0_6 hk, ck_r0_7 hk, ck_r0_8 hk, ck_r0_9 hk, ck_is1 hk, ck_r1_0 hk, ck_is3 hk, ck_r3_0 hk, ck_r3_1 hk, ck_is20 hk, ck_r20_0 hk, ck_r20_1 hk, ck_r20_2 hk, ck_is24 hk, ck_r24_1 hk, ck_r24_2 hk, ck_r24_3 hk, ck_r24_4 hk, ck_is33 hk, ck_r33_0 hk, ck_r33_1 hk, ck_is40 hk, ck_r40_0 hk, ck_is102 hk, ck_r102_0 hk, ck_r102_1 hk, ck_r102_2 hk, ck_r102_3 hk, ck_r102_4 hk, ck_r102_5 hk, ck_is103 hk, ck_r103_0 hk, ck_r103_1 hk, ck_is111 hk, ck_r111_0 hk, ck_r111_1 hk, ck_r111_2 hk, ck_r111_3 hk, ck_r111_4 hk, ck_is114 hk, ck_r114_0 hk, ck_r114_1 hk, ck_r114_2 hk, ck_r114_3 hk, ck_r114_4 hk, bV, bI, bT, bF, bD, bS, bH, bR0, bR1, bR2, bR3, bR4, bFo, bX, bNo, bG0, bG1, bG2, bG3, hlt, cb', c1, nd, c2]
    · simp only [pI_f cb]
      have cb' : ¬ (nI row >>> nI i) &&& nI 1 = nI 1 := cb
      by_cases c1 : sv a row s i < pv a 1
      · rw [pI_f (fun q => q.1 c1)]
        simp (disch := omega) only [pb_its, pb_l2, pb_ll, nI_add, pb_mul, if_true, if_false, pb_bs, pb_b2n, pb_bz0, pb_bz1, pb_10, pb_01, pb_i31, ck_is0 hk, ck_r0_0 hk, ck_r0_1 hk, ck_r0_2 hk, ck_r0_3 hk, ck_r0_4 hk, ck_r0_5 hk, ck_r0_6 hk, ck_r0_7 hk, ck_r0_8 hk, ck_r0_9 hk, ck_is1 hk, ck_r1_0 hk, ck_is3 hk, ck_r3_0 hk, ck_r3_1 hk, ck_is20 hk, ck_r20_0 hk, ck_r20_1 hk, ck_r20_2 hk, ck_is24 hk, ck_r24_1 hk, ck_r24_2 hk, ck_r24_3 hk, ck_r24_4 hk, ck_is33 hk, ck_r33_0 hk, ck_r33_1 hk, ck_is40 hk, ck_r40_0 hk, ck_is102 hk, ck_r102_0 hk, ck_r102_1 hk, ck_r102_2 hk, ck_r102_3 hk, ck_r102_4 hk, ck_r102_5 hk, ck_is103 hk, ck_r103_0 hk, ck_r103_1 hk, ck_is111 hk, ck_r111_0 hk, ck_r111_1 hk, ck_r111_2 hk, ck_r111_3 hk, ck_r111_4 hk, ck_is114 hk, ck_r114_0 hk, ck_r114_1 hk, ck_r114_2 hk, ck_r114_3 hk, ck_r114_4 hk, bV, bI, bT, bF, bD, bS, bH, bR0, bR1, bR2, bR3, bR4, bFo, bX, bNo, bG0, bG1, bG2, bG3, hlt, cb', c1]
      · by_cases c2 : (sa_need a (d + i) >>> nI s) &&& nI 1 = nI 1
        · rw [pI_t ⟨c1, c2⟩]
          simp (disch := omega) only [pb_its, pb_l2, pb_ll, nI_add, pb_mul, if_true, if_false, pb_bs, pb_b2n, pb_bz0, pb_bz1, pb_10, pb_01, pb_i31, ck_is0 hk, ck_r0_0 hk, ck_r0_1 hk, ck_r0_2 hk, ck_r0_3 hk, ck_r0_4 hk, ck_r0_5 hk, ck_r0_6 hk, ck_r0_7 hk, ck_r0_8 hk, ck_r0_9 hk, ck_is1 hk, ck_r1_0 hk, ck_is3 hk, ck_r3_0 hk, ck_r3_1 hk, ck_is20 hk, ck_r20_0 hk, ck_r20_1 hk, ck_r20_2 hk, ck_is24 hk, ck_r24_1 hk, ck_r24_2 hk, ck_r24_3 hk, ck_r24_4 hk, ck_is33 hk, ck_r33_0 hk, ck_r33_1 hk, ck_is40 hk, ck_r40_0 hk, ck_is102 hk, ck_r102_0 hk, ck_r102_1 hk, ck_r102_2 hk, ck_r102_3 hk, ck_r102_4 hk, ck_r102_5 hk, ck_is103 hk, ck_r103_0 hk, ck_r103_1 hk, ck_is111 hk, ck_r111_0 hk, ck_r111_1 hk, ck_r111_2 hk, ck_r111_3 hk, ck_r111_4 hk, ck_is114 hk, ck_r114_0 hk, ck_r114_1 hk, ck_r114_2 hk, ck_r114_3 hk, ck_r114_4 hk, bV, bI, bT, bF, bD, bS, bH, bR0, bR1, bR2, bR3, bR4, bFo, bX, bNo, bG0, bG1, bG2, bG3, hlt, cb', c1, nd, c2]
        · rw [pI_f (fun q => c2 q.2)]
          simp (disch := omega) only [pb_its, pb_l2, pb_ll, nI_add, pb_mul, if_true, if_false, pb_bs, pb_b2n, pb_bz0, pb_bz1, pb_10, pb_01, pb_i31, ck_is0 hk, ck_r0_0 hk, ck_r0_1 hk, ck_r0_2 hk, ck_r0_3 hk, ck_r0_4 hk, ck_r0_5 hk, ck_r0_6 hk, ck_r0_7 hk, ck_r0_8 hk, ck_r0_9 hk, ck_is1 hk, ck_r1_0 hk, ck_is3 hk, ck_r3_0 hk, ck_r3_1 hk, ck_is20 hk, ck_r20_0 hk, ck_r20_1 hk, ck_r20_2 hk, ck_is24 hk, ck_r24_1 hk, ck_r24_2 hk, ck_r24_3 hk, ck_r24_4 hk, ck_is33 hk, ck_r33_0 hk, ck_r33_1 hk, ck_is40 hk, ck_r40_0 hk, ck_is102 hk, ck_r102_0 hk, ck_r102_1 hk, ck_r102_2 hk, ck_r102_3 hk, ck_r102_4 hk, ck_r102_5 hk, ck_is103 hk, ck_r103_0 hk, ck_r103_1 hk, ck_is111 hk, ck_r111_0 hk, ck_r111_1 hk, ck_r111_2 hk, ck_r111_3 hk, ck_r111_4 hk, ck_is114 hk, ck_r114_0 hk, ck_r114_1 hk, ck_r114_2 hk, ck_r114_3 hk, ck_r114_4 hk, bV, bI, bT, bF, bD, bS, bH, bR0, bR1, bR2, bR3, bR4, bFo, bX, bNo, bG0, bG1, bG2, bG3, hlt, cb', c1, nd, c2]
  unfold mm_P_isOpenByNeed
  rcases ex_least (fun i => sV a row s d i) n with hno | ⟨i, i1, i2, i3⟩
  · have e : ss_lp (mm_P_isOpenByNeed_b17 N (some 114) (nI s) (nI n) (nI row) h) N (pv a (14 + s), nI 0) = some (.inl ()) := by
      refine pb_lp (fun i => (sv a row s i, nI i)) n (by omega) (fun i hi => ?_) ?_
      · rw [step i hi, pI_f (hno i hi)]
      · unfold mm_P_isOpenByNeed_b17
        simp (disch := omega) only [pb_its, pb_l2, pb_ll, nI_add, pb_mul, if_true, if_false, pb_bs, pb_b2n, pb_bz0, pb_bz1, pb_10, pb_01, pb_i31, nI_le (Nat.le_refl n) (by omega : n < 2 ^ 31)]
    rw [pI_t (show sP a s d n row from hno)]
    simp (disch := omega) only [pb_its, pb_l2, pb_ll, nI_add, pb_mul, if_true, if_false, pb_bs, pb_b2n, pb_bz0, pb_bz1, pb_10, pb_01, pb_i31, ck_is0 hk, ck_r0_0 hk, ck_r0_1 hk, ck_r0_2 hk, ck_r0_3 hk, ck_r0_4 hk, ck_r0_5 hk, ck_r0_6 hk, ck_r0_7 hk, ck_r0_8 hk, ck_r0_9 hk, ck_is1 hk, ck_r1_0 hk, ck_is3 hk, ck_r3_0 hk, ck_r3_1 hk, ck_is20 hk, ck_r20_0 hk, ck_r20_1 hk, ck_r20_2 hk, ck_is24 hk, ck_r24_1 hk, ck_r24_2 hk, ck_r24_3 hk, ck_r24_4 hk, ck_is33 hk, ck_r33_0 hk, ck_r33_1 hk, ck_is40 hk, ck_r40_0 hk, ck_is102 hk, ck_r102_0 hk, ck_r102_1 hk, ck_r102_2 hk, ck_r102_3 hk, ck_r102_4 hk, ck_r102_5 hk, ck_is103 hk, ck_r103_0 hk, ck_r103_1 hk, ck_is111 hk, ck_r111_0 hk, ck_r111_1 hk, ck_r111_2 hk, ck_r111_3 hk, ck_r111_4 hk, ck_is114 hk, ck_r114_0 hk, ck_r114_1 hk, ck_r114_2 hk, ck_r114_3 hk, ck_r114_4 hk, bV, bI, bT, bF, bD, bS, bH, bR0, bR1, bR2, bR3, bR4, bFo, bX, bNo, bG0, bG1, bG2, bG3, bSn s hs, e]
  · have e : ss_lp (mm_P_isOpenByNeed_b17 N (some 114) (nI s) (nI n) (nI row) h) N (pv a (14 + s), nI 0) = some (.inr ()) := by
      refine pb_lp (fun i => (sv a row s i, nI i)) i (by omega) (fun j hj => ?_) ?_
      · rw [step j (by omega), pI_f (i3 j hj)]
      · rw [step i i1, pI_t i2]
    rw [pI_f (fun q => q i i1 i2)]
    simp (disch := omega) only [pb_its, pb_l2, pb_ll, nI_add, pb_mul, if_true, if_false, pb_bs, pb_b2n, pb_bz0, pb_bz1, pb_10, pb_01, pb_i31, ck_is0 hk, ck_r0_0 hk, ck_r0_1 hk, ck_r0_2 hk, ck_r0_3 hk, ck_r0_4 hk, ck_r0_5 hk, ck_r0_6 hk, ck_r0_7 hk, ck_r0_8 hk, ck_r0_9 hk, ck_is1 hk, ck_r1_0 hk, ck_is3 hk, ck_r3_0 hk, ck_r3_1 hk, ck_is20 hk, ck_r20_0 hk, ck_r20_1 hk, ck_r20_2 hk, ck_is24 hk, ck_r24_1 hk, ck_r24_2 hk, ck_r24_3 hk, ck_r24_4 hk, ck_is33 hk, ck_r33_0 hk, ck_r33_1 hk, ck_is40 hk, ck_r40_0 hk, ck_is102 hk, ck_r102_0 hk, ck_r102_1 hk, ck_r102_2 hk, ck_r102_3 hk, ck_r102_4 hk, ck_r102_5 hk, ck_is103 hk, ck_r103_0 hk, ck_r103_1 hk, ck_is111 hk, ck_r111_0 hk, ck_r111_1 hk, ck_r111_2 hk, ck_r111_3 hk, ck_r111_4 hk, ck_is114 hk, ck_r114_0 hk, ck_r114_1 hk, ck_r114_2 hk, ck_r114_3 hk, ck_r114_4 hk, bV, bI, bT, bF, bD, bS, bH, bR0, bR1, bR2, bR3, bR4, bFo, bX, bNo, bG0, bG1, bG2, bG3, bSn s hs, e]
theorem mb_spared {N : Nat} {h0 h : ss_Hp} {T : List Nat} {a : List Int32} {fo x : Int32} {RS : List (List ru_C)} {US : List (List Int32)} {I : Nat → Option (List Int32 × Int32 × Int32)} {th2 fa2 kp2 : List Int32} {dx2 : Int64} {Z : Nat → List Int32} {s d n row : Nat} (hc : mb_h h0 h T a fo x RS US I fo a th2 fa2 kp2 dx2 Z) (hl : a.length = 124) (hs : s < 8) (hn : n ≤ 10) (hd : d < 10000) (h10 : pv a 10 = nI d) (hN : 5000 < N) : mm_M_isSpared N (some 118) (nI s) (nI n) (nI row) h = some (pI (sP a s d n row) (nI 1) (nI 0)) := by
  have hk := mb_mk hc
  have s10 := mb_said hc hl (show 10 < 124 by omega)
  rw [h10] at s10
  have s0 := mb_said hc hl (show 0 < 124 by omega)
  have s1 := mb_said hc hl (show 1 < 124 by omega)
  have z0 : nI 0 + pv a 0 = pv a 0 := Int32.zero_add _
  have zr : ∀ w : Int32, w + nI 0 = w := fun w => Int32.add_zero w
  have step : ∀ i, i < n → mm_M_isSpared_b14 N (some 118) (nI s) (nI n) (nI row) h (sv a row s i, nI i) = some (pI (sV a row s d i) (.inr (.inr ())) (.inl (sv a row s (i + 1), nI (i + 1)))) := by
    intro i hi
    have hlt : ¬ nI n ≤ nI i := nI_ge hi (by omega)
    have nd := mb_need (N := N) (d := d + i) hc hl (by omega)
    have io := po_isOf (N := N) (a1 := nI row) (show i < 32 by omega)
    have io2 := po_isOf (N := N) (a1 := sa_need a (d + i)) (show s < 32 by omega)
    unfold mm_M_isSpared_b14 mm_M_isSpared_j32 mm_M_isSpared_j66 mm_M_isSpared_j86
    rw [sv]
    unfold sV
    by_cases cb : rB row i
    · simp only [pI_t cb]
      have cb' : (nI row >>> nI i) &&& nI 1 = nI 1 := cb
      rw [if_pos cb'] at io
      by_cases c2 : (sa_need a (d + i) >>> nI s) &&& nI 1 = nI 1
      · rw [if_pos c2] at io2
        by_cases c1 : nI 0 < pv a 1
        · rw [pI_f (fun q => q.1 c1)]
          simp (disch := omega) only [pb_its, pb_l2, pb_ll, nI_add, pb_mul, if_true, if_false, pb_bs, pb_b2n, pb_bz0, pb_bz1, pb_10, pb_01, pb_i31, mk_is hk, mk_g0 hk, mk_g1 hk, mk_g2 hk, mk_g3 hk, mk_g4 hk, mk_g5 hk, mk_g6 hk, mk_g7 hk, mk_g8 hk, mk_g9 hk, mk_g10 hk, mk_g11 hk, mk_g12 hk, mk_g13 hk, mk_g14 hk, mk_g15 hk, mk_g16 hk, mk_g17 hk, mk_g18 hk, mk_g19 hk, mk_g20 hk, mk_g21 hk, mk_g22 hk, hlt, io, s10, nd, io2, s1, c1, s0, z0]
        · rw [pI_t ⟨c1, c2⟩]
          simp (disch := omega) only [pb_its, pb_l2, pb_ll, nI_add, pb_mul, if_true, if_false, pb_bs, pb_b2n, pb_bz0, pb_bz1, pb_10, pb_01, pb_i31, mk_is hk, mk_g0 hk, mk_g1 hk, mk_g2 hk, mk_g3 hk, mk_g4 hk, mk_g5 hk, mk_g6 hk, mk_g7 hk, mk_g8 hk, mk_g9 hk, mk_g10 hk, mk_g11 hk, mk_g12 hk, mk_g13 hk, mk_g14 hk, mk_g15 hk, mk_g16 hk, mk_g17 hk, mk_g18 hk, mk_g19 hk, mk_g20 hk, mk_g21 hk, mk_g22 hk, hlt, io, s10, nd, io2, s1, c1, s0, z0]
      · rw [if_neg c2] at io2
        rw [pI_f (fun q => c2 q.2)]
        simp (disch := omega) only [pb_its, pb_l2, pb_ll, nI_add, pb_mul, if_true, if_false, pb_bs, pb_b2n, pb_bz0, pb_bz1, pb_10, pb_01, pb_i31, mk_is hk, mk_g0 hk, mk_g1 hk, mk_g2 hk, mk_g3 hk, mk_g4 hk, mk_g5 hk, mk_g6 hk, mk_g7 hk, mk_g8 hk, mk_g9 hk, mk_g10 hk, mk_g11 hk, mk_g12 hk, mk_g13 hk, mk_g14 hk, mk_g15 hk, mk_g16 hk, mk_g17 hk, mk_g18 hk, mk_g19 hk, mk_g20 hk, mk_g21 hk, mk_g22 hk, hlt, io, s10, nd, io2, s1, s0, z0]
    · simp only [pI_f cb]
      have cb' : ¬ (nI row >>> nI i) &&& nI 1 = nI 1 := cb
      rw [if_neg cb'] at io
      by_cases c2 : (sa_need a (d + i) >>> nI s) &&& nI 1 = nI 1
      · rw [if_pos c2] at io2
        by_cases c1 : sv a row s i < pv a 1
        · rw [pI_f (fun q => q.1 c1)]
          simp (disch := omega) only [pb_its, pb_l2, pb_ll, nI_add, pb_mul, if_true, if_false, pb_bs, pb_b2n, pb_bz0, pb_bz1, pb_10, pb_01, pb_i31, mk_is hk, mk_g0 hk, mk_g1 hk, mk_g2 hk, mk_g3 hk, mk_g4 hk, mk_g5 hk, mk_g6 hk, mk_g7 hk, mk_g8 hk, mk_g9 hk, mk_g10 hk, mk_g11 hk, mk_g12 hk, mk_g13 hk, mk_g14 hk, mk_g15 hk, mk_g16 hk, mk_g17 hk, mk_g18 hk, mk_g19 hk, mk_g20 hk, mk_g21 hk, mk_g22 hk, hlt, io, s10, nd, io2, s1, c1, s0]
        · rw [pI_t ⟨c1, c2⟩]
          simp (disch := omega) only [pb_its, pb_l2, pb_ll, nI_add, pb_mul, if_true, if_false, pb_bs, pb_b2n, pb_bz0, pb_bz1, pb_10, pb_01, pb_i31, mk_is hk, mk_g0 hk, mk_g1 hk, mk_g2 hk, mk_g3 hk, mk_g4 hk, mk_g5 hk, mk_g6 hk, mk_g7 hk, mk_g8 hk, mk_g9 hk, mk_g10 hk, mk_g11 hk, mk_g12 hk, mk_g13 hk, mk_g14 hk, mk_g15 hk, mk_g16 hk, mk_g17 hk, mk_g18 hk, mk_g19 hk, mk_g20 hk, mk_g21 hk, mk_g22 hk, hlt, io, s10, nd, io2, s1, c1, s0]
      · rw [if_neg c2] at io2
        rw [pI_f (fun q => c2 q.2)]
        simp (disch := omega) only [pb_its, pb_l2, pb_ll, nI_add, pb_mul, if_true, if_false, pb_bs, pb_b2n, pb_bz0, pb_bz1, pb_10, pb_01, pb_i31, mk_is hk, mk_g0 hk, mk_g1 hk, mk_g2 hk, mk_g3 hk, mk_g4 hk, mk_g5 hk, mk_g6 hk, mk_g7 hk, mk_g8 hk, mk_g9 hk, mk_g10 hk, mk_g11 hk, mk_g12 hk, mk_g13 hk, mk_g14 hk, mk_g15 hk, mk_g16 hk, mk_g17 hk, mk_g18 hk, mk_g19 hk, mk_g20 hk, mk_g21 hk, mk_g22 hk, hlt, io, s10, nd, io2, s1, s0]
  have sn := mb_said hc hl (show 14 + s < 124 by omega)
  unfold mm_M_isSpared
  rcases ex_least (fun i => sV a row s d i) n with hno | ⟨i, i1, i2, i3⟩
  · have e : ss_lp (mm_M_isSpared_b14 N (some 118) (nI s) (nI n) (nI row) h) N (pv a (14 + s), nI 0) = some (.inl ()) := by
      refine pb_lp (fun i => (sv a row s i, nI i)) n (by omega) (fun i hi => ?_) ?_
      · rw [step i hi, pI_f (hno i hi)]
      · unfold mm_M_isSpared_b14
        simp (disch := omega) only [pb_its, pb_l2, pb_ll, nI_add, pb_mul, if_true, if_false, pb_bs, pb_b2n, pb_bz0, pb_bz1, pb_10, pb_01, pb_i31, nI_le (Nat.le_refl n) (by omega : n < 2 ^ 31)]
    rw [pI_t (show sP a s d n row from hno)]
    simp (disch := omega) only [pb_its, pb_l2, pb_ll, nI_add, pb_mul, if_true, if_false, pb_bs, pb_b2n, pb_bz0, pb_bz1, pb_10, pb_01, pb_i31, mk_is hk, mk_g0 hk, mk_g1 hk, mk_g2 hk, mk_g3 hk, mk_g4 hk, mk_g5 hk, mk_g6 hk, mk_g7 hk, mk_g8 hk, mk_g9 hk, mk_g10 hk, mk_g11 hk, mk_g12 hk, mk_g13 hk, mk_g14 hk, mk_g15 hk, mk_g16 hk, mk_g17 hk, mk_g18 hk, mk_g19 hk, mk_g20 hk, mk_g21 hk, mk_g22 hk, sn, e]
  · have e : ss_lp (mm_M_isSpared_b14 N (some 118) (nI s) (nI n) (nI row) h) N (pv a (14 + s), nI 0) = some (.inr ()) := by
      refine pb_lp (fun i => (sv a row s i, nI i)) i (by omega) (fun j hj => ?_) ?_
      · rw [step j (by omega), pI_f (i3 j hj)]
      · rw [step i i1, pI_t i2]
    rw [pI_f (fun q => q i i1 i2)]
    simp (disch := omega) only [pb_its, pb_l2, pb_ll, nI_add, pb_mul, if_true, if_false, pb_bs, pb_b2n, pb_bz0, pb_bz1, pb_10, pb_01, pb_i31, mk_is hk, mk_g0 hk, mk_g1 hk, mk_g2 hk, mk_g3 hk, mk_g4 hk, mk_g5 hk, mk_g6 hk, mk_g7 hk, mk_g8 hk, mk_g9 hk, mk_g10 hk, mk_g11 hk, mk_g12 hk, mk_g13 hk, mk_g14 hk, mk_g15 hk, mk_g16 hk, mk_g17 hk, mk_g18 hk, mk_g19 hk, mk_g20 hk, mk_g21 hk, mk_g22 hk, sn, e]
theorem pc_ltI {r b : Nat} (hr : r < 1024) (hb : b < 1024) : (pc_I (nI b) ≤ pc_I (nI r)) = ¬ (pc_n r < pc_n b) := by
  have h1 := pc_nle r hr
  have h2 := pc_nle b hb
  rw [pc_I_n (by omega), pc_I_n (by omega)]
  apply propext
  rw [nI_leI (by omega) (by omega)]
  omega
theorem jx_spare {N : Nat} {h h2 : ss_Hp} {z y w : Int32} {T : List Nat} {a : List Int32} {fo x : Int32} {RS : List (List ru_C)} {US : List (List Int32)} {I : Nat → Option (List Int32 × Int32 × Int32)} (hc : cl_h h T a fo x RS US I) (hm : mo_h h2 T a fo x RS US I) (ha : as_ok T a fo x RS US I) (hN : 5000 < N) : jr (mm_S_spare N (some 0) z y w h) (mm_M_spare N (some 118) z y w h2) := by
  obtain ⟨Z, hb⟩ := cb_of hc
  obtain ⟨v, ⟨⟨bV, bI, bT, bF, bD, bS, bH⟩, ⟨bR0, bR1, bR2, bR3, bR4⟩, ⟨bFo, bX, bNo⟩, ⟨bG0, bG1, bG2, bG3⟩, bOwn, bStr, bBes, bSn, bWl, bNd, bCl⟩⟩ := cb_r hb
  have hk := cb_ck hb
  obtain ⟨th, fa, kp, dx, Y, hm1⟩ := mb_of hm
  have hk2 := mb_mk hm1
  have ha0 := ha
  obtain ⟨⟨Ht1, Ht2⟩, ⟨k, m, d, Hsd, Hul, Hu⟩, HRS, Hfo, Hx, HI⟩ := ha
  have Hok := Hsd.1
  obtain ⟨Hl, ⟨Hk, H2⟩, ⟨Hm, H3⟩, ⟨Hd, H10⟩, Hwl, Hbe, How⟩ := Hok
  by_cases cs : ¬ sp_st a z
  · refine ⟨-nI 1, ?_, ?_⟩
    · unfold mm_S_spare mm_S_spare_j27
      simp (disch := omega) only [pb_its, pb_l2, pb_ll, nI_add, pb_mul, if_true, if_false, pb_bs, pb_b2n, pb_bz0, pb_bz1, pb_10, pb_01, pb_i31, ck_is0 hk, ck_r0_0 hk, ck_r0_1 hk, ck_r0_2 hk, ck_r0_3 hk, ck_r0_4 hk, ck_r0_5 hk, ck_r0_6 hk, ck_r0_7 hk, ck_r0_8 hk, ck_r0_9 hk, ck_is1 hk, ck_r1_0 hk, ck_is3 hk, ck_r3_0 hk, ck_r3_1 hk, ck_is20 hk, ck_r20_0 hk, ck_r20_1 hk, ck_r20_2 hk, ck_is24 hk, ck_r24_1 hk, ck_r24_2 hk, ck_r24_3 hk, ck_r24_4 hk, ck_is33 hk, ck_r33_0 hk, ck_r33_1 hk, ck_is40 hk, ck_r40_0 hk, ck_is102 hk, ck_r102_0 hk, ck_r102_1 hk, ck_r102_2 hk, ck_r102_3 hk, ck_r102_4 hk, ck_r102_5 hk, ck_is103 hk, ck_r103_0 hk, ck_r103_1 hk, ck_is111 hk, ck_r111_0 hk, ck_r111_1 hk, ck_r111_2 hk, ck_r111_3 hk, ck_r111_4 hk, ck_is114 hk, ck_r114_0 hk, ck_r114_1 hk, ck_r114_2 hk, ck_r114_3 hk, ck_r114_4 hk, bV, bI, bT, bF, bD, bS, bH, bR0, bR1, bR2, bR3, bR4, bFo, bX, bNo, bG0, bG1, bG2, bG3, cb_isStep hb, pb_cf cs]
    · unfold mm_M_spare mm_M_spare_j30
      simp (disch := omega) only [pb_its, pb_l2, pb_ll, nI_add, pb_mul, if_true, if_false, pb_bs, pb_b2n, pb_bz0, pb_bz1, pb_10, pb_01, pb_i31, mk_is hk2, mk_g0 hk2, mk_g1 hk2, mk_g2 hk2, mk_g3 hk2, mk_g4 hk2, mk_g5 hk2, mk_g6 hk2, mk_g7 hk2, mk_g8 hk2, mk_g9 hk2, mk_g10 hk2, mk_g11 hk2, mk_g12 hk2, mk_g13 hk2, mk_g14 hk2, mk_g15 hk2, mk_g16 hk2, mk_g17 hk2, mk_g18 hk2, mk_g19 hk2, mk_g20 hk2, mk_g21 hk2, mk_g22 hk2, mb_isStepC hm1 Hl, pb_cf cs]
  replace cs := Classical.not_not.mp cs
  by_cases cy : ¬ sp_in y 1 10
  · refine ⟨-nI 1, ?_, ?_⟩
    · unfold mm_S_spare mm_S_spare_j27
      simp (disch := omega) only [pb_its, pb_l2, pb_ll, nI_add, pb_mul, if_true, if_false, pb_bs, pb_b2n, pb_bz0, pb_bz1, pb_10, pb_01, pb_i31, ck_is0 hk, ck_r0_0 hk, ck_r0_1 hk, ck_r0_2 hk, ck_r0_3 hk, ck_r0_4 hk, ck_r0_5 hk, ck_r0_6 hk, ck_r0_7 hk, ck_r0_8 hk, ck_r0_9 hk, ck_is1 hk, ck_r1_0 hk, ck_is3 hk, ck_r3_0 hk, ck_r3_1 hk, ck_is20 hk, ck_r20_0 hk, ck_r20_1 hk, ck_r20_2 hk, ck_is24 hk, ck_r24_1 hk, ck_r24_2 hk, ck_r24_3 hk, ck_r24_4 hk, ck_is33 hk, ck_r33_0 hk, ck_r33_1 hk, ck_is40 hk, ck_r40_0 hk, ck_is102 hk, ck_r102_0 hk, ck_r102_1 hk, ck_r102_2 hk, ck_r102_3 hk, ck_r102_4 hk, ck_r102_5 hk, ck_is103 hk, ck_r103_0 hk, ck_r103_1 hk, ck_is111 hk, ck_r111_0 hk, ck_r111_1 hk, ck_r111_2 hk, ck_r111_3 hk, ck_r111_4 hk, ck_is114 hk, ck_r114_0 hk, ck_r114_1 hk, ck_r114_2 hk, ck_r114_3 hk, ck_r114_4 hk, bV, bI, bT, bF, bD, bS, bH, bR0, bR1, bR2, bR3, bR4, bFo, bX, bNo, bG0, bG1, bG2, bG3, cb_isStep hb, pb_ct cs, pq_withinC, pb_cf cy]
    · unfold mm_M_spare mm_M_spare_j30
      simp (disch := omega) only [pb_its, pb_l2, pb_ll, nI_add, pb_mul, if_true, if_false, pb_bs, pb_b2n, pb_bz0, pb_bz1, pb_10, pb_01, pb_i31, mk_is hk2, mk_g0 hk2, mk_g1 hk2, mk_g2 hk2, mk_g3 hk2, mk_g4 hk2, mk_g5 hk2, mk_g6 hk2, mk_g7 hk2, mk_g8 hk2, mk_g9 hk2, mk_g10 hk2, mk_g11 hk2, mk_g12 hk2, mk_g13 hk2, mk_g14 hk2, mk_g15 hk2, mk_g16 hk2, mk_g17 hk2, mk_g18 hk2, mk_g19 hk2, mk_g20 hk2, mk_g21 hk2, mk_g22 hk2, mb_isStepC hm1 Hl, pb_ct cs, po_inC, pb_cf cy]
  replace cy := Classical.not_not.mp cy
  by_cases cw : ¬ sp_in w 0 1
  · refine ⟨-nI 1, ?_, ?_⟩
    · unfold mm_S_spare mm_S_spare_j27
      simp (disch := omega) only [pb_its, pb_l2, pb_ll, nI_add, pb_mul, if_true, if_false, pb_bs, pb_b2n, pb_bz0, pb_bz1, pb_10, pb_01, pb_i31, ck_is0 hk, ck_r0_0 hk, ck_r0_1 hk, ck_r0_2 hk, ck_r0_3 hk, ck_r0_4 hk, ck_r0_5 hk, ck_r0_6 hk, ck_r0_7 hk, ck_r0_8 hk, ck_r0_9 hk, ck_is1 hk, ck_r1_0 hk, ck_is3 hk, ck_r3_0 hk, ck_r3_1 hk, ck_is20 hk, ck_r20_0 hk, ck_r20_1 hk, ck_r20_2 hk, ck_is24 hk, ck_r24_1 hk, ck_r24_2 hk, ck_r24_3 hk, ck_r24_4 hk, ck_is33 hk, ck_r33_0 hk, ck_r33_1 hk, ck_is40 hk, ck_r40_0 hk, ck_is102 hk, ck_r102_0 hk, ck_r102_1 hk, ck_r102_2 hk, ck_r102_3 hk, ck_r102_4 hk, ck_r102_5 hk, ck_is103 hk, ck_r103_0 hk, ck_r103_1 hk, ck_is111 hk, ck_r111_0 hk, ck_r111_1 hk, ck_r111_2 hk, ck_r111_3 hk, ck_r111_4 hk, ck_is114 hk, ck_r114_0 hk, ck_r114_1 hk, ck_r114_2 hk, ck_r114_3 hk, ck_r114_4 hk, bV, bI, bT, bF, bD, bS, bH, bR0, bR1, bR2, bR3, bR4, bFo, bX, bNo, bG0, bG1, bG2, bG3, cb_isStep hb, pb_ct cs, pq_withinC, pb_ct cy, pb_cf cw]
    · unfold mm_M_spare mm_M_spare_j30
      simp (disch := omega) only [pb_its, pb_l2, pb_ll, nI_add, pb_mul, if_true, if_false, pb_bs, pb_b2n, pb_bz0, pb_bz1, pb_10, pb_01, pb_i31, mk_is hk2, mk_g0 hk2, mk_g1 hk2, mk_g2 hk2, mk_g3 hk2, mk_g4 hk2, mk_g5 hk2, mk_g6 hk2, mk_g7 hk2, mk_g8 hk2, mk_g9 hk2, mk_g10 hk2, mk_g11 hk2, mk_g12 hk2, mk_g13 hk2, mk_g14 hk2, mk_g15 hk2, mk_g16 hk2, mk_g17 hk2, mk_g18 hk2, mk_g19 hk2, mk_g20 hk2, mk_g21 hk2, mk_g22 hk2, mb_isStepC hm1 Hl, pb_ct cs, po_inC, pb_ct cy, pb_cf cw]
  replace cw := Classical.not_not.mp cw
  obtain ⟨s, hs, rfl⟩ := sp_st_n Hk H2 cs
  obtain ⟨n, hn1, hn, rfl⟩ := sp_in_n cy (by omega) (by omega)
  have ht := sd_step Hsd (Or.inl (by omega))
  have hR := sd_told Hsd ht
  have Hd9 : d ≤ 999 := Hsd.2.2.2.2.1
  have hp2 : 2 ^ n ≤ 1024 := Nat.pow_le_pow_right (n := 2) (by omega) (show n ≤ 10 from hn)
  have hp1 : 0 < 2 ^ n := Nat.two_pow_pos n
  have sh : nI 1 <<< nI n = nI (2 ^ n) := pb_sh1 n (by omega)
  have sb : nI (2 ^ n) - nI 1 = nI (2 ^ n - 1) := pb_subn hp1
  have OP := fun row => cb_open (N := N) (row := row) hb (show s < 8 by omega) hn (show d < 10000 by omega) H10 hN
  have SP := fun row => mb_spared (N := N) (row := row) hm1 Hl (show s < 8 by omega) hn (show d < 10000 by omega) H10 hN
  generalize hP : sP a s d n = P at OP SP
  have full : P (2 ^ n - 1) := by
    rw [← hP]
    intro i hi q
    obtain ⟨q1, -⟩ := q
    have hb' : rB (2 ^ n - 1) i := by
      unfold rB
      rw [pb_bit (by omega) (by omega), Nat.testBit_two_pow_sub_one]
      simp [hi]
    rw [pI_t hb'] at q1
    obtain ⟨t, t1, t2, t3⟩ := hR.2.2.2.2.1
    rw [t3] at q1
    exact q1 (nI_lt t1 (by omega))
  have el : ss_lp (mm_P_fewestSweepings_b9 N (some 114) (nI s) (nI n) h) N (nI (2 ^ n - 1), nI 0) = some (nI ((fw P (2 ^ n)).getD (2 ^ n - 1))) := by
    refine pb_lp (fun r => (nI ((fw P r).getD (2 ^ n - 1)), nI r)) (2 ^ n) (by omega) (fun r hr => ?_) ?_
    · have hlt : ¬ nI (2 ^ n) ≤ nI r := nI_ge hr (by omega)
      have hch : (fw P r).getD (2 ^ n - 1) < 1024 := by
        cases hf : fw P r with
        | none => show 2 ^ n - 1 < 1024; omega
        | some b => have := fw_lt r b hf; show b < 1024; omega
      have b1 := pc_bit (N := N) (show r < 1024 by omega)
      have b2 := pc_bit (N := N) hch
      have cmp := pc_ltI (show r < 1024 by omega) hch
      have key : (fw P (r + 1)).getD (2 ^ n - 1) = pI (pc_n r < pc_n ((fw P r).getD (2 ^ n - 1)) ∧ P r) r ((fw P r).getD (2 ^ n - 1)) := by
        rw [fw]
        cases hf : fw P r with
        | none =>
          show (pI (P r) (some r) none).getD (2 ^ n - 1) = pI (pc_n r < pc_n (2 ^ n - 1) ∧ P r) r (2 ^ n - 1)
          by_cases c : P r
          · rw [pI_t c]
            by_cases c2 : r = 2 ^ n - 1
            · rw [c2, pI_f (fun q => by omega)]
              rfl
            · rw [pI_t ⟨pc_full n hn r (by omega), c⟩]
              rfl
          · rw [pI_f c, pI_f (fun q => c q.2)]
            rfl
        | some b =>
          show (pI (pc_n r < pc_n b ∧ P r) (some r) (some b)).getD (2 ^ n - 1) = pI (pc_n r < pc_n b ∧ P r) r b
          by_cases c : pc_n r < pc_n b ∧ P r
          · rw [pI_t c, pI_t c]
            rfl
          · rw [pI_f c, pI_f c]
            rfl
      generalize (fw P r).getD (2 ^ n - 1) = ch at *
      unfold mm_P_fewestSweepings_b9 mm_P_fewestSweepings_j43
      by_cases c1 : pc_n r < pc_n ch
      · have c1' : ¬ pc_I (nI ch) ≤ pc_I (nI r) := by rw [cmp]; exact fun q => q c1
        by_cases c2 : P r
        · rw [key, pI_t ⟨c1, c2⟩]
          have op := OP r
          rw [pI_t c2] at op
          simp (disch := omega) only [pb_its, pb_l2, pb_ll, nI_add, pb_mul, if_true, if_false, pb_bs, pb_b2n, pb_bz0, pb_bz1, pb_10, pb_01, pb_i31, sh, hlt, b1, b2, c1', op]
        · rw [key, pI_f (fun q => c2 q.2)]
          have op := OP r
          rw [pI_f c2] at op
          simp (disch := omega) only [pb_its, pb_l2, pb_ll, nI_add, pb_mul, if_true, if_false, pb_bs, pb_b2n, pb_bz0, pb_bz1, pb_10, pb_01, pb_i31, sh, hlt, b1, b2, c1', op]
      · have c1' : pc_I (nI ch) ≤ pc_I (nI r) := by rw [cmp]; exact c1
        rw [key, pI_f (fun q => c1 q.1)]
        simp (disch := omega) only [pb_its, pb_l2, pb_ll, nI_add, pb_mul, if_true, if_false, pb_bs, pb_b2n, pb_bz0, pb_bz1, pb_10, pb_01, pb_i31, sh, hlt, b1, b2, c1']
    · unfold mm_P_fewestSweepings_b9
      simp (disch := omega) only [pb_its, pb_l2, pb_ll, nI_add, pb_mul, if_true, if_false, pb_bs, pb_b2n, pb_bz0, pb_bz1, pb_10, pb_01, pb_i31, sh, nI_le (Nat.le_refl (2 ^ n)) (by omega : 2 ^ n < 2 ^ 31)]
  have ml : ss_lp (mm_M_spare_b38 N (some 118) (nI s) (nI n) w h2) N (-nI 1, nI 0) = some ((fw P (2 ^ n)).elim (-nI 1) nI) := by
    refine pb_lp (fun r => ((fw P r).elim (-nI 1) nI, nI r)) (2 ^ n) (by omega) (fun r hr => ?_) ?_
    · have hlt : ¬ nI (2 ^ n) ≤ nI r := nI_ge hr (by omega)
      have b1 := po_bits (N := N) (show r < 1024 by omega) (by omega)
      unfold mm_M_spare_b38 mm_M_spare_j64 mm_M_spare_j79
      rw [fw]
      cases hf : fw P r with
      | none =>
        show _ = some (Sum.inl ((pI (P r) (some r) none).elim (-nI 1) nI, nI (r + 1)))
        have m1 : -nI 1 < nI 0 := pb_m1
        by_cases c : P r
        · have op := SP r
          rw [pI_t c] at op ⊢
          simp (disch := omega) only [pb_its, pb_l2, pb_ll, nI_add, pb_mul, if_true, if_false, pb_bs, pb_b2n, pb_bz0, pb_bz1, pb_10, pb_01, pb_i31, sh, hlt, Option.elim, m1, op]
        · have op := SP r
          rw [pI_f c] at op ⊢
          simp (disch := omega) only [pb_its, pb_l2, pb_ll, nI_add, pb_mul, if_true, if_false, pb_bs, pb_b2n, pb_bz0, pb_bz1, pb_10, pb_01, pb_i31, sh, hlt, Option.elim, m1, op]
      | some b =>
        show _ = some (Sum.inl ((pI (pc_n r < pc_n b ∧ P r) (some r) (some b)).elim (-nI 1) nI, nI (r + 1)))
        have hbr := fw_lt r b hf
        have b2 := po_bits (N := N) (show b < 1024 by omega) (by omega)
        have cmp := pc_ltI (show r < 1024 by omega) (show b < 1024 by omega)
        have m1 : ¬ nI b < nI 0 := nI_nlt (by omega) (by omega)
        by_cases c1 : pc_n r < pc_n b
        · have c1' : ¬ pc_I (nI b) ≤ pc_I (nI r) := by rw [cmp]; exact fun q => q c1
          by_cases c2 : P r
          · rw [pI_t ⟨c1, c2⟩]
            have op := SP r
            rw [pI_t c2] at op
            simp (disch := omega) only [pb_its, pb_l2, pb_ll, nI_add, pb_mul, if_true, if_false, pb_bs, pb_b2n, pb_bz0, pb_bz1, pb_10, pb_01, pb_i31, sh, hlt, Option.elim, m1, b1, b2, c1', op]
          · rw [pI_f (fun q => c2 q.2)]
            have op := SP r
            rw [pI_f c2] at op
            simp (disch := omega) only [pb_its, pb_l2, pb_ll, nI_add, pb_mul, if_true, if_false, pb_bs, pb_b2n, pb_bz0, pb_bz1, pb_10, pb_01, pb_i31, sh, hlt, Option.elim, m1, b1, b2, c1', op]
        · have c1' : pc_I (nI b) ≤ pc_I (nI r) := by rw [cmp]; exact c1
          rw [pI_f (fun q => c1 q.1)]
          simp (disch := omega) only [pb_its, pb_l2, pb_ll, nI_add, pb_mul, if_true, if_false, pb_bs, pb_b2n, pb_bz0, pb_bz1, pb_10, pb_01, pb_i31, sh, hlt, Option.elim, m1, b1, b2, c1']
    · unfold mm_M_spare_b38
      simp (disch := omega) only [pb_its, pb_l2, pb_ll, nI_add, pb_mul, if_true, if_false, pb_bs, pb_b2n, pb_bz0, pb_bz1, pb_10, pb_01, pb_i31, sh, nI_le (Nat.le_refl (2 ^ n)) (by omega : 2 ^ n < 2 ^ 31)]
  have fs : fw P (2 ^ n) ≠ none := by
    have := fw_some full
    rw [show 2 ^ n - 1 + 1 = 2 ^ n by omega] at this
    exact this
  obtain ⟨b, hfb⟩ := Option.ne_none_iff_exists'.mp fs
  have hbl := fw_lt _ _ hfb
  rw [hfb] at el ml
  have el : ss_lp (mm_P_fewestSweepings_b9 N (some 114) (nI s) (nI n) h) N (nI (2 ^ n - 1), nI 0) = some (nI b) := el
  have ml : ss_lp (mm_M_spare_b38 N (some 118) (nI s) (nI n) w h2) N (-nI 1, nI 0) = some (nI b) := ml
  have b1 := pc_bit (N := N) (show b < 1024 by omega)
  have b2 := po_bits (N := N) (show b < 1024 by omega) (by omega)
  by_cases c0 : w = nI 0
  · subst c0
    refine ⟨pc_I (nI b), ?_, ?_⟩
    · unfold mm_S_spare mm_S_spare_j54 mm_P_fewestSweepings
      simp (disch := omega) only [pb_its, pb_l2, pb_ll, nI_add, pb_mul, if_true, if_false, pb_bs, pb_b2n, pb_bz0, pb_bz1, pb_10, pb_01, pb_i31, ck_is0 hk, ck_r0_0 hk, ck_r0_1 hk, ck_r0_2 hk, ck_r0_3 hk, ck_r0_4 hk, ck_r0_5 hk, ck_r0_6 hk, ck_r0_7 hk, ck_r0_8 hk, ck_r0_9 hk, ck_is1 hk, ck_r1_0 hk, ck_is3 hk, ck_r3_0 hk, ck_r3_1 hk, ck_is20 hk, ck_r20_0 hk, ck_r20_1 hk, ck_r20_2 hk, ck_is24 hk, ck_r24_1 hk, ck_r24_2 hk, ck_r24_3 hk, ck_r24_4 hk, ck_is33 hk, ck_r33_0 hk, ck_r33_1 hk, ck_is40 hk, ck_r40_0 hk, ck_is102 hk, ck_r102_0 hk, ck_r102_1 hk, ck_r102_2 hk, ck_r102_3 hk, ck_r102_4 hk, ck_r102_5 hk, ck_is103 hk, ck_r103_0 hk, ck_r103_1 hk, ck_is111 hk, ck_r111_0 hk, ck_r111_1 hk, ck_r111_2 hk, ck_r111_3 hk, ck_r111_4 hk, ck_is114 hk, ck_r114_0 hk, ck_r114_1 hk, ck_r114_2 hk, ck_r114_3 hk, ck_r114_4 hk, bV, bI, bT, bF, bD, bS, bH, bR0, bR1, bR2, bR3, bR4, bFo, bX, bNo, bG0, bG1, bG2, bG3, cb_isStep hb, pb_ct cs, pq_withinC, pb_ct cy, pb_ct cw, sh, sb, el, b1]
    · unfold mm_M_spare mm_M_spare_j99
      simp (disch := omega) only [pb_its, pb_l2, pb_ll, nI_add, pb_mul, if_true, if_false, pb_bs, pb_b2n, pb_bz0, pb_bz1, pb_10, pb_01, pb_i31, mk_is hk2, mk_g0 hk2, mk_g1 hk2, mk_g2 hk2, mk_g3 hk2, mk_g4 hk2, mk_g5 hk2, mk_g6 hk2, mk_g7 hk2, mk_g8 hk2, mk_g9 hk2, mk_g10 hk2, mk_g11 hk2, mk_g12 hk2, mk_g13 hk2, mk_g14 hk2, mk_g15 hk2, mk_g16 hk2, mk_g17 hk2, mk_g18 hk2, mk_g19 hk2, mk_g20 hk2, mk_g21 hk2, mk_g22 hk2, mb_isStepC hm1 Hl, pb_ct cs, po_inC, pb_ct cy, pb_ct cw, ml, b2]
  refine ⟨nI b, ?_, ?_⟩
  · unfold mm_S_spare mm_S_spare_j54 mm_P_fewestSweepings
    simp (disch := omega) only [pb_its, pb_l2, pb_ll, nI_add, pb_mul, if_true, if_false, pb_bs, pb_b2n, pb_bz0, pb_bz1, pb_10, pb_01, pb_i31, ck_is0 hk, ck_r0_0 hk, ck_r0_1 hk, ck_r0_2 hk, ck_r0_3 hk, ck_r0_4 hk, ck_r0_5 hk, ck_r0_6 hk, ck_r0_7 hk, ck_r0_8 hk, ck_r0_9 hk, ck_is1 hk, ck_r1_0 hk, ck_is3 hk, ck_r3_0 hk, ck_r3_1 hk, ck_is20 hk, ck_r20_0 hk, ck_r20_1 hk, ck_r20_2 hk, ck_is24 hk, ck_r24_1 hk, ck_r24_2 hk, ck_r24_3 hk, ck_r24_4 hk, ck_is33 hk, ck_r33_0 hk, ck_r33_1 hk, ck_is40 hk, ck_r40_0 hk, ck_is102 hk, ck_r102_0 hk, ck_r102_1 hk, ck_r102_2 hk, ck_r102_3 hk, ck_r102_4 hk, ck_r102_5 hk, ck_is103 hk, ck_r103_0 hk, ck_r103_1 hk, ck_is111 hk, ck_r111_0 hk, ck_r111_1 hk, ck_r111_2 hk, ck_r111_3 hk, ck_r111_4 hk, ck_is114 hk, ck_r114_0 hk, ck_r114_1 hk, ck_r114_2 hk, ck_r114_3 hk, ck_r114_4 hk, bV, bI, bT, bF, bD, bS, bH, bR0, bR1, bR2, bR3, bR4, bFo, bX, bNo, bG0, bG1, bG2, bG3, cb_isStep hb, pb_ct cs, pq_withinC, pb_ct cy, pb_ct cw, sh, sb, el, c0]
  · unfold mm_M_spare mm_M_spare_j99
    simp (disch := omega) only [pb_its, pb_l2, pb_ll, nI_add, pb_mul, if_true, if_false, pb_bs, pb_b2n, pb_bz0, pb_bz1, pb_10, pb_01, pb_i31, mk_is hk2, mk_g0 hk2, mk_g1 hk2, mk_g2 hk2, mk_g3 hk2, mk_g4 hk2, mk_g5 hk2, mk_g6 hk2, mk_g7 hk2, mk_g8 hk2, mk_g9 hk2, mk_g10 hk2, mk_g11 hk2, mk_g12 hk2, mk_g13 hk2, mk_g14 hk2, mk_g15 hk2, mk_g16 hk2, mk_g17 hk2, mk_g18 hk2, mk_g19 hk2, mk_g20 hk2, mk_g21 hk2, mk_g22 hk2, mb_isStepC hm1 Hl, pb_ct cs, po_inC, pb_ct cy, pb_ct cw, ml, c0]
