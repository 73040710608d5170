/-! ===== slices, bits, counts ===== -/
theorem pv_ext {l m : List Int32} (hl : l.length = m.length) (h : ∀ i, i < l.length → pv l i = pv m i) : l = m := by
  apply List.ext_getElem?
  intro i
  by_cases c : i < l.length
  · rw [pv_get c, pv_get (by omega), h i c]
  · rw [List.getElem?_eq_none (by omega), List.getElem?_eq_none (by omega)]
def sl (a : List Int32) (p n : Nat) : List Int32 := (List.range n).map (fun i => pv a (p + i))
theorem sl_len (a : List Int32) (p n : Nat) : (sl a p n).length = n := by simp [sl]
theorem sl_pv {a : List Int32} {p n i : Nat} (h : i < n) : pv (sl a p n) i = pv a (p + i) := by
  simp [sl, pv, h]
theorem sl_of {a b : List Int32} {p n : Nat} (h : ∀ i, i < n → pv b (p + i) = pv a (p + i)) : sl b p n = sl a p n := by
  refine pv_ext (by rw [sl_len, sl_len]) (fun i hi => ?_)
  rw [sl_len] at hi
  rw [sl_pv hi, sl_pv hi, h i hi]
theorem sl_set {a : List Int32} {p n i : Nat} {x : Int32} (h : i < n) (ha : p + i < a.length) : (sl a p n).set i x = sl (a.set (p + i) x) p n := by
  refine pv_ext (by simp [sl_len]) (fun j hj => ?_)
  simp only [List.length_set, sl_len] at hj
  rw [sl_pv hj, pv_set (by rw [sl_len]; exact h), pv_set ha]
  by_cases e : j = i
  · subst e; simp
  · rw [if_neg e, if_neg (by omega), sl_pv hj]
theorem sl_ne {a : List Int32} {p n j : Nat} {x : Int32} (h : j < p ∨ p + n ≤ j) : sl (a.set j x) p n = sl a p n := sl_of (fun i hi => pv_ne (by omega))
theorem sl_own {a : List Int32} {i p q r t : Nat} (hi : i < 4) : pv [pv a p, pv a q, pv a r, pv a t] i = pv a (if i = 0 then p else if i = 1 then q else if i = 2 then r else t) := by
  rcases (by omega : i = 0 ∨ i = 1 ∨ i = 2 ∨ i = 3) with h | h | h | h <;> subst h <;> rfl
theorem pb_own {a : List Int32} {i : Nat} (hi : i < 4) : pv [pv a 38, pv a 40, pv a 42, pv a 44] i = pv a (38 + 2 * i) := by
  rcases (by omega : i = 0 ∨ i = 1 ∨ i = 2 ∨ i = 3) with h | h | h | h <;> subst h <;> rfl
theorem pb_str {a : List Int32} {i : Nat} (hi : i < 4) : pv [pv a 39, pv a 41, pv a 43, pv a 45] i = pv a (38 + 2 * i + 1) := by
  rcases (by omega : i = 0 ∨ i = 1 ∨ i = 2 ∨ i = 3) with h | h | h | h <;> subst h <;> rfl
theorem pb_and1 (x : Int32) : x &&& nI 1 = nI 0 ∨ x &&& nI 1 = nI 1 := by
  obtain ⟨j, hj, e⟩ := pk_andE x (m := nI 1) 1 (by decide)
  rcases (by omega : j = 0 ∨ j = 1) with h | h
  · left; rw [e, h]
  · right; rw [e, h]
theorem pb_bitv (x : Int32) : (x &&& nI 1) = if x &&& nI 1 = nI 1 then nI 1 else nI 0 := by
  rcases pb_and1 x with h | h
  · rw [h, if_neg (by decide)]
  · rw [h, if_pos rfl]
theorem pb_bitl (x : Int32) : (x &&& nI 1).toInt64 = if x &&& nI 1 = nI 1 then 1 else 0 := by
  rcases pb_and1 x with h | h
  · rw [h, if_neg (by decide)]; rfl
  · rw [h, if_pos rfl]; rfl
theorem pb_bit0 (x : Int32) : (x &&& nI 1 = nI 0) = ¬ (x &&& nI 1 = nI 1) := by
  rcases pb_and1 x with h | h
  · rw [h]; simp; decide
  · rw [h]; simp; decide
theorem pb_sm : ∀ k, k < 32 → ((nI k).toBitVec.smod 32).toNat = k := by decide +kernel
theorem pb_shr {m k : Nat} (hm : m < 2 ^ 31) (hk : k < 32) : nI m >>> nI k = nI (m / 2 ^ k) := pk_shrN hm (nI k) k (pb_sm k hk)
theorem pb_bit {m k : Nat} (hm : m < 2 ^ 31) (hk : k < 32) : ((nI m >>> nI k) &&& nI 1 = nI 1) = (m.testBit k = true) := by
  rw [pb_shr hm hk, pk_andN (n := m / 2 ^ k) (Nat.lt_of_le_of_lt (Nat.div_le_self _ _) (by omega)) (m := nI 1) 1 (by decide), nI_eq (by omega) (by omega)]
  rw [Nat.testBit_eq_decide_div_mod_eq]
  simp
/-- how many zeros stand below the lowest bit -/
def pc_z : Nat → Nat → Nat
  | 0, _ => 0
  | k + 1, l => if l % 2 = 1 then 0 else 1 + pc_z k (l / 2)
theorem pc_z_spec : ∀ k l, 0 < l → l < 2 ^ k → pc_z k l < k ∧ l.testBit (pc_z k l) = true ∧ ∀ j, j < pc_z k l → l.testBit j = false := by
  intro k
  induction k with
  | zero => intro l h1 h2; simp at h2; omega
  | succ k ih =>
    intro l h1 h2
    rw [pc_z]
    split
    · next h => exact ⟨by omega, by simp [Nat.testBit_zero, h], fun j hj => by omega⟩
    · next h =>
      have h3 : l / 2 < 2 ^ k := by rw [Nat.pow_succ] at h2; omega
      obtain ⟨g1, g2, g3⟩ := ih (l / 2) (by omega) h3
      refine ⟨by omega, by rw [Nat.add_comm, Nat.testBit_succ]; exact g2, fun j hj => ?_⟩
      cases j with
      | zero => simp [Nat.testBit_zero, h]
      | succ j => rw [Nat.testBit_succ]; exact g3 j (by omega)
theorem pc_low {l : Nat} (h0 : 0 < l) (hl : l < 2 ^ 31) : nI l &&& -nI l = nI (2 ^ pc_z 31 l) := by
  obtain ⟨g1, g2, g3⟩ := pc_z_spec 31 l h0 hl
  apply Int32.toBitVec_inj.1
  show BitVec.ofNat 32 l &&& -(BitVec.ofNat 32 l) = BitVec.ofNat 32 (2 ^ pc_z 31 l)
  apply BitVec.eq_of_getLsbD_eq
  intro i hi
  rw [BitVec.getLsbD_and, BitVec.getLsbD_neg, BitVec.getLsbD_ofNat, BitVec.getLsbD_ofNat, Nat.testBit_two_pow]
  by_cases c : i = pc_z 31 l
  · subst c
    have hn : ¬ ∃ j, j < pc_z 31 l ∧ (BitVec.ofNat 32 l).getLsbD j = true := by
      rintro ⟨j, hj, e⟩
      rw [BitVec.getLsbD_ofNat, g3 j hj] at e
      simp at e
    simp [g2, hn, hi]
  · by_cases c2 : i < pc_z 31 l
    · have e : ¬ pc_z 31 l = i := by omega
      simp [g3 i c2, e]
    · have e : ¬ pc_z 31 l = i := by omega
      have hn : ∃ j, j < i ∧ (BitVec.ofNat 32 l).getLsbD j = true := ⟨pc_z 31 l, by omega, by rw [BitVec.getLsbD_ofNat, g2]; simp; omega⟩
      simp [hn, e, hi]
theorem pc_bc : ∀ t, t < 31 → mm_JI_bitCount 0 (nI (2 ^ t) - 1) = some (nI t) := by decide +kernel
theorem pc_bit {N m : Nat} (hm : m < 1024) : mm_JI_bitCount N (nI m) = some (pc_I (nI m)) := by
  have : ∀ m, m < 1024 → mm_JI_bitCount 0 (nI m) = some (nI (pc_n m)) := by decide +kernel
  rw [pc_I_n (by omega)]
  exact this m hm
theorem pc_ctz {N l : Nat} (h0 : 0 < l) (hl : l < 2 ^ 31) : mm_JI_bitCount N ((nI l &&& -nI l) - nI 1) = some (nI (pc_z 31 l)) := by
  rw [pc_low h0 hl]
  exact pc_bc _ (pc_z_spec 31 l h0 hl).1
/-- the days on which a step is needed, step by step -/
def nd_R (nds a : List Int32) : Prop := nds.length = 8 ∧ ∀ s, s < 8 → ∃ m, m < 2 ^ 31 ∧ pv nds s = nI m ∧ ∀ d, d < 31 → ((pv a (62 + d) >>> nI s) &&& nI 1 = nI 1 ↔ m.testBit d = true)
theorem nd_nl {a : List Int32} {s m : Nat} (hm : m < 2 ^ 31) (h : ∀ d, d < 31 → ((pv a (62 + d) >>> nI s) &&& nI 1 = nI 1 ↔ m.testBit d = true)) : ∀ k d, d + k = 31 → sa_nl a s k d = if m / 2 ^ d = 0 then .inl () else .inr (nI (d + pc_z k (m / 2 ^ d))) := by
  intro k
  induction k with
  | zero =>
    intro d hd
    have : d = 31 := by omega
    subst this
    rw [sa_nl, if_pos (Nat.div_eq_of_lt hm)]
  | succ k ih =>
    intro d hd
    have hb : m.testBit d = decide (m / 2 ^ d % 2 = 1) := Nat.testBit_eq_decide_div_mod_eq
    have hs : m / 2 ^ (d + 1) = m / 2 ^ d / 2 := by rw [Nat.pow_succ, Nat.div_div_eq_div_mul]
    rw [sa_nl]
    by_cases c : m / 2 ^ d % 2 = 1
    · rw [if_pos ((h d (by omega)).mpr (by rw [hb]; simp [c])), if_neg (by omega), pc_z, if_pos c]
      rfl
    · rw [if_neg (fun z => by have := (h d (by omega)).mp z; rw [hb] at this; simp [c] at this), ih (d + 1) (by omega), hs]
      by_cases c2 : m / 2 ^ d = 0
      · rw [if_pos c2, c2]; rfl
      · rw [if_neg c2, if_neg (by omega), pc_z, if_neg c]
        congr 2
        omega
theorem nd_next {a : List Int32} {s m d : Nat} (hm : m < 2 ^ 31) (hd : d ≤ 30) (h : ∀ d, d < 31 → ((pv a (62 + d) >>> nI s) &&& nI 1 = nI 1 ↔ m.testBit d = true)) : sa_next a s d = if m / 2 ^ d = 0 then nI 99 else nI (pc_z 31 (m / 2 ^ d)) := by
  have hk : ∀ k j l, 0 < l → l < 2 ^ k → pc_z (k + j) l = pc_z k l := by
    intro k
    induction k with
    | zero => intro j l h1 h2; simp at h2; omega
    | succ k ih =>
      intro j l h1 h2
      rw [show k + 1 + j = (k + j) + 1 by omega, pc_z, pc_z]
      split
      · rfl
      · rw [ih j (l / 2) (by omega) (by rw [Nat.pow_succ] at h2; omega)]
  unfold sa_next
  rw [nd_nl hm h (31 - d) d (by omega)]
  by_cases c : m / 2 ^ d = 0
  · rw [if_pos c, if_pos c]
  · rw [if_neg c, if_neg c]
    have hlt : m / 2 ^ d < 2 ^ (31 - d) := by
      rw [Nat.div_lt_iff_lt_mul (Nat.two_pow_pos d), ← Nat.pow_add, show 31 - d + d = 31 by omega]
      exact hm
    have e := hk (31 - d) d (m / 2 ^ d) (Nat.pos_of_ne_zero c) hlt
    rw [show 31 - d + d = 31 by omega] at e
    show nI (d + pc_z (31 - d) (m / 2 ^ d)) - nI d = _
    rw [pk_sub (by omega), e]
    congr 1
    omega
theorem sa_next_late {a : List Int32} {s d : Nat} (hd : 30 < d) : sa_next a s d = nI 99 := by
  unfold sa_next
  rw [show 31 - d = 0 by omega, sa_nl]
