/-! ===== pure basics ===== -/
theorem pb_lp {S E : Type} {body : S → Option (S ⊕ E)} (st : Nat → S) (n : Nat) {e : E} {N : Nat} (hN : n < N) (h1 : ∀ i, i < n → body (st i) = some (.inl (st (i + 1)))) (h2 : body (st n) = some (.inr e)) : ss_lp body N (st 0) = some e := by
  have key : ∀ d k, k + d = n → ∀ M, d < M → ss_lp body M (st k) = some e := by
    intro d
    induction d with
    | zero =>
      intro k hk M hM
      obtain ⟨M', rfl⟩ : ∃ M', M = M' + 1 := ⟨M - 1, by omega⟩
      have : k = n := by omega
      subst this
      rw [ss_lp, h2]
    | succ d ih =>
      intro k hk M hM
      obtain ⟨M', rfl⟩ : ∃ M', M = M' + 1 := ⟨M - 1, by omega⟩
      rw [ss_lp, h1 k (by omega)]
      exact ih (k + 1) (by omega) M' (by omega)
  exact key n 0 (by omega) N hN
/-- a loop whose state is found by an invariant -/
theorem pb_inv {S E : Type} {body : S → Option (S ⊕ E)} (I : S → Prop) (mu : S → Nat) (Po : E → Prop) (hs : ∀ s, I s → (∃ s', body s = some (.inl s') ∧ I s' ∧ mu s' < mu s) ∨ ∃ e, body s = some (.inr e) ∧ Po e) : ∀ (N : Nat) (s : S), I s → mu s < N → ∃ e, ss_lp body N s = some e ∧ Po e := by
  intro N
  induction N with
  | zero => intro s _ h; omega
  | succ N ih =>
    intro s hI hm
    rcases hs s hI with ⟨s', h1, h2, h3⟩ | ⟨e, h1, h2⟩
    · obtain ⟨e, g1, g2⟩ := ih s' h2 (by omega)
      exact ⟨e, by rw [ss_lp, h1]; exact g1, g2⟩
    · exact ⟨e, by rw [ss_lp, h1], h2⟩
theorem pb_step {S E : Type} {body : S → Option (S ⊕ E)} {s s' : S} {L : Nat} {e : E} (h1 : body s = some (.inl s')) (h2 : ss_lp body L s' = some e) : ss_lp body (L + 1) s = some e := by rw [ss_lp, h1]; exact h2
theorem pb_stop {S E : Type} {body : S → Option (S ⊕ E)} {s : S} {L : Nat} {e : E} (h1 : body s = some (.inr e)) : ss_lp body (L + 1) s = some e := by rw [ss_lp, h1]
theorem pb_b2 {α β γ : Type} (a : α) (b : β) (f : α → β → Option γ) : ss_b2 (some (a, b)) f = f a b := rfl
theorem pb_lit (n : Nat) : (OfNat.ofNat n : Int32) = nI n := rfl
/-! cells of a heap -/
theorem pb_gi {h : ss_Hp} {a c : Nat} {I : List Int32} {L : List Int64} {R : List (Option Nat)} (e : h.2 a = (c, I, L, R)) (j : Nat) : ss_gi h (some a) c j = I[j]? := by simp [ss_gi, e]
theorem pb_gl {h : ss_Hp} {a c : Nat} {I : List Int32} {L : List Int64} {R : List (Option Nat)} (e : h.2 a = (c, I, L, R)) (j : Nat) : ss_gl h (some a) c j = L[j]? := by simp [ss_gl, e]
theorem pb_gr {h : ss_Hp} {a c : Nat} {I : List Int32} {L : List Int64} {R : List (Option Nat)} (e : h.2 a = (c, I, L, R)) (j : Nat) : ss_gr h (some a) c j = R[j]? := by simp [ss_gr, e]
theorem pb_is {h : ss_Hp} {a c : Nat} {q : List Int32 × List Int64 × List (Option Nat)} (e : h.2 a = (c, q)) : ss_is h (some a) c = true := by simp [ss_is, e]
theorem pb_pi {h : ss_Hp} {a c : Nat} {I : List Int32} {L : List Int64} {R : List (Option Nat)} (e : h.2 a = (c, I, L, R)) {j : Nat} (hj : j < I.length) (v : Int32) : ss_pi h (some a) c j v = some (ss_hs h a (c, I.set j v, L, R)) := by simp [ss_pi, e, hj]
theorem pb_pl {h : ss_Hp} {a c : Nat} {I : List Int32} {L : List Int64} {R : List (Option Nat)} (e : h.2 a = (c, I, L, R)) {j : Nat} (hj : j < L.length) (v : Int64) : ss_pl h (some a) c j v = some (ss_hs h a (c, I, L.set j v, R)) := by simp [ss_pl, e, hj]
theorem pb_pr {h : ss_Hp} {a c : Nat} {I : List Int32} {L : List Int64} {R : List (Option Nat)} (e : h.2 a = (c, I, L, R)) {j : Nat} (hj : j < R.length) (v : Option Nat) : ss_pr h (some a) c j v = some (ss_hs h a (c, I, L, R.set j v)) := by simp [ss_pr, e, hj]
theorem pb_ai {h : ss_Hp} {a c : Nat} {I : List Int32} {L : List Int64} {R : List (Option Nat)} (e : h.2 a = (c, I, L, R)) {i : Nat} (hi : i < 2 ^ 31) : ss_ai h (some a) c (nI i) = I[i]? := by
  simp [ss_ai, e, nI_pos hi, nI_clamp hi]
theorem pb_al {h : ss_Hp} {a c : Nat} {I : List Int32} {L : List Int64} {R : List (Option Nat)} (e : h.2 a = (c, I, L, R)) {i : Nat} (hi : i < 2 ^ 31) : ss_al h (some a) c (nI i) = L[i]? := by
  simp [ss_al, e, nI_pos hi, nI_clamp hi]
theorem pb_ar {h : ss_Hp} {a c : Nat} {I : List Int32} {L : List Int64} {R : List (Option Nat)} (e : h.2 a = (c, I, L, R)) {i : Nat} (hi : i < 2 ^ 31) : ss_ar h (some a) c (nI i) = R[i]? := by
  simp [ss_ar, e, nI_pos hi, nI_clamp hi]
theorem pb_ui {h : ss_Hp} {a c : Nat} {I : List Int32} {L : List Int64} {R : List (Option Nat)} (e : h.2 a = (c, I, L, R)) {i : Nat} (hi : i < 2 ^ 31) (hj : i < I.length) (v : Int32) : ss_ui h (some a) c (nI i) v = some (ss_hs h a (c, I.set i v, L, R)) := by
  simp [ss_ui, e, nI_pos hi, nI_clamp hi, hj]
theorem pb_ul {h : ss_Hp} {a c : Nat} {I : List Int32} {L : List Int64} {R : List (Option Nat)} (e : h.2 a = (c, I, L, R)) {i : Nat} (hi : i < 2 ^ 31) (hj : i < L.length) (v : Int64) : ss_ul h (some a) c (nI i) v = some (ss_hs h a (c, I, L.set i v, R)) := by
  simp [ss_ul, e, nI_pos hi, nI_clamp hi, hj]
/-! the model's cells: its object at 118, its arrays behind it -/
def pm_tag (j : Nat) : Nat := if j = 0 then 21 else if j = 17 ∨ j = 22 then 22 else 20
def pm_refs : List (Option Nat) := [some 119, some 120, some 121, some 122, some 123, some 124, some 125, some 126, some 127, some 128, some 129, some 130, some 131, some 132, some 133, some 134, some 135, some 136, some 137, some 138, some 139, some 140, some 141]
/-- mi: the ints of the object, dx its long; A: the int arrays by number (0 tape, 1 sign .. ), K: the two long arrays (7 stack, 8 word) -/
def pm_H (n : Nat) (f : Nat → ss_Cl) (mi : List Int32) (dx : Int64) (A : Nat → List Int32) (K : Nat → List Int64) : ss_Hp := (n, fun k =>
  if k = 118 then (12, mi, [dx], pm_refs)
  else if k = 126 ∨ k = 127 then (23, [], K (k - 119), [])
  else if 118 < k ∧ k < 142 then (pm_tag (k - 119), A (k - 119), [], [])
  else f k)
section PM
variable {n : Nat} {f : Nat → ss_Cl} {mi : List Int32} {dx : Int64} {A : Nat → List Int32} {K : Nat → List Int64}
theorem pm_obj : (pm_H n f mi dx A K).2 118 = (12, mi, [dx], pm_refs) := rfl
theorem pm_arr {j : Nat} (h1 : j < 23) (h2 : j ≠ 7) (h3 : j ≠ 8) : (pm_H n f mi dx A K).2 (119 + j) = (pm_tag j, A j, [], []) := by
  have e1 : ¬ (119 + j = 118) := by omega
  have e2 : ¬ (119 + j = 126 ∨ 119 + j = 127) := by omega
  have e3 : 118 < 119 + j ∧ 119 + j < 142 := by omega
  have e4 : 119 + j - 119 = j := by omega
  simp [pm_H, e1, e2, e3, e4]
theorem pm_out {k : Nat} (h : k < 118 ∨ 142 ≤ k) : (pm_H n f mi dx A K).2 k = f k := by
  have e1 : ¬ (k = 118) := by omega
  have e2 : ¬ (k = 126 ∨ k = 127) := by omega
  have e3 : ¬ (118 < k ∧ k < 142) := by omega
  simp [pm_H, e1, e2, e3]
theorem pm_seti (v : List Int32) : ss_hs (pm_H n f mi dx A K) 118 (12, v, [dx], pm_refs) = pm_H n f v dx A K := by
  refine Prod.ext rfl (funext fun k => ?_)
  by_cases h : k = 118
  · simp [ss_hs, pm_H, h]
  · simp [ss_hs, pm_H, h]
theorem pm_setx (v : Int64) : ss_hs (pm_H n f mi dx A K) 118 (12, mi, [v], pm_refs) = pm_H n f mi v A K := by
  refine Prod.ext rfl (funext fun k => ?_)
  by_cases h : k = 118
  · simp [ss_hs, pm_H, h]
  · simp [ss_hs, pm_H, h]
theorem pm_seta {j : Nat} (h1 : j < 23) (h2 : j ≠ 7) (h3 : j ≠ 8) (v : List Int32) : ss_hs (pm_H n f mi dx A K) (119 + j) (pm_tag j, v, [], []) = pm_H n f mi dx (fun i => if i = j then v else A i) K := by
  refine Prod.ext rfl (funext fun k => ?_)
  by_cases h : k = 119 + j
  · subst h
    have e1 : ¬ (119 + j = 118) := by omega
    have e2 : ¬ (119 + j = 126 ∨ 119 + j = 127) := by omega
    have e3 : 118 < 119 + j ∧ 119 + j < 142 := by omega
    have e4 : 119 + j - 119 = j := by omega
    simp [ss_hs, pm_H, e1, e2, e3, e4]
  · have e5 : ¬ (k - 119 = j ∧ 118 < k) := by omega
    by_cases e : 118 < k ∧ k < 142
    · have e6 : ¬ (k - 119 = j) := by omega
      simp [ss_hs, pm_H, h, e6]
    · simp [ss_hs, pm_H, h, e]
theorem pm_setk {j : Nat} (h1 : j = 7 ∨ j = 8) (v : List Int64) : ss_hs (pm_H n f mi dx A K) (119 + j) (23, [], v, []) = pm_H n f mi dx A (fun i => if i = j then v else K i) := by
  refine Prod.ext rfl (funext fun k => ?_)
  by_cases h : k = 119 + j
  · subst h
    have e1 : ¬ (119 + j = 118) := by omega
    have e2 : 119 + j = 126 ∨ 119 + j = 127 := by omega
    have e4 : 119 + j - 119 = j := by omega
    simp [ss_hs, pm_H, e1, e2, e4]
  · by_cases e : k = 126 ∨ k = 127
    · have e6 : ¬ (k - 119 = j) := by omega
      simp [ss_hs, pm_H, h, e, e6]
    · simp [ss_hs, pm_H, h, e]
theorem pm_lng {j : Nat} (h1 : j = 7 ∨ j = 8) : (pm_H n f mi dx A K).2 (119 + j) = (23, [], K j, []) := by
  rcases h1 with rfl | rfl <;> rfl
/-! the instructions, on it -/
theorem pm_is : ss_is (pm_H n f mi dx A K) (some 118) 12 = true := rfl
theorem pm_gr (j : Nat) : ss_gr (pm_H n f mi dx A K) (some 118) 12 j = pm_refs[j]? := pb_gr pm_obj j
theorem pm_gi (j : Nat) : ss_gi (pm_H n f mi dx A K) (some 118) 12 j = mi[j]? := pb_gi pm_obj j
theorem pm_gl : ss_gl (pm_H n f mi dx A K) (some 118) 12 0 = some dx := rfl
theorem pm_pi {j : Nat} (hj : j < mi.length) (v : Int32) : ss_pi (pm_H n f mi dx A K) (some 118) 12 j v = some (pm_H n f (mi.set j v) dx A K) := by rw [pb_pi pm_obj hj, pm_seti]
theorem pm_pl (v : Int64) : ss_pl (pm_H n f mi dx A K) (some 118) 12 0 v = some (pm_H n f mi v A K) := by rw [pb_pl pm_obj (show 0 < [dx].length by simp)]; exact congrArg some (pm_setx v)
theorem pm_ai (a : Nat) {t j : Nat} {i : Nat} (ha : a = 119 + j) (h1 : j < 23 ∧ j ≠ 7 ∧ j ≠ 8 ∧ pm_tag j = t) (hi : i < 2 ^ 31) : ss_ai (pm_H n f mi dx A K) (some a) t (nI i) = (A j)[i]? := by
  subst ha
  have e := pm_arr (n := n) (f := f) (mi := mi) (dx := dx) (A := A) (K := K) h1.1 h1.2.1 h1.2.2.1
  rw [h1.2.2.2] at e
  exact pb_ai e hi
theorem pm_ui (a : Nat) {t j : Nat} {i : Nat} (ha : a = 119 + j) (h1 : j < 23 ∧ j ≠ 7 ∧ j ≠ 8 ∧ pm_tag j = t) (hi : i < 2 ^ 31) (hl : i < (A j).length) (v : Int32) : ss_ui (pm_H n f mi dx A K) (some a) t (nI i) v = some (pm_H n f mi dx (fun k => if k = j then (A j).set i v else A k) K) := by
  subst ha
  have e := pm_arr (n := n) (f := f) (mi := mi) (dx := dx) (A := A) (K := K) h1.1 h1.2.1 h1.2.2.1
  rw [h1.2.2.2] at e
  rw [pb_ui e hi hl, ← pm_seta h1.1 h1.2.1 h1.2.2.1, h1.2.2.2]
theorem pm_al (a : Nat) {j i : Nat} (ha : a = 119 + j) (h1 : j = 7 ∨ j = 8) (hi : i < 2 ^ 31) : ss_al (pm_H n f mi dx A K) (some a) 23 (nI i) = (K j)[i]? := by
  subst ha
  exact pb_al (pm_lng h1) hi
theorem pm_ul (a : Nat) {j i : Nat} (ha : a = 119 + j) (h1 : j = 7 ∨ j = 8) (hi : i < 2 ^ 31) (hl : i < (K j).length) (v : Int64) : ss_ul (pm_H n f mi dx A K) (some a) 23 (nI i) v = some (pm_H n f mi dx A (fun k => if k = j then (K j).set i v else K k)) := by
  subst ha
  rw [pb_ul (pm_lng h1) hi hl, ← pm_setk h1]
end PM
