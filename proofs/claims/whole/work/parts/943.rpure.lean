/-! ===== rule: what is told, purely ===== -/
abbrev rR : Type := Nat ⊕ (Nat × List (Nat × Nat) × Nat)
def rr_pre (E : List (Nat × Nat)) : rR → rR
  | .inl F => .inl F
  | .inr (p, E', c) => .inr (p, E ++ E', c)
def rr_bnd : rR → (Nat → Nat → rR) → rR
  | .inl F, _ => .inl F
  | .inr (p, E, c), f => rr_pre E (f p c)
theorem rr_pre0 {r : rR} : rr_pre [] r = r := by
  rcases r with F | ⟨p, E, c⟩ <;> rfl
theorem rr_pp {E E' : List (Nat × Nat)} {r : rR} : rr_pre E (rr_pre E' r) = rr_pre (E ++ E') r := by
  rcases r with F | ⟨p, E2, c⟩
  · rfl
  · show (.inr (p, E ++ (E' ++ E2), c) : rR) = .inr (p, (E ++ E') ++ E2, c)
    rw [List.append_assoc]
theorem rr_bp {E : List (Nat × Nat)} {r : rR} {f : Nat → Nat → rR} : rr_bnd (rr_pre E r) f = rr_pre E (rr_bnd r f) := by
  rcases r with F | ⟨p, E2, c⟩
  · rfl
  · exact rr_pp.symm
theorem rr_bb {r : rR} {f g : Nat → Nat → rR} : rr_bnd (rr_bnd r f) g = rr_bnd r (fun p c => rr_bnd (f p c) g) := by
  rcases r with F | ⟨p, E2, c⟩
  · rfl
  · exact rr_bp
theorem rr_cg {r : rR} {f g : Nat → Nat → rR} (h : ∀ p E c, r = .inr (p, E, c) → f p c = g p c) : rr_bnd r f = rr_bnd r g := by
  rcases r with F | ⟨p, E2, c⟩
  · rfl
  · show rr_pre E2 (f p c) = rr_pre E2 (g p c)
    rw [h p E2 c rfl]
def rr_f (T : List Nat) (p w : Nat) : Nat := 1 + 8 * blk T p + w
def rW_l : List (List Nat) := [[104, 111, 117, 115, 101], [115, 116, 101, 112], [111, 119, 110], [115, 110, 111, 119], [115, 116, 114, 101, 110, 103, 116, 104], [115, 119, 101, 112, 116], [98, 101, 102, 111, 114, 101], [99, 108, 111, 115, 101, 100], [110, 101, 101, 100, 101, 100], [110, 101, 120, 116], [98, 101, 115, 105, 100, 101], [100, 97, 121]]
theorem rW_ok : wok 2 rW_l := by
  have e : rW_l.length = 12 := rfl
  refine ⟨by omega, by omega, by decide +kernel, by decide +kernel, ?_, fun k hk => ?_, fun k hk => ?_⟩
  · have h : ∀ k, k < 12 → ∀ j, j < (rW_l.getD k []).length → ss_ch 2 (wb rW_l k + j) = nI ((rW_l.getD k []).getD j 0) := by decide +kernel
    exact h
  · have h : ∀ k, k < 11 → ss_ch 2 (wb rW_l k + (rW_l.getD k []).length) = nI 32 := by decide +kernel
    exact h k (by omega)
  · have h : ∀ k, k < 12 → 0 < (rW_l.getD k []).length ∧ (rW_l.getD k []).length ≤ 8 ∧ ∀ i, i < (rW_l.getD k []).length → 97 ≤ (rW_l.getD k []).getD i 0 ∧ (rW_l.getD k []).getD i 0 ≤ 122 := by decide +kernel
    exact h k (by omega)
theorem rW_0 : pkn (rW_l.getD 0 []) 0 (rW_l.getD 0 []).length = 448546567013 := by decide +kernel
theorem rW_1 : pkn (rW_l.getD 1 []) 0 (rW_l.getD 1 []).length = 1937007984 := by decide +kernel
theorem rW_2 : pkn (rW_l.getD 2 []) 0 (rW_l.getD 2 []).length = 7305070 := by decide +kernel
theorem rW_3 : pkn (rW_l.getD 3 []) 0 (rW_l.getD 3 []).length = 1936617335 := by decide +kernel
theorem rW_4 : pkn (rW_l.getD 4 []) 0 (rW_l.getD 4 []).length = 8319400191629685864 := by decide +kernel
theorem rW_5 : pkn (rW_l.getD 5 []) 0 (rW_l.getD 5 []).length = 495924375668 := by decide +kernel
theorem rW_6 : pkn (rW_l.getD 6 []) 0 (rW_l.getD 6 []).length = 108187649798757 := by decide +kernel
theorem rW_7 : pkn (rW_l.getD 7 []) 0 (rW_l.getD 7 []).length = 109317377451364 := by decide +kernel
theorem rW_8 : pkn (rW_l.getD 8 []) 0 (rW_l.getD 8 []).length = 121381771830628 := by decide +kernel
theorem rW_9 : pkn (rW_l.getD 9 []) 0 (rW_l.getD 9 []).length = 1852143732 := by decide +kernel
theorem rW_10 : pkn (rW_l.getD 10 []) 0 (rW_l.getD 10 []).length = 108187867505765 := by decide +kernel
theorem rW_11 : pkn (rW_l.getD 11 []) 0 (rW_l.getD 11 []).length = 6578553 := by decide +kernel
def rw_sweep : List Nat := [115, 119, 101, 101, 112]
theorem rw_sweep_wl : wl rw_sweep := by
  have h : 0 < rw_sweep.length ∧ rw_sweep.length ≤ 8 ∧ ∀ i, i < 5 → 97 ≤ rw_sweep.getD i 0 ∧ rw_sweep.getD i 0 ≤ 122 := by decide +kernel
  exact h
theorem rw_sweep_pk : pkn rw_sweep 0 rw_sweep.length = 495924372848 := by decide +kernel
theorem rw_sweep_ok : wok 1 [rw_sweep] := by
  refine ⟨by omega, by simp, by decide +kernel, by decide +kernel, ?_, fun k hk => ?_, fun k hk => ?_⟩
  · have h : ∀ k, k < 1 → ∀ j, j < ([rw_sweep].getD k []).length → ss_ch 1 (wb [rw_sweep] k + j) = nI (([rw_sweep].getD k []).getD j 0) := by decide +kernel
    exact h
  · have hk : k + 1 < 1 := hk
    omega
  · have hk : k < 1 := hk
    have e : k = 0 := by omega
    rw [e]
    exact rw_sweep_wl
def rw_if : List Nat := [105, 102]
theorem rw_if_wl : wl rw_if := by
  have h : 0 < rw_if.length ∧ rw_if.length ≤ 8 ∧ ∀ i, i < 2 → 97 ≤ rw_if.getD i 0 ∧ rw_if.getD i 0 ≤ 122 := by decide +kernel
  exact h
theorem rw_if_pk : pkn rw_if 0 rw_if.length = 26982 := by decide +kernel
theorem rw_if_ok : wok 4 [rw_if] := by
  refine ⟨by omega, by simp, by decide +kernel, by decide +kernel, ?_, fun k hk => ?_, fun k hk => ?_⟩
  · have h : ∀ k, k < 1 → ∀ j, j < ([rw_if].getD k []).length → ss_ch 4 (wb [rw_if] k + j) = nI (([rw_if].getD k []).getD j 0) := by decide +kernel
    exact h
  · have hk : k + 1 < 1 := hk
    omega
  · have hk : k < 1 := hk
    have e : k = 0 := by omega
    rw [e]
    exact rw_if_wl
def rw_not : List Nat := [110, 111, 116]
theorem rw_not_wl : wl rw_not := by
  have h : 0 < rw_not.length ∧ rw_not.length ≤ 8 ∧ ∀ i, i < 3 → 97 ≤ rw_not.getD i 0 ∧ rw_not.getD i 0 ≤ 122 := by decide +kernel
  exact h
theorem rw_not_pk : pkn rw_not 0 rw_not.length = 7237492 := by decide +kernel
theorem rw_not_ok : wok 5 [rw_not] := by
  refine ⟨by omega, by simp, by decide +kernel, by decide +kernel, ?_, fun k hk => ?_, fun k hk => ?_⟩
  · have h : ∀ k, k < 1 → ∀ j, j < ([rw_not].getD k []).length → ss_ch 5 (wb [rw_not] k + j) = nI (([rw_not].getD k []).getD j 0) := by decide +kernel
    exact h
  · have hk : k + 1 < 1 := hk
    omega
  · have hk : k < 1 := hk
    have e : k = 0 := by omega
    rw [e]
    exact rw_not_wl
def rw_and : List Nat := [97, 110, 100]
theorem rw_and_wl : wl rw_and := by
  have h : 0 < rw_and.length ∧ rw_and.length ≤ 8 ∧ ∀ i, i < 3 → 97 ≤ rw_and.getD i 0 ∧ rw_and.getD i 0 ≤ 122 := by decide +kernel
  exact h
theorem rw_and_pk : pkn rw_and 0 rw_and.length = 6385252 := by decide +kernel
theorem rw_and_ok : wok 7 [rw_and] := by
  refine ⟨by omega, by simp, by decide +kernel, by decide +kernel, ?_, fun k hk => ?_, fun k hk => ?_⟩
  · have h : ∀ k, k < 1 → ∀ j, j < ([rw_and].getD k []).length → ss_ch 7 (wb [rw_and] k + j) = nI (([rw_and].getD k []).getD j 0) := by decide +kernel
    exact h
  · have hk : k + 1 < 1 := hk
    omega
  · have hk : k < 1 := hk
    have e : k = 0 := by omega
    rw [e]
    exact rw_and_wl
def rw_or : List Nat := [111, 114]
theorem rw_or_wl : wl rw_or := by
  have h : 0 < rw_or.length ∧ rw_or.length ≤ 8 ∧ ∀ i, i < 2 → 97 ≤ rw_or.getD i 0 ∧ rw_or.getD i 0 ≤ 122 := by decide +kernel
  exact h
theorem rw_or_pk : pkn rw_or 0 rw_or.length = 28530 := by decide +kernel
theorem rw_or_ok : wok 8 [rw_or] := by
  refine ⟨by omega, by simp, by decide +kernel, by decide +kernel, ?_, fun k hk => ?_, fun k hk => ?_⟩
  · have h : ∀ k, k < 1 → ∀ j, j < ([rw_or].getD k []).length → ss_ch 8 (wb [rw_or] k + j) = nI (([rw_or].getD k []).getD j 0) := by decide +kernel
    exact h
  · have hk : k + 1 < 1 := hk
    omega
  · have hk : k < 1 := hk
    have e : k = 0 := by omega
    rw [e]
    exact rw_or_wl
noncomputable def wix (T : List Nat) (q : Nat) : Option Nat := @dite _ (∃ k, k < 12 ∧ wis T q (rW_l.getD k []) ∧ ∀ k', k' < k → ¬ wis T q (rW_l.getD k' [])) (Classical.propDecidable _) (fun h => some (Classical.choose h)) (fun _ => none)
theorem wix_some {T : List Nat} {q k : Nat} (h1 : k < 12) (h2 : wis T q (rW_l.getD k [])) (h3 : ∀ k', k' < k → ¬ wis T q (rW_l.getD k' [])) : wix T q = some k := by
  unfold wix
  have hex : ∃ k, k < 12 ∧ wis T q (rW_l.getD k []) ∧ ∀ k', k' < k → ¬ wis T q (rW_l.getD k' []) := ⟨k, h1, h2, h3⟩
  rw [dif_pos hex]
  obtain ⟨s1, s2, s3⟩ := Classical.choose_spec hex
  have : ¬ Classical.choose hex < k := fun c => h3 _ c s2
  have : ¬ k < Classical.choose hex := fun c => s3 _ c h2
  congr 1
  omega
theorem wix_none {T : List Nat} {q : Nat} (h : ∀ k, k < 12 → ¬ wis T q (rW_l.getD k [])) : wix T q = none := by
  unfold wix
  rw [dif_neg (fun ⟨k, k1, k2, _⟩ => h k k1 k2)]
theorem wix_cs {T : List Nat} {q : Nat} : (wix T q = none ∧ ∀ k, k < 12 → ¬ wis T q (rW_l.getD k [])) ∨ ∃ k, k < 12 ∧ wix T q = some k ∧ wis T q (rW_l.getD k []) ∧ ∀ k', k' < k → ¬ wis T q (rW_l.getD k' []) := by
  by_cases hex : ∃ k, k < 12 ∧ wis T q (rW_l.getD k []) ∧ ∀ k', k' < k → ¬ wis T q (rW_l.getD k' [])
  · obtain ⟨k, k1, k2, k3⟩ := hex
    exact Or.inr ⟨k, k1, wix_some k1 k2 k3, k2, k3⟩
  · refine Or.inl ⟨?_, fun k => ?_⟩
    · unfold wix
      rw [dif_neg hex]
    · induction k using Nat.strongRecOn with
      | ind k ih => exact fun hk hw => hex ⟨k, hk, hw, fun k' hk' => ih k' hk' (by omega)⟩
noncomputable def rV (T : List Nat) (p c : Nat) : rR := @ite _ (vn_dg T p) (Classical.propDecidable _) (if eD T (blk T p) - blk T p ≤ 5 then (if c < 60 then .inr (vn_e T p, [(0, vn_v T p)], c + 1) else .inl (rr_f T p 3)) else .inl (rr_f T p 1)) (match wix T (blk T p) with
  | some k => if c < 60 then .inr (eL T (blk T p), [(1, k)], c + 1) else .inl (rr_f T p 3)
  | none => .inl (rr_f T p 0))
theorem rV_A {T : List Nat} {p c : Nat} (h1 : vn_dg T p) (h2 : eD T (blk T p) - blk T p ≤ 5) (h3 : c < 60) : rV T p c = .inr (vn_e T p, [(0, vn_v T p)], c + 1) := by
  unfold rV
  rw [if_pos h1, if_pos h2, if_pos h3]
theorem rV_B {T : List Nat} {p c : Nat} (h1 : vn_dg T p) (h2 : eD T (blk T p) - blk T p ≤ 5) (h3 : ¬ c < 60) : rV T p c = .inl (rr_f T p 3) := by
  unfold rV
  rw [if_pos h1, if_pos h2, if_neg h3]
theorem rV_C {T : List Nat} {p c : Nat} (h1 : vn_dg T p) (h2 : ¬ eD T (blk T p) - blk T p ≤ 5) : rV T p c = .inl (rr_f T p 1) := by
  unfold rV
  rw [if_pos h1, if_neg h2]
theorem rV_D {T : List Nat} {p c k : Nat} (h1 : ¬ vn_dg T p) (h2 : wix T (blk T p) = some k) (h3 : c < 60) : rV T p c = .inr (eL T (blk T p), [(1, k)], c + 1) := by
  unfold rV
  rw [if_neg h1, h2]
  show (if c < 60 then _ else _) = _
  rw [if_pos h3]
theorem rV_E {T : List Nat} {p c k : Nat} (h1 : ¬ vn_dg T p) (h2 : wix T (blk T p) = some k) (h3 : ¬ c < 60) : rV T p c = .inl (rr_f T p 3) := by
  unfold rV
  rw [if_neg h1, h2]
  show (if c < 60 then _ else _) = _
  rw [if_neg h3]
theorem rV_F {T : List Nat} {p c : Nat} (h1 : ¬ vn_dg T p) (h2 : wix T (blk T p) = none) : rV T p c = .inl (rr_f T p 0) := by
  unfold rV
  rw [if_neg h1, h2]
def opT (T : List Nat) (q : Nat) : Nat := if q < T.length then (if T.getD q 0 = 42 then 4 else if T.getD q 0 = 47 then 5 else if T.getD q 0 = 37 then 14 else 0) else 0
def opS (T : List Nat) (q : Nat) : Nat := if q < T.length then (if T.getD q 0 = 43 then 2 else if T.getD q 0 = 45 then 3 else 0) else 0
noncomputable def mTf (T : List Nat) : Nat → Nat → Nat → rR
  | 0, p, c => .inr (p, [], c)
  | k + 1, p, c => if opT T (blk T p) = 0 then .inr (p, [], c) else rr_bnd (rV T (blk T p + 1) c) (fun p1 c1 => rr_pre [(opT T (blk T p), 0)] (mTf T k p1 c1))
noncomputable def mT (T : List Nat) (p c : Nat) : rR := mTf T 401 p c
noncomputable def mTm (T : List Nat) (p c : Nat) : rR := rr_bnd (rV T p c) (fun p1 c1 => mT T p1 c1)
noncomputable def mSf (T : List Nat) : Nat → Nat → Nat → rR
  | 0, p, c => .inr (p, [], c)
  | k + 1, p, c => if opS T (blk T p) = 0 then .inr (p, [], c) else rr_bnd (mTm T (blk T p + 1) c) (fun p1 c1 => rr_pre [(opS T (blk T p), 0)] (mSf T k p1 c1))
noncomputable def mS (T : List Nat) (p c : Nat) : rR := mSf T 401 p c
noncomputable def mSm (T : List Nat) (p c : Nat) : rR := rr_bnd (mTm T p c) (fun p1 c1 => mS T p1 c1)
def isC (T : List Nat) (q : Nat) : Prop := q < T.length ∧ (T.getD q 0 = 60 ∨ T.getD q 0 = 61 ∨ T.getD q 0 = 62)
noncomputable def cmS (T : List Nat) (q : Nat) : Nat := if T.getD q 0 = 60 then @ite _ (an T q) (Classical.propDecidable _) 1 0 else if T.getD q 0 = 61 then 2 else @ite _ (an T q) (Classical.propDecidable _) 3 4
noncomputable def rC (T : List Nat) (p c : Nat) : rR := rr_bnd (mSm T p c) (fun p1 c1 => @ite _ (isC T (blk T p1)) (Classical.propDecidable _) (if c1 < 60 then rr_bnd (mSm T (en T (blk T p1)) (c1 + 1)) (fun p2 c2 => .inr (p2, [(6 + cmS T (blk T p1), 0)], c2)) else .inl (rr_f T p1 3)) (.inl (rr_f T p1 0)))
def isX (T : List Nat) (q x : Nat) : Prop := q < T.length ∧ T.getD q 0 = x
noncomputable def rF (T : List Nat) (full : Bool) (fK tK : Nat → Nat → rR) (p c : Nat) : rR := @ite _ (wis T (blk T p) rw_not) (Classical.propDecidable _) (if full = true then .inl (rr_f T p 2) else rr_bnd (fK (eL T (blk T p)) c) (fun p1 c1 => .inr (p1, [(11, 0)], c1))) (@ite _ (isX T (blk T p) 91) (Classical.propDecidable _) (if full = true then .inl (rr_f T p 2) else rr_bnd (tK (blk T p + 1) c) (fun p1 c1 => @ite _ (isX T (blk T p1) 93) (Classical.propDecidable _) (.inr (blk T p1 + 1, [], c1)) (.inl (rr_f T p1 0)))) (rC T p c))
def ob (b : Bool) (k : Nat) : List (Nat × Nat) := if b = true then [(k, 0)] else []
noncomputable def rL9 (T : List Nat) (f : Nat → Nat → rR) : Nat → Bool → Bool → Nat → Nat → rR
  | 0, _, _, p, c => .inr (p, [], c)
  | k + 1, o, a, p, c => rr_bnd (f p c) (fun p1 c1 => rr_pre (ob a 12) (@ite _ (wis T (blk T p1) rw_and) (Classical.propDecidable _) (rL9 T f k o true (eL T (blk T p1)) c1) (rr_pre (ob o 13) (@ite _ (wis T (blk T p1) rw_or) (Classical.propDecidable _) (rL9 T f k true false (eL T (blk T p1)) c1) (.inr (p1, [], c1))))))
noncomputable def rX (T : List Nat) : Nat → (Nat → Nat → rR) × (Nat → Nat → rR)
  | 0 => (fun _ _ => .inl 1, fun _ _ => .inl 1)
  | k + 1 => (rF T (decide (k ≤ 1)) (rX T k).1 (rX T k).2, rL9 T (rF T (decide (k ≤ 1)) (rX T k).1 (rX T k).2) 401 false false)
/-! what comes out is well made -/
def gR (T : List Nat) (p b : Nat) (P : Int64 → Prop) : rR → Prop
  | .inl F => 0 < F ∧ F < 100000
  | .inr (p', E, _) => p < p' ∧ p' ≤ T.length ∧ E.length + p ≤ p' ∧ (∀ t, t ∈ E → tc_ok t) ∧ ∀ w s, s.length + b ≤ 32 → ∃ v, P v ∧ ∀ ts, ev_run w (E ++ ts) s = ev_run w ts (v :: s)
def hR (T : List Nat) (p b : Nat) : rR → Prop
  | .inl F => 0 < F ∧ F < 100000
  | .inr (p', E, _) => p ≤ p' ∧ p' ≤ T.length ∧ E.length + p ≤ p' ∧ (∀ t, t ∈ E → tc_ok t) ∧ ∀ w x s, s.length + b ≤ 32 → ∃ v, ∀ ts, ev_run w (E ++ ts) (x :: s) = ev_run w ts (v :: s)
theorem rr_fb {T : List Nat} {p w : Nat} (hT : T.length ≤ 400) (hp : p ≤ T.length) (hw : w < 8) : 0 < rr_f T p w ∧ rr_f T p w < 100000 := by
  have := blk_ub hp
  unfold rr_f
  omega
theorem ev_0 {w : Nat → Int64} {v : Nat} {ts : List (Nat × Nat)} {s : List Int64} (h : s.length < 32) : ev_run w ((0, v) :: ts) s = ev_run w ts (lN v :: s) := by
  rw [ev_cons, if_pos rfl, if_pos h]
theorem ev_1 {w : Nat → Int64} {v : Nat} {ts : List (Nat × Nat)} {s : List Int64} (h : s.length < 32) (hv : v < 12) : ev_run w ((1, v) :: ts) s = ev_run w ts (w v :: s) := by
  rw [ev_cons, if_neg (by omega), if_pos rfl, if_pos ⟨h, hv⟩]
theorem ev_11 {w : Nat → Int64} {v : Nat} {ts : List (Nat × Nat)} {x : Int64} {s : List Int64} : ev_run w ((11, v) :: ts) (x :: s) = ev_run w ts ((1 - x) :: s) := by
  rw [ev_cons, if_neg (by omega), if_neg (by omega), if_pos rfl]
theorem ev_2 {w : Nat → Int64} {k v : Nat} {ts : List (Nat × Nat)} {x y : Int64} {s : List Int64} (h : 1 < k ∧ k ≠ 11) : ev_run w ((k, v) :: ts) (y :: x :: s) = ev_run w ts (ev_op k x y :: s) := by
  rw [ev_cons, if_neg (by omega), if_neg (by omega), if_neg h.2]
theorem tc_op {k : Nat} (h : 1 < k ∧ k < 15) : tc_ok (k, 0) := ⟨h.2, by show 0 < 100000; omega, fun e => by have e : k = 1 := e; omega⟩
theorem gR_V {T : List Nat} {p c : Nat} (hT : T.length ≤ 400) (hp : p ≤ T.length) : gR T p 1 (fun _ => True) (rV T p c) := by
  have hq := blk_ub hp
  have hb := blk_le (T := T) (p := p)
  by_cases h1 : vn_dg T p
  · by_cases h2 : eD T (blk T p) - blk T p ≤ 5
    · by_cases h3 : c < 60
      · rw [rV_A h1 h2 h3]
        have hpos : p < vn_e T p := by
          have e2 : eD T (blk T p) = sc (isD T) T.length (blk T p + 1) := sc_t h1.1 h1.2
          have e3 := sc_le (P := isD T) (L := T.length) (p := blk T p + 1)
          show p < eD T (blk T p)
          omega
        have hub : vn_e T p ≤ T.length := eD_ub hq
        refine ⟨hpos, hub, by simp; omega, fun t ht => ?_, fun w s hs => ⟨lN (vn_v T p), trivial, fun ts => ev_0 (by omega)⟩⟩
        have et : t = (0, vn_v T p) := by simpa using ht
        rw [et]
        exact ⟨by omega, nv_lt h2, fun e => by cases e⟩
      · rw [rV_B h1 h2 h3]; exact rr_fb hT hp (by omega)
    · rw [rV_C h1 h2]; exact rr_fb hT hp (by omega)
  · rcases wix_cs (T := T) (q := blk T p) with ⟨w1, w2⟩ | ⟨k, k1, w1, w2, w3⟩
    · rw [rV_F h1 w1]; exact rr_fb hT hp (by omega)
    · by_cases h3 : c < 60
      · rw [rV_D h1 w1 h3]
        have hen := en_w w2 (rW_ok.2.2.2.2.2.2 k k1) hq
        have hub := eL_ub hq
        refine ⟨by omega, hub, by simp; omega, fun t ht => ?_, fun w s hs => ⟨w k, trivial, fun ts => ev_1 (by omega) k1⟩⟩
        have et : t = (1, k) := by simpa using ht
        rw [et]
        exact ⟨by omega, by show k < 100000; omega, fun _ => k1⟩
      · rw [rV_E h1 w1 h3]; exact rr_fb hT hp (by omega)
theorem hR_nil {T : List Nat} {p b c : Nat} (hp : p ≤ T.length) : hR T p b (.inr (p, [], c)) := ⟨Nat.le_refl p, hp, by simp, fun t ht => by simp at ht, fun w x s _ => ⟨x, fun ts => rfl⟩⟩
theorem hR_op {T : List Nat} {p q b0 b k : Nat} {P : Int64 → Prop} {r : rR} {f : Nat → Nat → rR} (hpq : p ≤ q) (hk : 1 < k ∧ k < 15 ∧ k ≠ 11) (hb : b0 + 1 ≤ b) (hg : gR T (q + 1) b0 P r) (hf : ∀ p1 c1, p1 ≤ T.length → hR T p1 b (f p1 c1)) : hR T p b (rr_bnd r (fun p1 c1 => rr_pre [(k, 0)] (f p1 c1))) := by
  rcases r with F | ⟨p1, E1, c1⟩
  · exact hg
  · obtain ⟨g1, g2, g3, g4, g5⟩ := hg
    have h2 := hf p1 c1 g2
    show hR T p b (rr_pre E1 (rr_pre [(k, 0)] (f p1 c1)))
    generalize f p1 c1 = r2 at h2 ⊢
    rcases r2 with F | ⟨p2, E2, c2⟩
    · exact h2
    · obtain ⟨a1, a2, a3, a4, a5⟩ := h2
      refine ⟨by omega, a2, by simp only [List.length_append, List.length_cons, List.length_nil]; omega, fun t ht => ?_, fun w x s hs => ?_⟩
      · rcases List.mem_append.mp ht with h | h
        · exact g4 t h
        · rcases List.mem_append.mp h with h | h
          · have et : t = (k, 0) := by simpa using h
            rw [et]
            exact tc_op ⟨hk.1, hk.2.1⟩
          · exact a4 t h
      · obtain ⟨v, -, v2⟩ := g5 w (x :: s) (by simp only [List.length_cons]; omega)
        obtain ⟨u, u2⟩ := a5 w (ev_op k x v) s hs
        refine ⟨u, fun ts => ?_⟩
        rw [List.append_assoc, v2, List.append_assoc]
        show ev_run w ((k, 0) :: (E2 ++ ts)) (v :: x :: s) = _
        rw [ev_2 ⟨hk.1, hk.2.2⟩, u2]
theorem gR_seq {T : List Nat} {p b0 b : Nat} {P : Int64 → Prop} {r : rR} {f : Nat → Nat → rR} (hb : b0 ≤ b) (hg : gR T p b0 P r) (hf : ∀ p1 c1, p1 ≤ T.length → hR T p1 b (f p1 c1)) : gR T p b (fun _ => True) (rr_bnd r f) := by
  rcases r with F | ⟨p1, E1, c1⟩
  · exact hg
  · obtain ⟨g1, g2, g3, g4, g5⟩ := hg
    have h2 := hf p1 c1 g2
    show gR T p b _ (rr_pre E1 (f p1 c1))
    generalize f p1 c1 = r2 at h2 ⊢
    rcases r2 with F | ⟨p2, E2, c2⟩
    · exact h2
    · obtain ⟨a1, a2, a3, a4, a5⟩ := h2
      refine ⟨by omega, a2, by simp only [List.length_append]; omega, fun t ht => ?_, fun w s hs => ?_⟩
      · rcases List.mem_append.mp ht with h | h
        · exact g4 t h
        · exact a4 t h
      · obtain ⟨v, -, v2⟩ := g5 w s (by omega)
        obtain ⟨u, u2⟩ := a5 w v s hs
        exact ⟨u, trivial, fun ts => by rw [List.append_assoc, v2, u2]⟩
theorem opT_cs {T : List Nat} {q : Nat} : opT T q = 0 ∨ (q < T.length ∧ 1 < opT T q ∧ opT T q < 15 ∧ opT T q ≠ 11) := by
  unfold opT
  split
  · split
    · omega
    · split
      · omega
      · split <;> omega
  · exact Or.inl rfl
theorem opS_cs {T : List Nat} {q : Nat} : opS T q = 0 ∨ (q < T.length ∧ 1 < opS T q ∧ opS T q < 15 ∧ opS T q ≠ 11) := by
  unfold opS
  split
  · split
    · omega
    · split <;> omega
  · exact Or.inl rfl
theorem hR_T {T : List Nat} (hT : T.length ≤ 400) : ∀ k p c, p ≤ T.length → hR T p 2 (mTf T k p c) := by
  intro k
  induction k with
  | zero => intro p c hp; exact hR_nil hp
  | succ k ih =>
    intro p c hp
    show hR T p 2 (if opT T (blk T p) = 0 then .inr (p, [], c) else _)
    rcases opT_cs (T := T) (q := blk T p) with h | ⟨h1, h2⟩
    · rw [if_pos h]; exact hR_nil hp
    · rw [if_neg (by omega)]
      exact hR_op blk_le h2 (by omega) (gR_V hT h1) (fun p1 c1 q1 => ih p1 c1 q1)
theorem gR_T {T : List Nat} {p c : Nat} (hT : T.length ≤ 400) (hp : p ≤ T.length) : gR T p 2 (fun _ => True) (mTm T p c) := gR_seq (by omega) (gR_V hT hp) (fun p1 c1 q1 => hR_T hT 401 p1 c1 q1)
theorem hR_S {T : List Nat} (hT : T.length ≤ 400) : ∀ k p c, p ≤ T.length → hR T p 3 (mSf T k p c) := by
  intro k
  induction k with
  | zero => intro p c hp; exact hR_nil hp
  | succ k ih =>
    intro p c hp
    show hR T p 3 (if opS T (blk T p) = 0 then .inr (p, [], c) else _)
    rcases opS_cs (T := T) (q := blk T p) with h | ⟨h1, h2⟩
    · rw [if_pos h]; exact hR_nil hp
    · rw [if_neg (by omega)]
      exact hR_op blk_le h2 (by omega) (gR_T hT h1) (fun p1 c1 q1 => ih p1 c1 q1)
theorem gR_S {T : List Nat} {p c : Nat} (hT : T.length ≤ 400) (hp : p ≤ T.length) : gR T p 3 (fun _ => True) (mSm T p c) := gR_seq (by omega) (gR_T hT hp) (fun p1 c1 q1 => hR_S hT 401 p1 c1 q1)
def b01 (v : Int64) : Prop := v = 0 ∨ v = 1
theorem b01_i {P : Prop} {d : Decidable P} {x y : Int64} (hx : b01 x) (hy : b01 y) : b01 (@ite _ P d x y) := by
  split
  · exact hx
  · exact hy
theorem ev_cmp {k : Nat} {x y : Int64} (h : 5 < k ∧ k < 11) : b01 (ev_op k x y) := by
  rcases (by omega : k = 6 ∨ k = 7 ∨ k = 8 ∨ k = 9 ∨ k = 10) with h | h | h | h | h <;> subst h
  · exact b01_i (P := y ≤ x) (Or.inl rfl) (Or.inr rfl)
  · exact b01_i (P := y < x) (Or.inl rfl) (Or.inr rfl)
  · exact b01_i (P := x = y) (Or.inr rfl) (Or.inl rfl)
  · exact b01_i (P := x < y) (Or.inl rfl) (Or.inr rfl)
  · exact b01_i (P := x ≤ y) (Or.inl rfl) (Or.inr rfl)
theorem ev_lg {k : Nat} {x y : Int64} (h : k = 12 ∨ k = 13) (hx : b01 x) (hy : b01 y) : b01 (ev_op k x y) := by
  rcases h with h | h <;> subst h <;> rcases hx with hx | hx <;> rcases hy with hy | hy <;> subst hx <;> subst hy <;> (unfold b01; decide)
theorem ev_nt {x : Int64} (hx : b01 x) : b01 (1 - x) := by
  rcases hx with hx | hx <;> subst hx <;> (unfold b01; decide)
theorem cmS_b {T : List Nat} {q : Nat} : cmS T q < 5 := by
  unfold cmS
  split
  · by_cases c : an T q
    · rw [if_pos c]; omega
    · rw [if_neg c]; omega
  · split
    · omega
    · by_cases c : an T q
      · rw [if_pos c]; omega
      · rw [if_neg c]; omega
theorem gR_C {T : List Nat} {p c : Nat} (hT : T.length ≤ 400) (hp : p ≤ T.length) : gR T p 4 b01 (rC T p c) := by
  have g := gR_S (c := c) hT hp
  unfold rC
  generalize mSm T p c = r at g ⊢
  rcases r with F | ⟨p1, E1, c1⟩
  · exact g
  · obtain ⟨g1, g2, g3, g4, g5⟩ := g
    show gR T p 4 b01 (rr_pre E1 (@ite _ (isC T (blk T p1)) (Classical.propDecidable _) _ _))
    have hq := blk_ub g2
    by_cases hC : isC T (blk T p1)
    · rw [if_pos hC]
      by_cases h6 : c1 < 60
      · rw [if_pos h6]
        have hen := en_cs (T := T) (q := blk T p1)
        have hq1 := hC.1
        have hb1 := blk_le (T := T) (p := p1)
        have hcm := cmS_b (T := T) (q := blk T p1)
        have k := gR_S (c := c1 + 1) hT (en_ub hq)
        generalize mSm T (en T (blk T p1)) (c1 + 1) = r2 at k ⊢
        rcases r2 with F | ⟨p2, E2, c2⟩
        · exact k
        · obtain ⟨a1, a2, a3, a4, a5⟩ := k
          refine ⟨by omega, a2, by simp only [List.length_append, List.length_cons, List.length_nil]; omega, fun t ht => ?_, fun w s hs => ?_⟩
          · rcases List.mem_append.mp ht with h | h
            · exact g4 t h
            · rcases List.mem_append.mp h with h | h
              · exact a4 t h
              · have et : t = (6 + cmS T (blk T p1), 0) := by simpa using h
                rw [et]
                exact tc_op (by omega)
          · obtain ⟨v, -, v2⟩ := g5 w s (by omega)
            obtain ⟨u, -, u2⟩ := a5 w (v :: s) (by simp only [List.length_cons]; omega)
            refine ⟨ev_op (6 + cmS T (blk T p1)) v u, ev_cmp (by omega), fun ts => ?_⟩
            rw [List.append_assoc, v2, List.append_assoc, u2]
            show ev_run w ((6 + cmS T (blk T p1), 0) :: ts) (u :: v :: s) = _
            rw [ev_2 (by omega)]
      · rw [if_neg h6]; exact rr_fb hT g2 (by omega)
    · rw [if_neg hC]; exact rr_fb hT g2 (by omega)
theorem gR_up {T : List Nat} {p q b b2 : Nat} {P : Int64 → Prop} {r : rR} (hpq : q ≤ p) (hb : b ≤ b2) (h : gR T p b P r) : gR T q b2 P r := by
  rcases r with F | ⟨p1, E1, c1⟩
  · exact h
  · obtain ⟨g1, g2, g3, g4, g5⟩ := h
    exact ⟨by omega, g2, by omega, g4, fun w s hs => g5 w s (by omega)⟩
theorem gR_F {T : List Nat} {full : Bool} {fK tK : Nat → Nat → rR} {b p c : Nat} (hT : T.length ≤ 400) (hb : 4 ≤ b) (hf : full = false → ∀ p c, p ≤ T.length → gR T p b b01 (fK p c)) (ht : full = false → ∀ p c, p ≤ T.length → gR T p b b01 (tK p c)) (hp : p ≤ T.length) : gR T p b b01 (rF T full fK tK p c) := by
  have hq := blk_ub hp
  have hbl := blk_le (T := T) (p := p)
  unfold rF
  by_cases hn : wis T (blk T p) rw_not
  · rw [if_pos hn]
    have hen := en_w hn rw_not_wl hq
    have hub := eL_ub hq
    cases full with
    | true => rw [if_pos rfl]; exact rr_fb hT hp (by omega)
    | false =>
      rw [if_neg Bool.false_ne_true]
      have g := hf rfl (eL T (blk T p)) c hub
      generalize fK (eL T (blk T p)) c = r at g ⊢
      rcases r with F | ⟨p1, E1, c1⟩
      · exact g
      · obtain ⟨g1, g2, g3, g4, g5⟩ := g
        refine ⟨by omega, g2, by simp only [List.length_append, List.length_cons, List.length_nil]; omega, fun t ht => ?_, fun w s hs => ?_⟩
        · rcases List.mem_append.mp ht with h | h
          · exact g4 t h
          · have et : t = (11, 0) := by simpa using h
            rw [et]
            exact tc_op (by omega)
        · obtain ⟨v, v1, v2⟩ := g5 w s (by omega)
          refine ⟨1 - v, ev_nt v1, fun ts => ?_⟩
          rw [List.append_assoc, v2]
          exact ev_11
  · rw [if_neg hn]
    by_cases hx : isX T (blk T p) 91
    · rw [if_pos hx]
      cases full with
      | true => rw [if_pos rfl]; exact rr_fb hT hp (by omega)
      | false =>
        rw [if_neg Bool.false_ne_true]
        have hx1 := hx.1
        have g := ht rfl (blk T p + 1) c hx.1
        generalize tK (blk T p + 1) c = r at g ⊢
        rcases r with F | ⟨p1, E1, c1⟩
        · exact g
        · obtain ⟨g1, g2, g3, g4, g5⟩ := g
          have hb1 := blk_le (T := T) (p := p1)
          show gR T p b b01 (rr_pre E1 (@ite _ (isX T (blk T p1) 93) (Classical.propDecidable _) _ _))
          by_cases hy : isX T (blk T p1) 93
          · have hy1 := hy.1
            rw [if_pos hy]
            refine ⟨by omega, hy.1, by simp only [List.append_nil]; omega, fun t h => g4 t (by simpa using h), fun w s hs => ?_⟩
            obtain ⟨v, v1, v2⟩ := g5 w s hs
            exact ⟨v, v1, fun ts => by rw [List.append_nil]; exact v2 ts⟩
          · rw [if_neg hy]; exact rr_fb hT g2 (by omega)
    · rw [if_neg hx]
      exact gR_up (Nat.le_refl p) hb (gR_C hT hp)
