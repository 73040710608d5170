/-! ===== rule: tests, sums in one loop, what is written ===== -/
def lb (b : Bool) (y : Int64) : List Int64 := if b = true then [y] else []
def nb (b : Bool) : Nat := if b = true then 1 else 0
theorem lb_len {b : Bool} {y : Int64} : (lb b y).length = nb b := by cases b <;> rfl
theorem ob_len {b : Bool} {k : Nat} : (ob b k).length = nb b := by cases b <;> rfl
theorem nb_le {b : Bool} : nb b ≤ 1 := by cases b <;> simp [nb]
theorem ev_ob {w : Nat → Int64} {k : Nat} {a : Bool} {y v0 : Int64} {s : List Int64} (hk : k = 12 ∨ k = 13) (hy : b01 y) (hv : b01 v0) : ∃ v1, b01 v1 ∧ ∀ ts, ev_run w (ob a k ++ ts) (v0 :: (lb a y ++ s)) = ev_run w ts (v1 :: s) := by
  cases a with
  | false => exact ⟨v0, hv, fun ts => rfl⟩
  | true =>
    refine ⟨ev_op k y v0, ev_lg hk hy hv, fun ts => ?_⟩
    show ev_run w ((k, 0) :: ts) (v0 :: y :: s) = _
    rw [ev_2 (by omega)]
theorem ob_tc {a : Bool} {k : Nat} (hk : k = 12 ∨ k = 13) : ∀ t, t ∈ ob a k → tc_ok t := by
  cases a with
  | false => intro t h; cases h
  | true =>
    intro t h
    have et : t = (k, 0) := by simpa [ob] using h
    rw [et]
    exact tc_op (by omega)
def gLr (T : List Nat) (p b : Nat) (o a : Bool) : rR → Prop
  | .inl F => 0 < F ∧ F < 100000
  | .inr (p', E, _) => p < p' ∧ p' ≤ T.length ∧ E.length + p ≤ p' + nb o + nb a ∧ (∀ t, t ∈ E → tc_ok t) ∧ ∀ w x y s, b01 x → b01 y → s.length + b + 2 ≤ 32 → ∃ v, b01 v ∧ ∀ ts, ev_run w (E ++ ts) (lb a y ++ (lb o x ++ s)) = ev_run w ts (v :: s)
theorem gL_all {T : List Nat} {f : Nat → Nat → rR} {b : Nat} (hT : T.length ≤ 400) (hf : ∀ p c, p ≤ T.length → gR T p b b01 (f p c)) : ∀ k o a p c, p ≤ T.length → T.length - p < k → gLr T p b o a (rL9 T f k o a p c) := by
  intro k
  induction k with
  | zero => intro o a p c hp hk; omega
  | succ k ih =>
    intro o a p c hp hk
    have g := hf p c hp
    show gLr T p b o a (rr_bnd (f p c) _)
    generalize f p c = r at g ⊢
    rcases r with F | ⟨p1, E1, c1⟩
    · exact g
    · obtain ⟨g1, g2, g3, g4, g5⟩ := g
      have hq := blk_ub g2
      have hbl := blk_le (T := T) (p := p1)
      have ho := nb_le (b := o)
      have ha := nb_le (b := a)
      show gLr T p b o a (rr_pre E1 (rr_pre (ob a 12) (@ite _ (wis T (blk T p1) rw_and) (Classical.propDecidable _) _ _)))
      by_cases hA : wis T (blk T p1) rw_and
      · rw [if_pos hA]
        have hen := en_w hA rw_and_wl hq
        have hub := eL_ub hq
        have IH := ih o true (eL T (blk T p1)) c1 hub (by omega)
        generalize rL9 T f k o true (eL T (blk T p1)) c1 = r2 at IH ⊢
        rcases r2 with F | ⟨p2, E2, c2⟩
        · exact IH
        · obtain ⟨a1, a2, a3, a4, a5⟩ := IH
          have a3 : E2.length + eL T (blk T p1) ≤ p2 + nb o + 1 := a3
          refine ⟨by omega, a2, by simp only [List.length_append, ob_len]; omega, fun t ht => ?_, fun w x y s hx hy hs => ?_⟩
          · rcases List.mem_append.mp ht with h | h
            · exact g4 t h
            · rcases List.mem_append.mp h with h | h
              · exact ob_tc (Or.inl rfl) t h
              · exact a4 t h
          · obtain ⟨v, v1, v2⟩ := g5 w (lb a y ++ (lb o x ++ s)) (by simp only [List.length_append, lb_len]; omega)
            obtain ⟨u, u1, u2⟩ := ev_ob (w := w) (k := 12) (a := a) (s := lb o x ++ s) (Or.inl rfl) hy v1
            obtain ⟨z, z1, z2⟩ := a5 w x u s hx u1 hs
            refine ⟨z, z1, fun ts => ?_⟩
            rw [List.append_assoc, v2, List.append_assoc, u2]
            exact z2 ts
      · rw [if_neg hA]
        show gLr T p b o a (rr_pre E1 (rr_pre (ob a 12) (rr_pre (ob o 13) (@ite _ (wis T (blk T p1) rw_or) (Classical.propDecidable _) _ _))))
        by_cases hO : wis T (blk T p1) rw_or
        · rw [if_pos hO]
          have hen := en_w hO rw_or_wl hq
          have hub := eL_ub hq
          have IH := ih true false (eL T (blk T p1)) c1 hub (by omega)
          generalize rL9 T f k true false (eL T (blk T p1)) c1 = r2 at IH ⊢
          rcases r2 with F | ⟨p2, E2, c2⟩
          · exact IH
          · obtain ⟨a1, a2, a3, a4, a5⟩ := IH
            have a3 : E2.length + eL T (blk T p1) ≤ p2 + 1 + 0 := a3
            refine ⟨by omega, a2, by simp only [List.length_append, ob_len]; omega, fun t ht => ?_, fun w x y s hx hy hs => ?_⟩
            · rcases List.mem_append.mp ht with h | h
              · exact g4 t h
              · rcases List.mem_append.mp h with h | h
                · exact ob_tc (Or.inl rfl) t h
                · rcases List.mem_append.mp h with h | h
                  · exact ob_tc (Or.inr rfl) t h
                  · exact a4 t h
            · obtain ⟨v, v1, v2⟩ := g5 w (lb a y ++ (lb o x ++ s)) (by simp only [List.length_append, lb_len]; omega)
              obtain ⟨u, u1, u2⟩ := ev_ob (w := w) (k := 12) (a := a) (s := lb o x ++ s) (Or.inl rfl) hy v1
              obtain ⟨u', u1', u2'⟩ := ev_ob (w := w) (k := 13) (a := o) (s := s) (Or.inr rfl) hx u1
              obtain ⟨z, z1, z2⟩ := a5 w u' u' s u1' u1' hs
              refine ⟨z, z1, fun ts => ?_⟩
              rw [List.append_assoc, v2, List.append_assoc, u2, List.append_assoc, u2']
              exact z2 ts
        · rw [if_neg hO]
          refine ⟨by omega, g2, by simp only [List.length_append, ob_len, List.append_nil]; omega, fun t ht => ?_, fun w x y s hx hy hs => ?_⟩
          · rcases List.mem_append.mp ht with h | h
            · exact g4 t h
            · rcases List.mem_append.mp h with h | h
              · exact ob_tc (Or.inl rfl) t h
              · rcases List.mem_append.mp h with h | h
                · exact ob_tc (Or.inr rfl) t h
                · cases h
          · obtain ⟨v, v1, v2⟩ := g5 w (lb a y ++ (lb o x ++ s)) (by simp only [List.length_append, lb_len]; omega)
            obtain ⟨u, u1, u2⟩ := ev_ob (w := w) (k := 12) (a := a) (s := lb o x ++ s) (Or.inl rfl) hy v1
            obtain ⟨u', u1', u2'⟩ := ev_ob (w := w) (k := 13) (a := o) (s := s) (Or.inr rfl) hx u1
            refine ⟨u', u1', fun ts => ?_⟩
            rw [List.append_assoc, v2, List.append_assoc, u2, List.append_assoc, u2']
            rfl
theorem gL_gR {T : List Nat} {p b : Nat} {r : rR} (h : gLr T p b false false r) : gR T p (b + 2) b01 r := by
  rcases r with F | ⟨p2, E2, c2⟩
  · exact h
  · obtain ⟨a1, a2, a3, a4, a5⟩ := h
    exact ⟨a1, a2, a3, a4, fun w s hs => a5 w 0 0 s (Or.inl rfl) (Or.inl rfl) (by omega)⟩
theorem rX_good {T : List Nat} (hT : T.length ≤ 400) : ∀ k, 1 ≤ k → (∀ p c, p ≤ T.length → gR T p (2 * (k + 1)) b01 ((rX T (k + 1)).1 p c)) ∧ ∀ p c, p ≤ T.length → gR T p (2 * (k + 1) + 2) b01 ((rX T (k + 1)).2 p c) := by
  have step : ∀ k, (k ≤ 1 ∨ ((∀ p c, p ≤ T.length → gR T p (2 * k) b01 ((rX T k).1 p c)) ∧ ∀ p c, p ≤ T.length → gR T p (2 * k + 2) b01 ((rX T k).2 p c))) → 1 ≤ k → (∀ p c, p ≤ T.length → gR T p (2 * (k + 1)) b01 ((rX T (k + 1)).1 p c)) ∧ ∀ p c, p ≤ T.length → gR T p (2 * (k + 1) + 2) b01 ((rX T (k + 1)).2 p c) := by
    intro k h hk
    have hf : ∀ p c, p ≤ T.length → gR T p (2 * (k + 1)) b01 (rF T (decide (k ≤ 1)) (rX T k).1 (rX T k).2 p c) := fun p c hp => by
      refine gR_F hT (by omega) (fun hd p c hp => ?_) (fun hd p c hp => ?_) hp
      · have hd := of_decide_eq_false hd
        exact gR_up (Nat.le_refl p) (by omega) ((h.resolve_left hd).1 p c hp)
      · have hd := of_decide_eq_false hd
        exact gR_up (Nat.le_refl p) (by omega) ((h.resolve_left hd).2 p c hp)
    exact ⟨hf, fun p c hp => gL_gR (gL_all hT hf 401 false false p c hp (by omega))⟩
  intro k
  induction k with
  | zero => intro h; omega
  | succ k ih =>
    intro _
    rcases Nat.lt_or_ge k 1 with c | c
    · exact step (k + 1) (Or.inl (by omega)) (by omega)
    · exact step (k + 1) (Or.inr (ih c)) (by omega)
theorem mTf_u {T : List Nat} (hT : T.length ≤ 400) : ∀ k p c, p ≤ T.length → T.length ≤ p + k → mTf T (k + 1) p c = mTf T k p c := by
  intro k
  induction k with
  | zero =>
    intro p c hp h
    have hb := blk_le (T := T) (p := p)
    show (if opT T (blk T p) = 0 then _ else _) = _
    rw [if_pos (by unfold opT; rw [if_neg (by omega)])]
    rfl
  | succ k ih =>
    intro p c hp h
    show (if opT T (blk T p) = 0 then _ else rr_bnd _ _) = (if opT T (blk T p) = 0 then _ else rr_bnd _ _)
    rcases opT_cs (T := T) (q := blk T p) with h0 | ⟨h1, h2⟩
    · rw [if_pos h0, if_pos h0]
    · rw [if_neg (by omega), if_neg (by omega)]
      refine rr_cg (fun p1 E1 c1 he => ?_)
      have g := gR_V (c := c) hT (p := blk T p + 1) h1
      rw [he] at g
      have hb := blk_le (T := T) (p := p)
      have g1 := g.1
      rw [ih p1 c1 g.2.1 (by omega)]
theorem mT_u {T : List Nat} {p c : Nat} (hT : T.length ≤ 400) : mT T p c = if opT T (blk T p) = 0 then .inr (p, [], c) else rr_bnd (rV T (blk T p + 1) c) (fun p1 c1 => rr_pre [(opT T (blk T p), 0)] (mT T p1 c1)) := by
  show (if opT T (blk T p) = 0 then _ else rr_bnd _ _) = _
  rcases opT_cs (T := T) (q := blk T p) with h0 | ⟨h1, h2⟩
  · rw [if_pos h0, if_pos h0]
  · rw [if_neg (by omega), if_neg (by omega)]
    refine rr_cg (fun p1 E1 c1 he => ?_)
    have g := gR_V (c := c) hT (p := blk T p + 1) h1
    rw [he] at g
    rw [← mTf_u hT 400 p1 c1 g.2.1 (by omega)]
    rfl
theorem mSf_u {T : List Nat} (hT : T.length ≤ 400) : ∀ k p c, p ≤ T.length → T.length ≤ p + k → mSf T (k + 1) p c = mSf T k p c := by
  intro k
  induction k with
  | zero =>
    intro p c hp h
    have hb := blk_le (T := T) (p := p)
    show (if opS T (blk T p) = 0 then _ else _) = _
    rw [if_pos (by unfold opS; rw [if_neg (by omega)])]
    rfl
  | succ k ih =>
    intro p c hp h
    show (if opS T (blk T p) = 0 then _ else rr_bnd _ _) = (if opS T (blk T p) = 0 then _ else rr_bnd _ _)
    rcases opS_cs (T := T) (q := blk T p) with h0 | ⟨h1, h2⟩
    · rw [if_pos h0, if_pos h0]
    · rw [if_neg (by omega), if_neg (by omega)]
      refine rr_cg (fun p1 E1 c1 he => ?_)
      have g := gR_T (c := c) hT (p := blk T p + 1) h1
      rw [he] at g
      have hb := blk_le (T := T) (p := p)
      have g1 := g.1
      rw [ih p1 c1 g.2.1 (by omega)]
theorem mS_u {T : List Nat} {p c : Nat} (hT : T.length ≤ 400) : mS T p c = if opS T (blk T p) = 0 then .inr (p, [], c) else rr_bnd (mTm T (blk T p + 1) c) (fun p1 c1 => rr_pre [(opS T (blk T p), 0)] (mS T p1 c1)) := by
  show (if opS T (blk T p) = 0 then _ else rr_bnd _ _) = _
  rcases opS_cs (T := T) (q := blk T p) with h0 | ⟨h1, h2⟩
  · rw [if_pos h0, if_pos h0]
  · rw [if_neg (by omega), if_neg (by omega)]
    refine rr_cg (fun p1 E1 c1 he => ?_)
    have g := gR_T (c := c) hT (p := blk T p + 1) h1
    rw [he] at g
    rw [← mSf_u hT 400 p1 c1 g.2.1 (by omega)]
    rfl
def oo (d : Nat) : List (Nat × Nat) := if d = 0 then [] else [(d, 0)]
theorem oo_n {d : Nat} (h : d ≠ 0) : oo d = [(d, 0)] := if_neg h
theorem oo_0 : oo 0 = [] := rfl
noncomputable def rG (T : List Nat) (w d p c : Nat) : rR := rr_bnd (rV T p c) (fun p1 c1 => rr_pre (oo d) (rr_bnd (mT T p1 c1) (fun p2 c2 => rr_pre (oo w) (mS T p2 c2))))
theorem rG_sum {T : List Nat} {p c : Nat} : mSm T p c = rG T 0 0 p c := by
  show rr_bnd (rr_bnd _ _) _ = rr_bnd _ _
  rw [rr_bb]
  refine rr_cg (fun p1 E1 c1 _ => ?_)
  show _ = rr_pre [] (rr_bnd _ (fun p2 c2 => rr_pre [] _))
  rw [rr_pre0]
  exact rr_cg (fun p2 E2 c2 _ => rr_pre0.symm)
theorem rG_u {T : List Nat} {w d p c : Nat} (hT : T.length ≤ 400) (hp : p ≤ T.length) : rG T w d p c = rr_bnd (rV T p c) (fun p1 c1 => rr_pre (oo d) (if opT T (blk T p1) = 0 then rr_pre (oo w) (if opS T (blk T p1) = 0 then .inr (p1, [], c1) else rG T (opS T (blk T p1)) 0 (blk T p1 + 1) c1) else rG T w (opT T (blk T p1)) (blk T p1 + 1) c1)) := by
  refine rr_cg (fun p1 E1 c1 he => ?_)
  congr 1
  rw [mT_u hT]
  by_cases h0 : opT T (blk T p1) = 0
  · rw [if_pos h0, if_pos h0]
    show rr_pre [] (rr_pre (oo w) (mS T p1 c1)) = _
    rw [rr_pre0, mS_u hT]
    by_cases h1 : opS T (blk T p1) = 0
    · rw [if_pos h1, if_pos h1]
    · rw [if_neg h1, if_neg h1]
      congr 1
      show rr_bnd (rr_bnd _ _) _ = rr_bnd _ _
      rw [rr_bb]
      refine rr_cg (fun p2 E2 c2 _ => ?_)
      rw [oo_0, rr_pre0, oo_n h1]
  · rw [if_neg h0, if_neg h0, rr_bb]
    show _ = rr_bnd _ _
    refine rr_cg (fun p2 E2 c2 _ => ?_)
    rw [rr_bp, oo_n h0]
def eW (φ : Nat × Nat → Int32) : List Int32 → Nat → List (Nat × Nat) → List Int32
  | cd, _, [] => cd
  | cd, l, t :: E => eW φ (cd.set l (φ t)) (l + 1) E
theorem eW_len {φ : Nat × Nat → Int32} : ∀ (E : List (Nat × Nat)) (cd : List Int32) (l : Nat), (eW φ cd l E).length = cd.length := by
  intro E
  induction E with
  | nil => intro cd l; rfl
  | cons t E ih => intro cd l; exact (ih _ _).trans (List.length_set ..)
theorem eW_app {φ : Nat × Nat → Int32} : ∀ (E E' : List (Nat × Nat)) (cd : List Int32) (l : Nat), eW φ cd l (E ++ E') = eW φ (eW φ cd l E) (l + E.length) E' := by
  intro E
  induction E with
  | nil => intro E' cd l; rfl
  | cons t E ih =>
    intro E' cd l
    show eW φ (cd.set l (φ t)) (l + 1) (E ++ E') = _
    rw [ih]
    show eW φ (eW φ (cd.set l (φ t)) (l + 1) E) (l + 1 + E.length) E' = eW φ (eW φ (cd.set l (φ t)) (l + 1) E) (l + (E.length + 1)) E'
    rw [show l + 1 + E.length = l + (E.length + 1) by omega]
theorem eW_lo {φ : Nat × Nat → Int32} : ∀ (E : List (Nat × Nat)) (cd : List Int32) (l i : Nat), i < l ∨ l + E.length ≤ i → pv (eW φ cd l E) i = pv cd i := by
  intro E
  induction E with
  | nil => intro cd l i _; rfl
  | cons t E ih =>
    intro cd l i h
    have h : i < l ∨ l + (E.length + 1) ≤ i := h
    show pv (eW φ (cd.set l (φ t)) (l + 1) E) i = _
    rw [ih _ _ _ (by omega), pv_ne (by omega)]
theorem eW_at {φ : Nat × Nat → Int32} : ∀ (E : List (Nat × Nat)) (cd : List Int32) (l j : Nat), l + E.length ≤ cd.length → j < E.length → pv (eW φ cd l E) (l + j) = φ (E.getD j (0, 0)) := by
  intro E
  induction E with
  | nil => intro cd l j _ hj; exact absurd hj (Nat.not_lt_zero j)
  | cons t E ih =>
    intro cd l j hl hj
    have hl : l + (E.length + 1) ≤ cd.length := hl
    have hj : j < E.length + 1 := hj
    show pv (eW φ (cd.set l (φ t)) (l + 1) E) (l + j) = _
    cases j with
    | zero =>
      rw [eW_lo _ _ _ _ (by omega)]
      show pv (cd.set l (φ t)) l = φ t
      rw [pv_eq (by omega)]
    | succ j =>
      rw [show l + (j + 1) = l + 1 + j by omega, ih _ _ _ (by rw [List.length_set]; omega) (by omega)]
      rfl
/-! the class's reader of rules -/
def rH (h : ss_Hp) (l c k : Nat) (cd sx : List Int32) : ss_Hp := (h.1, fun p => if p = 20 then (4, [nI l, nI c, nI k], [], [some 1, some 21, some 22]) else if p = 21 then (20, cd, [], []) else if p = 22 then (20, sx, [], []) else h.2 p)
section RQ
variable {h : ss_Hp} {l c k : Nat} {cd sx : List Int32} {N : Nat} {T : List Nat} {F : Int32} {p : Nat}
theorem rH_12 : (rH h l c k cd sx).2 20 = (4, [nI l, nI c, nI k], [], [some 1, some 21, some 22]) := rfl
theorem rH_13 : (rH h l c k cd sx).2 21 = (20, cd, [], []) := rfl
theorem rH_14 : (rH h l c k cd sx).2 22 = (20, sx, [], []) := rfl
theorem rH_o {q : Nat} (h1 : q ≠ 20) (h2 : q ≠ 21) (h3 : q ≠ 22) : (rH h l c k cd sx).2 q = h.2 q := by
  show (if q = 20 then _ else if q = 21 then _ else if q = 22 then _ else h.2 q) = _
  rw [if_neg h1, if_neg h2, if_neg h3]
theorem rH_tz (ht : tz h T) : tz (rH h l c k cd sx) T := by
  obtain ⟨h1, h2, tb, h3, h4⟩ := ht
  exact ⟨h1, h2, tb, (rH_o (by omega) (by omega) (by omega)).trans h3, h4⟩
theorem rl_2 {q : Nat} {ce : ss_Cl} (hq : q ≠ 1) (he : (rH h l c k cd sx).2 q = ce) : (lx (rH h l c k cd sx) T F p).2 q = ce := (tH_o hq).trans he
theorem rl_is : ss_is (lx (rH h l c k cd sx) T F p) (some 20) 4 = true := pb_is (rl_2 (by omega) rH_12)
theorem rl_r0 : ss_gr (lx (rH h l c k cd sx) T F p) (some 20) 4 0 = some (some 1) := pb_gr (rl_2 (by omega) rH_12) 0
theorem rl_r1 : ss_gr (lx (rH h l c k cd sx) T F p) (some 20) 4 1 = some (some 21) := pb_gr (rl_2 (by omega) rH_12) 1
theorem rl_r2 : ss_gr (lx (rH h l c k cd sx) T F p) (some 20) 4 2 = some (some 22) := pb_gr (rl_2 (by omega) rH_12) 2
theorem rl_j0 : ss_gi (lx (rH h l c k cd sx) T F p) (some 20) 4 0 = some (nI l) := pb_gi (rl_2 (by omega) rH_12) 0
theorem rl_j1 : ss_gi (lx (rH h l c k cd sx) T F p) (some 20) 4 1 = some (nI c) := pb_gi (rl_2 (by omega) rH_12) 1
theorem rl_j2 : ss_gi (lx (rH h l c k cd sx) T F p) (some 20) 4 2 = some (nI k) := pb_gi (rl_2 (by omega) rH_12) 2
theorem rl_p0 {y : Nat} : ss_pi (lx (rH h l c k cd sx) T F p) (some 20) 4 0 (nI y) = some (lx (rH h y c k cd sx) T F p) := by
  rw [pb_pi (rl_2 (by omega) rH_12) (by simp)]
  exact congrArg some (hs_of rfl (rl_2 (by omega) rH_12) (fun q hq => by
    by_cases q1 : q = 1
    · subst q1
      rfl
    · show (tH _ _ _ _ _ _).2 q = (tH _ _ _ _ _ _).2 q
      rw [tH_o q1, tH_o q1]
      show (if q = 20 then _ else if q = 21 then _ else if q = 22 then _ else h.2 q) = (if q = 20 then _ else if q = 21 then _ else if q = 22 then _ else h.2 q)
      rw [if_neg hq, if_neg hq]))
theorem rl_p1 {y : Nat} : ss_pi (lx (rH h l c k cd sx) T F p) (some 20) 4 1 (nI y) = some (lx (rH h l y k cd sx) T F p) := by
  rw [pb_pi (rl_2 (by omega) rH_12) (by simp)]
  exact congrArg some (hs_of rfl (rl_2 (by omega) rH_12) (fun q hq => by
    by_cases q1 : q = 1
    · subst q1
      rfl
    · show (tH _ _ _ _ _ _).2 q = (tH _ _ _ _ _ _).2 q
      rw [tH_o q1, tH_o q1]
      show (if q = 20 then _ else if q = 21 then _ else if q = 22 then _ else h.2 q) = (if q = 20 then _ else if q = 21 then _ else if q = 22 then _ else h.2 q)
      rw [if_neg hq, if_neg hq]))
theorem rl_p2 {y : Nat} : ss_pi (lx (rH h l c k cd sx) T F p) (some 20) 4 2 (nI y) = some (lx (rH h l c y cd sx) T F p) := by
  rw [pb_pi (rl_2 (by omega) rH_12) (by simp)]
  exact congrArg some (hs_of rfl (rl_2 (by omega) rH_12) (fun q hq => by
    by_cases q1 : q = 1
    · subst q1
      rfl
    · show (tH _ _ _ _ _ _).2 q = (tH _ _ _ _ _ _).2 q
      rw [tH_o q1, tH_o q1]
      show (if q = 20 then _ else if q = 21 then _ else if q = 22 then _ else h.2 q) = (if q = 20 then _ else if q = 21 then _ else if q = 22 then _ else h.2 q)
      rw [if_neg hq, if_neg hq]))
theorem rl_u13 {i : Nat} {y : Int32} (hi : i < cd.length) (h31 : i < 2147483648) : ss_ui (lx (rH h l c k cd sx) T F p) (some 21) 20 (nI i) y = some (lx (rH h l c k (cd.set i y) sx) T F p) := by
  rw [pb_ui (rl_2 (by omega) rH_13) h31 hi]
  exact congrArg some (hs_of rfl (rl_2 (by omega) rH_13) (fun q hq => by
    by_cases q1 : q = 1
    · subst q1
      rfl
    · show (tH _ _ _ _ _ _).2 q = (tH _ _ _ _ _ _).2 q
      rw [tH_o q1, tH_o q1]
      show (if q = 20 then _ else if q = 21 then _ else if q = 22 then _ else h.2 q) = (if q = 20 then _ else if q = 21 then _ else if q = 22 then _ else h.2 q)
      rw [if_neg hq, if_neg hq]))
theorem rl_u14 {i : Nat} {y : Int32} (hi : i < sx.length) (h31 : i < 2147483648) : ss_ui (lx (rH h l c k cd sx) T F p) (some 22) 20 (nI i) y = some (lx (rH h l c k cd (sx.set i y)) T F p) := by
  rw [pb_ui (rl_2 (by omega) rH_14) h31 hi]
  exact congrArg some (hs_of rfl (rl_2 (by omega) rH_14) (fun q hq => by
    by_cases q1 : q = 1
    · subst q1
      rfl
    · show (tH _ _ _ _ _ _).2 q = (tH _ _ _ _ _ _).2 q
      rw [tH_o q1, tH_o q1]
      show (if q = 20 then _ else if q = 21 then _ else if q = 22 then _ else h.2 q) = (if q = 20 then _ else if q = 21 then _ else if q = 22 then _ else h.2 q)
      rw [if_neg hq, if_neg hq]))
theorem rl_len (hcd : cd.length = 400) : ss_len (lx (rH h l c k cd sx) T F p) (some 21) 20 = some (nI 400) := by
  unfold ss_len
  simp only [rl_2 (h := h) (l := l) (c := c) (k := k) (cd := cd) (sx := sx) (T := T) (F := F) (p := p) (show 21 ≠ 1 by omega) rH_13]
  rw [← hcd]
  rfl
theorem T_failn {w : Nat} {b' : ss_Hp} (hF : (F = nI 0) = False) : mm_T_fail N (some 1) (nI w) (lx b' T F p) = some (lx b' T F p) := by
  unfold mm_T_fail mm_T_fail_j22 lx
  simp only [pb_l2, pb_ll, nI_add, pb_mul, if_true, if_false, pb_bs, pb_b2n, pb_bz0, pb_bz1, pb_10, pb_01, tH_is, tH_g0, tH_g1, tH_g2, tH_g3, tH_g4, tH_p0, tH_p1, tH_p2, tH_p3, tH_p4, tH_r, hF]
theorem T_welln {b' : ss_Hp} (hF : (F = nI 0) = False) : mm_T_isWell N (some 1) (lx b' T F p) = some (nI 0) := by
  unfold mm_T_isWell mm_T_isWell_j12 lx
  simp only [pb_l2, pb_ll, nI_add, pb_mul, if_true, if_false, pb_bs, pb_b2n, pb_bz0, pb_bz1, pb_10, pb_01, tH_is, tH_g0, tH_g1, tH_g2, tH_g3, tH_g4, tH_p0, tH_p1, tH_p2, tH_p3, tH_p4, tH_r, hF]
theorem T_gon {b' : ss_Hp} (hF : (F = nI 0) = False) : mm_T_goesOn N (some 1) (lx b' T F p) = some (nI 0, lx b' T F p) := by
  have e2 := T_welln (N := N) (T := T) (p := p) (b' := b') hF
  unfold mm_T_goesOn mm_T_goesOn_j14
  unfold lx at e2 ⊢
  simp only [pb_l2, pb_ll, nI_add, pb_mul, if_true, if_false, pb_bs, pb_b2n, pb_bz0, pb_bz1, pb_10, pb_01, tH_is, tH_g0, tH_g1, tH_g2, tH_g3, tH_g4, tH_p0, tH_p1, tH_p2, tH_p3, tH_p4, tH_r, e2]
theorem T_isw1 {J : Nat} {W : List Nat} {b' : ss_Hp} (ht : tz b' T) (hw : wok J [W]) (hp : p ≤ T.length) (hN : 500 < N) (hi : wis T (blk T p) W) : mm_T_isWord N (some 1) J (lx b' T F p) = some (nI 1) := by
  obtain ⟨r, c1, c2⟩ := T_word (F := F) ht hw hp hN
  unfold mm_T_isWord mm_T_isWord_j13
  have is1 : ss_is (lx b' T F p) (some 1) 2 = true := tH_is
  rcases c2 with ⟨rfl, hno⟩ | ⟨kd, hkd, rfl, hw2, hno⟩
  · exact absurd hi (hno 0 (by simp))
  · have hkd : kd < 1 := hkd
    have e : kd = 0 := by omega
    subst e
    simp only [pb_l2, pb_ll, nI_add, pb_mul, if_true, if_false, pb_bs, pb_b2n, pb_bz0, pb_bz1, pb_10, pb_01, is1, c1]
theorem T_isw0 {J : Nat} {W : List Nat} {b' : ss_Hp} (ht : tz b' T) (hw : wok J [W]) (hp : p ≤ T.length) (hN : 500 < N) (hi : ¬ wis T (blk T p) W) : mm_T_isWord N (some 1) J (lx b' T F p) = some (nI 0) := by
  obtain ⟨r, c1, c2⟩ := T_word (F := F) ht hw hp hN
  unfold mm_T_isWord mm_T_isWord_j13
  have is1 : ss_is (lx b' T F p) (some 1) 2 = true := tH_is
  have m10 : (-nI 1 = nI 0) = False := by simp; decide
  rcases c2 with ⟨rfl, hno⟩ | ⟨kd, hkd, rfl, hw2, hno⟩
  · simp only [pb_l2, pb_ll, nI_add, pb_mul, if_true, if_false, pb_bs, pb_b2n, pb_bz0, pb_bz1, pb_10, pb_01, is1, c1, m10]
  · have hkd : kd < 1 := hkd
    have e : kd = 0 := by omega
    subst e
    exact absurd hw2 hi
theorem T_signIn {J n : Nat} {Cs : List Nat} {b' : ss_Hp} (ht : tz b' T) (hJ : J < 9) (hn : ss_sL.getD J 0 = n) (hn8 : n < 8) (hc : ∀ i, i < n → ss_ch J i = nI (Cs.getD i 0) ∧ Cs.getD i 0 < 256) (hp : p ≤ T.length) (hN : 500 < N) : ∃ r, mm_T_signIn N (some 1) J (lx b' T F p) = some r ∧ (r = -nI 1 ∧ (∀ i, i < n → ¬ sgn T (blk T p) (Cs.getD i 0)) ∨ ∃ i, i < n ∧ r = nI i ∧ sgn T (blk T p) (Cs.getD i 0)) := by
  have is1 : ss_is (lx b' T F p) (some 1) 2 = true := tH_is
  have key := pb_for (body := mm_T_signIn_b2 N (some 1) J (lx b' T F p)) n (fun i s => s = nI i ∧ ∀ j, j < i → ¬ sgn T (blk T p) (Cs.getD j 0)) (fun e => e = .inl () ∧ (∀ i, i < n → ¬ sgn T (blk T p) (Cs.getD i 0)) ∨ ∃ i, i < n ∧ e = .inr (nI i) ∧ sgn T (blk T p) (Cs.getD i 0)) (N := N) (s := nI 0) (by omega) ⟨rfl, fun j hj => absurd hj (Nat.not_lt_zero j)⟩ (by
    rintro i s hi ⟨rfl, h2⟩
    have c0 : (nI n ≤ nI i) = False := eq_false (nI_ge hi (by omega))
    have hsl : ss_sl J = some (nI n) := by rw [sl_at hJ, hn]
    have hsc : ss_sc J (nI i) = some (nI (Cs.getD i 0)) := by rw [sc_at hJ (by omega) (by omega), (hc i hi).1]
    by_cases hs : sgn T (blk T p) (Cs.getD i 0)
    · right
      refine ⟨.inr (nI i), ?_, Or.inr ⟨i, hi, rfl, hs⟩⟩
      unfold mm_T_signIn_b2
      simp only [pb_l2, pb_ll, nI_add, pb_mul, if_true, if_false, pb_bs, pb_b2n, pb_bz0, pb_bz1, pb_10, pb_01, hsl, hsc, c0, T_sign1 ht hp hs]
    · left
      refine ⟨nI (i + 1), ?_, rfl, fun j hj => ?_⟩
      · unfold mm_T_signIn_b2
        simp only [pb_l2, pb_ll, nI_add, pb_mul, if_true, if_false, pb_bs, pb_b2n, pb_bz0, pb_bz1, pb_10, pb_01, hsl, hsc, c0, T_sign0 ht hp (hc i hi).2 hs]
      · rcases Nat.lt_or_ge j i with q | q
        · exact h2 j q
        · rw [show j = i by omega]; exact hs) (by
    rintro s ⟨rfl, h2⟩
    refine ⟨.inl (), ?_, Or.inl ⟨rfl, h2⟩⟩
    have c0 : (nI n ≤ nI n) = True := eq_true (nI_le (Nat.le_refl n) (by omega))
    have hsl : ss_sl J = some (nI n) := by rw [sl_at hJ, hn]
    unfold mm_T_signIn_b2
    simp only [pb_l2, pb_ll, nI_add, pb_mul, if_true, if_false, pb_bs, pb_b2n, pb_bz0, pb_bz1, pb_10, pb_01, hsl, c0])
  obtain ⟨e, e1, e2⟩ := key
  unfold mm_T_signIn
  rcases e2 with ⟨rfl, e2⟩ | ⟨i, hi, rfl, e2⟩
  · refine ⟨-nI 1, ?_, Or.inl ⟨rfl, e2⟩⟩
    simp only [pb_l2, pb_ll, nI_add, pb_mul, if_true, if_false, pb_bs, pb_b2n, pb_bz0, pb_bz1, pb_10, pb_01, is1, e1]
  · refine ⟨nI i, ?_, Or.inr ⟨i, hi, rfl, e2⟩⟩
    simp only [pb_l2, pb_ll, nI_add, pb_mul, if_true, if_false, pb_bs, pb_b2n, pb_bz0, pb_bz1, pb_10, pb_01, is1, e1]
/-- the deed that stands here, as the class has it -/
def ww (d : Nat) : Int32 := if d = 0 then nI 0 else tk_C (d, 0)
theorem C_sign3 {b' : ss_Hp} (ht : tz b' T) (hp : p ≤ T.length) (hN : 500 < N) : ∃ r, mm_T_signIn N (some 1) 3 (lx b' T F p) = some r ∧ -nI 1 - r = (if opT T (blk T p) = 0 then ww (opS T (blk T p)) else ww (opT T (blk T p))) := by
  have hCs : ∀ i, i < 5 → ss_ch 3 i = nI ([43, 45, 42, 47, 37].getD i 0) ∧ [43, 45, 42, 47, 37].getD i 0 < 256 := by decide +kernel
  obtain ⟨r, r1, r2⟩ := T_signIn (J := 3) (n := 5) (Cs := [43, 45, 42, 47, 37]) (F := F) ht (by omega) (by rfl) (by omega) hCs hp hN
  refine ⟨r, r1, ?_⟩
  rcases r2 with ⟨rfl, hno⟩ | ⟨i, hi, rfl, hs⟩
  · have n0 := hno 0 (by omega)
    have n1 := hno 1 (by omega)
    have n2 := hno 2 (by omega)
    have n3 := hno 3 (by omega)
    have n4 := hno 4 (by omega)
    have z : ∀ x, (x = 43 ∨ x = 45 ∨ x = 42 ∨ x = 47 ∨ x = 37) → ¬ sgn T (blk T p) x → blk T p < T.length → T.getD (blk T p) 0 ≠ x := fun x hx hn hb he => hn (sgn_of hb he (by omega) (by omega))
    have e1 : opT T (blk T p) = 0 := by
      unfold opT
      by_cases hb : blk T p < T.length
      · rw [if_pos hb, if_neg (z 42 (by omega) n2 hb), if_neg (z 47 (by omega) n3 hb), if_neg (z 37 (by omega) n4 hb)]
      · rw [if_neg hb]
    have e2 : opS T (blk T p) = 0 := by
      unfold opS
      by_cases hb : blk T p < T.length
      · rw [if_pos hb, if_neg (z 43 (by omega) n0 hb), if_neg (z 45 (by omega) n1 hb)]
      · rw [if_neg hb]
    rw [e1, e2]
    decide
  · have hb := hs.1
    have hc := hs.2.2.2
    unfold opT opS
    rw [if_pos hb, if_pos hb]
    rcases (by omega : i = 0 ∨ i = 1 ∨ i = 2 ∨ i = 3 ∨ i = 4) with e | e | e | e | e <;> subst e
    · have hc : T.getD (blk T p) 0 = 43 := hc
      rw [hc]; decide
    · have hc : T.getD (blk T p) 0 = 45 := hc
      rw [hc]; decide
    · have hc : T.getD (blk T p) 0 = 42 := hc
      rw [hc]; decide
    · have hc : T.getD (blk T p) 0 = 47 := hc
      rw [hc]; decide
    · have hc : T.getD (blk T p) 0 = 37 := hc
      rw [hc]; decide
end RQ
