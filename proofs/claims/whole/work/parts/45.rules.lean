/-! ===== rules: tokens (kind, value), as the model has them: 0 a number, 1 a word, 2 + 3 - 4 * 5 / 6 < 7 <= 8 = 9 >= 10 > 11 not 12 and 13 or 14 % ===== -/
theorem pl_ge (x y : Int64) : (nI 0 ≤ lg_cmp x y) = (y ≤ x) := propext (lg_cmp_ge x y)
theorem pl_le (x y : Int64) : (lg_cmp x y ≤ nI 0) = (x ≤ y) := propext (lg_cmp_le x y)
theorem pl_gt (x y : Int64) : (nI 0 < lg_cmp x y) = (y < x) := propext (lg_cmp_gt x y)
theorem pl_lt (x y : Int64) : (lg_cmp x y < nI 0) = (x < y) := propext (lg_cmp_lt x y)
theorem pl_eq (x y : Int64) : (lg_cmp x y = nI 0) = (x = y) := propext (lg_cmp_eq x y)
def ev_op (k : Nat) (x y : Int64) : Int64 :=
  if k = 2 then x + y else if k = 3 then x - y else if k = 4 then x * y
  else if k = 5 then (if y = 0 then 0 else x / y)
  else if k = 6 then (if y ≤ x then 0 else 1) else if k = 7 then (if y < x then 0 else 1) else if k = 8 then (if x = y then 1 else 0)
  else if k = 9 then (if x < y then 0 else 1) else if k = 10 then (if x ≤ y then 0 else 1)
  else if k = 12 then x &&& y else if k = 14 then (if y = 0 then 0 else x - x / y * y) else x ||| y
theorem po_one {N k : Nat} {x y : Int64} (hk : 1 < k ∧ k < 15) : mm_M_one N (nI k) x y = some (ev_op k x y) := by
  obtain ⟨h1, h2⟩ := hk
  rcases (by omega : k = 2 ∨ k = 3 ∨ k = 4 ∨ k = 5 ∨ k = 6 ∨ k = 7 ∨ k = 8 ∨ k = 9 ∨ k = 10 ∨ k = 11 ∨ k = 12 ∨ k = 13 ∨ k = 14) with h | h | h | h | h | h | h | h | h | h | h | h | h <;> subst h <;>
    simp (config := { decide := true }) only [mm_M_one, mm_M_one_j93, mm_M_one_j107, mm_M_one_j119, mm_M_one_j131, mm_M_one_j143, mm_M_one_j155, mm_M_one_j167, mm_M_one_j172, ev_op, ss_ldiv, ss_lrem, if_true, if_false, lg_cmp_ge, lg_cmp_le, lg_cmp_gt, lg_cmp_lt, lg_cmp_eq, pb_its] <;>
    (try split) <;> (try rfl) <;> (try simp_all)
/-- tokens on a stack, top first, at most 32 deep -/
def ev_run (w : Nat → Int64) : List (Nat × Nat) → List Int64 → Option (List Int64)
  | [], s => some s
  | (k, v) :: ts, s =>
    if k = 0 then (if s.length < 32 then ev_run w ts (lN v :: s) else none)
    else if k = 1 then (if s.length < 32 ∧ v < 12 then ev_run w ts (w v :: s) else none)
    else if k = 11 then (match s with
      | x :: s => ev_run w ts ((1 - x) :: s)
      | [] => none)
    else (match s with
      | y :: x :: s => ev_run w ts (ev_op k x y :: s)
      | _ => none)
theorem ev_cons (w : Nat → Int64) (k v : Nat) (ts : List (Nat × Nat)) (s : List Int64) : ev_run w ((k, v) :: ts) s = (if k = 0 then (if s.length < 32 then ev_run w ts (lN v :: s) else none)
    else if k = 1 then (if s.length < 32 ∧ v < 12 then ev_run w ts (w v :: s) else none)
    else if k = 11 then (match s with
      | x :: s => ev_run w ts ((1 - x) :: s)
      | [] => none)
    else (match s with
      | y :: x :: s => ev_run w ts (ev_op k x y :: s)
      | _ => none)) := by rw [ev_run.eq_def]
/-- a token as the model keeps it -/
def tk_M (t : Nat × Nat) : Int32 := nI (t.1 + 16 * t.2)
def tk_ok (t : Nat × Nat) : Prop := t.1 < 15 ∧ t.2 < 100000
theorem tk_M_k {t : Nat × Nat} (h : tk_ok t) : tk_M t &&& nI 15 = nI t.1 := by
  unfold tk_M
  rw [pk_andN (n := t.1 + 16 * t.2) (by have := h.1; have := h.2; omega) (m := nI 15) 4 (by decide)]
  congr 1
  have := h.1
  omega
theorem tk_M_v {t : Nat × Nat} (h : tk_ok t) : tk_M t >>> nI 4 = nI t.2 := by
  unfold tk_M
  rw [pk_shrN (n := t.1 + 16 * t.2) (by have := h.1; have := h.2; omega) (nI 4) 4 (by decide)]
  congr 1
  have := h.1
  omega
/-- an array holds a stack -/
def sk_R (a : List Int64) (s : List Int64) : Prop := ∀ i, i < s.length → pvl a i = s.getD (s.length - 1 - i) 0
theorem sk_push {a s : List Int64} (h : sk_R a s) (hl : s.length < a.length) (v : Int64) : sk_R (a.set s.length v) (v :: s) := by
  intro i hi
  have hi2 : i < s.length + 1 := hi
  by_cases e : i = s.length
  · subst e
    rw [pvl_eq hl]
    simp
  · rw [pvl_ne e, h i (by omega)]
    have e1 : (v :: s).length - 1 - i = (s.length - 1 - i) + 1 := by simp; omega
    rw [e1, List.getD_cons_succ]
theorem sk_top {a s : List Int64} {v : Int64} (h : sk_R a (v :: s)) : pvl a s.length = v := by
  have := h s.length (by simp)
  simpa using this
theorem sk_pop {a s : List Int64} {v : Int64} (h : sk_R a (v :: s)) : sk_R a s := by
  intro i hi
  rw [h i (by simp; omega)]
  have e1 : (v :: s).length - 1 - i = (s.length - 1 - i) + 1 := by simp; omega
  rw [e1, List.getD_cons_succ]
section PR
variable {n : Nat} {f : Nat → ss_Cl} {mi : List Int32} {dx : Int64} {tp : List Int32} {sg : List Int32} {lg : List Int32} {cl : List Int32} {cs : List Int32} {rd : List Int32} {op : List Int32} {sk : List Int64} {wd : List Int64} {sd : List Int32} {th : List Int32} {fa : List Int32} {ws : List Int32} {kp : List Int32} {li : List Int32} {pr : List Int32} {hb : List Int32} {fi : List Int32} {st : List Int32} {im : List Int32} {jf : List Int32} {jx : List Int32} {mk : List Int32} {N : Nat}
theorem po_push {s : List Int64} {v : Int64} (hmi : mi.length = 16) (hsk : sk.length = 64) (ht : pv mi 12 = nI s.length) (hs : s.length < 64) : mm_M_push N (some 118) v (pm_M n f mi dx tp sg lg cl cs rd op sk wd sd th fa ws kp li pr hb fi st im jf jx mk) = some (pm_M n f (mi.set 12 (nI (s.length + 1))) dx tp sg lg cl cs rd op (sk.set s.length v) wd sd th fa ws kp li pr hb fi st im jf jx mk) := by
  unfold mm_M_push
  simp (disch := ((try simp only [List.length_set]); omega)) only [pb_its, pb_lit, nI_add, pb_mul, if_true, if_false, Option.bind_some, pb_b2, pb_bz0, pb_bz1, pb_10, pb_01, pb_i31, List.length_set, pn_is, pn_gi, pn_pi, pn_gl, pn_pl, pn_g0, pn_g1, pn_g2, pn_g3, pn_g4, pn_g5, pn_g6, pn_g7, pn_g8, pn_g9, pn_g10, pn_g11, pn_g12, pn_g13, pn_g14, pn_g15, pn_g16, pn_g17, pn_g18, pn_g19, pn_g20, pn_g21, pn_g22, pn_a0, pn_a1, pn_a2, pn_a3, pn_a4, pn_a5, pn_a6, pn_a7, pn_a8, pn_a9, pn_a10, pn_a11, pn_a12, pn_a13, pn_a14, pn_a15, pn_a16, pn_a17, pn_a18, pn_a19, pn_a20, pn_a21, pn_a22, pn_u0, pn_u1, pn_u2, pn_u3, pn_u4, pn_u5, pn_u6, pn_u7, pn_u8, pn_u9, pn_u10, pn_u11, pn_u12, pn_u13, pn_u14, pn_u15, pn_u16, pn_u17, pn_u18, pn_u19, pn_u20, pn_u21, pn_u22, ht]
theorem po_pop {s : List Int64} {v : Int64} (hmi : mi.length = 16) (hsk : sk.length = 64) (ht : pv mi 12 = nI (s.length + 1)) (hs : s.length < 63) (hR : sk_R sk (v :: s)) : mm_M_pop N (some 118) (pm_M n f mi dx tp sg lg cl cs rd op sk wd sd th fa ws kp li pr hb fi st im jf jx mk) = some (v, (pm_M n f (mi.set 12 (nI s.length)) dx tp sg lg cl cs rd op sk wd sd th fa ws kp li pr hb fi st im jf jx mk)) := by
  unfold mm_M_pop
  have e1 : nI (s.length + 1) - nI 1 = nI s.length := nI_pred _
  have e2 : pv (mi.set 12 (nI s.length)) 12 = nI s.length := pv_eq (by omega)
  simp (disch := ((try simp only [List.length_set]); omega)) only [pb_its, pb_lit, nI_add, pb_mul, if_true, if_false, Option.bind_some, pb_b2, pb_bz0, pb_bz1, pb_10, pb_01, pb_i31, List.length_set, pn_is, pn_gi, pn_pi, pn_gl, pn_pl, pn_g0, pn_g1, pn_g2, pn_g3, pn_g4, pn_g5, pn_g6, pn_g7, pn_g8, pn_g9, pn_g10, pn_g11, pn_g12, pn_g13, pn_g14, pn_g15, pn_g16, pn_g17, pn_g18, pn_g19, pn_g20, pn_g21, pn_g22, pn_a0, pn_a1, pn_a2, pn_a3, pn_a4, pn_a5, pn_a6, pn_a7, pn_a8, pn_a9, pn_a10, pn_a11, pn_a12, pn_a13, pn_a14, pn_a15, pn_a16, pn_a17, pn_a18, pn_a19, pn_a20, pn_a21, pn_a22, pn_u0, pn_u1, pn_u2, pn_u3, pn_u4, pn_u5, pn_u6, pn_u7, pn_u8, pn_u9, pn_u10, pn_u11, pn_u12, pn_u13, pn_u14, pn_u15, pn_u16, pn_u17, pn_u18, pn_u19, pn_u20, pn_u21, pn_u22, ht, e1, e2, sk_top hR]
/-- the tokens ts stand in the array from place p on -/
def tk_at (a : List Int32) (p : Nat) (ts : List (Nat × Nat)) : Prop := ∀ j, j < ts.length → pv a (p + j) = tk_M (ts.getD j (0, 0)) ∧ tk_ok (ts.getD j (0, 0))
theorem tk_at_cons {a : List Int32} {p : Nat} {x : Nat × Nat} {ts : List (Nat × Nat)} (h : tk_at a p (x :: ts)) : pv a p = tk_M x ∧ tk_ok x ∧ tk_at a (p + 1) ts := by
  have h0 := h 0 (by simp)
  refine ⟨by simpa using h0.1, by simpa using h0.2, fun j hj => ?_⟩
  have h1 := h (j + 1) (by simp; omega)
  rw [show p + (j + 1) = p + 1 + j by omega, List.getD_cons_succ] at h1
  exact h1
theorem po_reckL {w : Nat → Int64} {r q : Nat} (hmi : mi.length = 16) (hsg : sg.length = 2400) (hwd : wd.length = 12) (hw : ∀ k, k < 12 → pvl wd k = w k) (hr : r < 6) (hq : q ≤ 400) :
    ∀ (ts : List (Nat × Nat)) (i : Nat) (s s' : List Int64) (sk : List Int64) (L : Nat), sk.length = 64 → i + ts.length = q → tk_at sg (400 * r + i) ts → ev_run w ts s = some s' → sk_R sk s → s.length ≤ 32 → ts.length < L → ∃ sk', sk'.length = 64 ∧ sk_R sk' s' ∧ s'.length ≤ 32 ∧ ss_lp (mm_M_reckons_b8 N (some 118) (nI r) (nI q)) L (nI i, (pm_M n f (mi.set 12 (nI s.length)) dx tp sg lg cl cs rd op sk wd sd th fa ws kp li pr hb fi st im jf jx mk)) = some (pm_M n f (mi.set 12 (nI s'.length)) dx tp sg lg cl cs rd op sk' wd sd th fa ws kp li pr hb fi st im jf jx mk) := by
  intro ts
  induction ts with
  | nil =>
    intro i s s' sk L hsk hi _ hev hR hs hL
    obtain ⟨L, rfl⟩ : ∃ L', L = L' + 1 := ⟨L - 1, by simp at hL; omega⟩
    simp [ev_run] at hev
    subst hev
    refine ⟨sk, hsk, hR, hs, ?_⟩
    have hiq : i = q := by simpa using hi
    subst hiq
    rw [ss_lp]
    unfold mm_M_reckons_b8
    simp (disch := ((try simp only [List.length_set]); omega)) only [pb_its, pb_lit, nI_add, pb_mul, if_true, if_false, Option.bind_some, pb_b2, pb_bz0, pb_bz1, pb_10, pb_01, pb_i31, List.length_set, pn_is, pn_gi, pn_pi, pn_gl, pn_pl, pn_g0, pn_g1, pn_g2, pn_g3, pn_g4, pn_g5, pn_g6, pn_g7, pn_g8, pn_g9, pn_g10, pn_g11, pn_g12, pn_g13, pn_g14, pn_g15, pn_g16, pn_g17, pn_g18, pn_g19, pn_g20, pn_g21, pn_g22, pn_a0, pn_a1, pn_a2, pn_a3, pn_a4, pn_a5, pn_a6, pn_a7, pn_a8, pn_a9, pn_a10, pn_a11, pn_a12, pn_a13, pn_a14, pn_a15, pn_a16, pn_a17, pn_a18, pn_a19, pn_a20, pn_a21, pn_a22, pn_u0, pn_u1, pn_u2, pn_u3, pn_u4, pn_u5, pn_u6, pn_u7, pn_u8, pn_u9, pn_u10, pn_u11, pn_u12, pn_u13, pn_u14, pn_u15, pn_u16, pn_u17, pn_u18, pn_u19, pn_u20, pn_u21, pn_u22, nI_le (Nat.le_refl i) (by omega : i < 2 ^ 31)]
  | cons x ts ih =>
    intro i s s' sk L hsk hi hat hev hR hs hL
    obtain ⟨L, rfl⟩ : ∃ L', L = L' + 1 := ⟨L - 1, by simp at hL; omega⟩
    have hi2 : i + 1 + ts.length = q := by simp at hi; omega
    have hL2 : ts.length < L := by simp at hL; omega
    obtain ⟨hx, hok, hat2⟩ := tk_at_cons hat
    rw [show 400 * r + i + 1 = 400 * r + (i + 1) by omega] at hat2
    obtain ⟨k, v⟩ := x
    have hk := tk_M_k hok
    have hv := tk_M_v hok
    have hok1 : k < 15 := hok.1
    have hok2 : v < 100000 := hok.2
    have e0 : ∀ a b : Nat, a < 100 → b < 100 → (nI a = nI b) = (a = b) := fun a b ha hb => propext (nI_eq (by omega) (by omega))
    have h3 : ¬ nI q ≤ nI i := nI_ge (by omega) (by omega)
    by_cases c0 : k = 0
    · subst c0
      rw [ev_cons] at hev
      simp only [if_true] at hev
      obtain ⟨hs2, hev⟩ := ss_chk hev
      obtain ⟨sk', g1, g2, g3, g4⟩ := ih (i + 1) (lN v :: s) s' (sk.set s.length (lN v)) L (by simpa using hsk) hi2 hat2 hev (sk_push hR (by omega) _) (by simp; omega) hL2
      refine ⟨sk', g1, g2, g3, pb_step ?_ g4⟩
      unfold mm_M_reckons_b8 mm_M_reckons_j129
      have hp := po_push (n := n) (f := f) (mi := mi.set 12 (nI s.length)) (dx := dx) (tp := tp) (sg := sg) (lg := lg) (cl := cl) (cs := cs) (rd := rd) (op := op) (sk := sk) (wd := wd) (sd := sd) (th := th) (fa := fa) (ws := ws) (kp := kp) (li := li) (pr := pr) (hb := hb) (fi := fi) (st := st) (im := im) (jf := jf) (jx := jx) (mk := mk) (N := N) (s := s) (v := lN v) (by simpa using hmi) hsk (pv_eq (by omega)) (by omega)
      simp (disch := ((try simp only [List.length_set]); omega)) only [pb_its, pb_lit, nI_add, pb_mul, if_true, if_false, Option.bind_some, pb_b2, pb_bz0, pb_bz1, pb_10, pb_01, pb_i31, List.length_set, pn_is, pn_gi, pn_pi, pn_gl, pn_pl, pn_g0, pn_g1, pn_g2, pn_g3, pn_g4, pn_g5, pn_g6, pn_g7, pn_g8, pn_g9, pn_g10, pn_g11, pn_g12, pn_g13, pn_g14, pn_g15, pn_g16, pn_g17, pn_g18, pn_g19, pn_g20, pn_g21, pn_g22, pn_a0, pn_a1, pn_a2, pn_a3, pn_a4, pn_a5, pn_a6, pn_a7, pn_a8, pn_a9, pn_a10, pn_a11, pn_a12, pn_a13, pn_a14, pn_a15, pn_a16, pn_a17, pn_a18, pn_a19, pn_a20, pn_a21, pn_a22, pn_u0, pn_u1, pn_u2, pn_u3, pn_u4, pn_u5, pn_u6, pn_u7, pn_u8, pn_u9, pn_u10, pn_u11, pn_u12, pn_u13, pn_u14, pn_u15, pn_u16, pn_u17, pn_u18, pn_u19, pn_u20, pn_u21, pn_u22, h3, hx, hk, hv, nI_l (show v < 2 ^ 31 by omega), hp, List.set_set, List.length_cons]
    · by_cases c1 : k = 1
      · subst c1
        rw [ev_cons] at hev
        simp only [if_true, if_false, Nat.one_ne_zero] at hev
        obtain ⟨hs2, hev⟩ := ss_chk hev
        obtain ⟨sk', g1, g2, g3, g4⟩ := ih (i + 1) (w v :: s) s' (sk.set s.length (w v)) L (by simpa using hsk) hi2 hat2 hev (sk_push hR (by omega) _) (by simp; omega) hL2
        refine ⟨sk', g1, g2, g3, pb_step ?_ g4⟩
        unfold mm_M_reckons_b8 mm_M_reckons_j129
        have hp := po_push (n := n) (f := f) (mi := mi.set 12 (nI s.length)) (dx := dx) (tp := tp) (sg := sg) (lg := lg) (cl := cl) (cs := cs) (rd := rd) (op := op) (sk := sk) (wd := wd) (sd := sd) (th := th) (fa := fa) (ws := ws) (kp := kp) (li := li) (pr := pr) (hb := hb) (fi := fi) (st := st) (im := im) (jf := jf) (jx := jx) (mk := mk) (N := N) (s := s) (v := w v) (by simpa using hmi) hsk (pv_eq (by omega)) (by omega)
        have hv2 : v < 12 := hs2.2
        simp (disch := ((try simp only [List.length_set]); omega)) only [pb_its, pb_lit, nI_add, pb_mul, if_true, if_false, Option.bind_some, pb_b2, pb_bz0, pb_bz1, pb_10, pb_01, pb_i31, List.length_set, pn_is, pn_gi, pn_pi, pn_gl, pn_pl, pn_g0, pn_g1, pn_g2, pn_g3, pn_g4, pn_g5, pn_g6, pn_g7, pn_g8, pn_g9, pn_g10, pn_g11, pn_g12, pn_g13, pn_g14, pn_g15, pn_g16, pn_g17, pn_g18, pn_g19, pn_g20, pn_g21, pn_g22, pn_a0, pn_a1, pn_a2, pn_a3, pn_a4, pn_a5, pn_a6, pn_a7, pn_a8, pn_a9, pn_a10, pn_a11, pn_a12, pn_a13, pn_a14, pn_a15, pn_a16, pn_a17, pn_a18, pn_a19, pn_a20, pn_a21, pn_a22, pn_u0, pn_u1, pn_u2, pn_u3, pn_u4, pn_u5, pn_u6, pn_u7, pn_u8, pn_u9, pn_u10, pn_u11, pn_u12, pn_u13, pn_u14, pn_u15, pn_u16, pn_u17, pn_u18, pn_u19, pn_u20, pn_u21, pn_u22, h3, hx, hk, hv, hw v hv2, hp, List.set_set, List.length_cons]
      · by_cases c2 : k = 11
        · subst c2
          rw [ev_cons] at hev
          simp at hev
          cases s with
          | nil => simp at hev
          | cons y s =>
            simp only at hev
            obtain ⟨sk', g1, g2, g3, g4⟩ := ih (i + 1) ((1 - y) :: s) s' (sk.set s.length (1 - y)) L (by simpa using hsk) hi2 hat2 hev (sk_push (sk_pop hR) (by simp at hs; omega) _) (by simpa using hs) hL2
            refine ⟨sk', g1, g2, g3, pb_step ?_ g4⟩
            unfold mm_M_reckons_b8 mm_M_reckons_j129
            have hq1 := po_pop (n := n) (f := f) (mi := mi.set 12 (nI (s.length + 1))) (dx := dx) (tp := tp) (sg := sg) (lg := lg) (cl := cl) (cs := cs) (rd := rd) (op := op) (sk := sk) (wd := wd) (sd := sd) (th := th) (fa := fa) (ws := ws) (kp := kp) (li := li) (pr := pr) (hb := hb) (fi := fi) (st := st) (im := im) (jf := jf) (jx := jx) (mk := mk) (N := N) (s := s) (v := y) (by simpa using hmi) hsk (pv_eq (by omega)) (by simp at hs; omega) hR
            have hp := po_push (n := n) (f := f) (mi := mi.set 12 (nI s.length)) (dx := dx) (tp := tp) (sg := sg) (lg := lg) (cl := cl) (cs := cs) (rd := rd) (op := op) (sk := sk) (wd := wd) (sd := sd) (th := th) (fa := fa) (ws := ws) (kp := kp) (li := li) (pr := pr) (hb := hb) (fi := fi) (st := st) (im := im) (jf := jf) (jx := jx) (mk := mk) (N := N) (s := s) (v := 1 - y) (by simpa using hmi) hsk (pv_eq (by omega)) (by simp at hs; omega)
            have n0 : ¬ nI 11 = nI 0 := by decide
            have n1 : ¬ nI 11 = nI 1 := by decide
            rw [List.set_set] at hq1
            simp (disch := ((try simp only [List.length_set]); omega)) only [pb_its, pb_lit, nI_add, pb_mul, if_true, if_false, Option.bind_some, pb_b2, pb_bz0, pb_bz1, pb_10, pb_01, pb_i31, List.length_set, pn_is, pn_gi, pn_pi, pn_gl, pn_pl, pn_g0, pn_g1, pn_g2, pn_g3, pn_g4, pn_g5, pn_g6, pn_g7, pn_g8, pn_g9, pn_g10, pn_g11, pn_g12, pn_g13, pn_g14, pn_g15, pn_g16, pn_g17, pn_g18, pn_g19, pn_g20, pn_g21, pn_g22, pn_a0, pn_a1, pn_a2, pn_a3, pn_a4, pn_a5, pn_a6, pn_a7, pn_a8, pn_a9, pn_a10, pn_a11, pn_a12, pn_a13, pn_a14, pn_a15, pn_a16, pn_a17, pn_a18, pn_a19, pn_a20, pn_a21, pn_a22, pn_u0, pn_u1, pn_u2, pn_u3, pn_u4, pn_u5, pn_u6, pn_u7, pn_u8, pn_u9, pn_u10, pn_u11, pn_u12, pn_u13, pn_u14, pn_u15, pn_u16, pn_u17, pn_u18, pn_u19, pn_u20, pn_u21, pn_u22, h3, hx, hk, hv, n0, n1, hq1, hp, List.set_set, List.length_cons]
        · rw [ev_cons] at hev
          simp only [c0, c1, c2, if_false] at hev
          cases s with
          | nil => simp at hev
          | cons y s =>
            cases s with
            | nil => simp at hev
            | cons z s =>
              simp only at hev
              obtain ⟨sk', g1, g2, g3, g4⟩ := ih (i + 1) (ev_op k z y :: s) s' (sk.set s.length (ev_op k z y)) L (by simpa using hsk) hi2 hat2 hev (sk_push (sk_pop (sk_pop hR)) (by simp at hs; omega) _) (by simp at hs ⊢; omega) hL2
              refine ⟨sk', g1, g2, g3, pb_step ?_ g4⟩
              unfold mm_M_reckons_b8 mm_M_reckons_j129
              have hq1 := po_pop (n := n) (f := f) (mi := mi.set 12 (nI (s.length + 1 + 1))) (dx := dx) (tp := tp) (sg := sg) (lg := lg) (cl := cl) (cs := cs) (rd := rd) (op := op) (sk := sk) (wd := wd) (sd := sd) (th := th) (fa := fa) (ws := ws) (kp := kp) (li := li) (pr := pr) (hb := hb) (fi := fi) (st := st) (im := im) (jf := jf) (jx := jx) (mk := mk) (N := N) (s := z :: s) (v := y) (by simpa using hmi) hsk (pv_eq (by omega)) (by simp at hs ⊢; omega) hR
              have hq2 := po_pop (n := n) (f := f) (mi := mi.set 12 (nI (s.length + 1))) (dx := dx) (tp := tp) (sg := sg) (lg := lg) (cl := cl) (cs := cs) (rd := rd) (op := op) (sk := sk) (wd := wd) (sd := sd) (th := th) (fa := fa) (ws := ws) (kp := kp) (li := li) (pr := pr) (hb := hb) (fi := fi) (st := st) (im := im) (jf := jf) (jx := jx) (mk := mk) (N := N) (s := s) (v := z) (by simpa using hmi) hsk (pv_eq (by omega)) (by simp at hs; omega) (sk_pop hR)
              have hp := po_push (n := n) (f := f) (mi := mi.set 12 (nI s.length)) (dx := dx) (tp := tp) (sg := sg) (lg := lg) (cl := cl) (cs := cs) (rd := rd) (op := op) (sk := sk) (wd := wd) (sd := sd) (th := th) (fa := fa) (ws := ws) (kp := kp) (li := li) (pr := pr) (hb := hb) (fi := fi) (st := st) (im := im) (jf := jf) (jx := jx) (mk := mk) (N := N) (s := s) (v := ev_op k z y) (by simpa using hmi) hsk (pv_eq (by omega)) (by simp at hs; omega)
              have n0 : ¬ nI k = nI 0 := by rw [e0 k 0 (by omega) (by omega)]; exact c0
              have n1 : ¬ nI k = nI 1 := by rw [e0 k 1 (by omega) (by omega)]; exact c1
              have n2 : ¬ nI k = nI 11 := by rw [e0 k 11 (by omega) (by omega)]; exact c2
              simp only [List.length_cons] at hq1
              rw [List.set_set] at hq1 hq2
              simp (disch := ((try simp only [List.length_set]); omega)) only [pb_its, pb_lit, nI_add, pb_mul, if_true, if_false, Option.bind_some, pb_b2, pb_bz0, pb_bz1, pb_10, pb_01, pb_i31, List.length_set, pn_is, pn_gi, pn_pi, pn_gl, pn_pl, pn_g0, pn_g1, pn_g2, pn_g3, pn_g4, pn_g5, pn_g6, pn_g7, pn_g8, pn_g9, pn_g10, pn_g11, pn_g12, pn_g13, pn_g14, pn_g15, pn_g16, pn_g17, pn_g18, pn_g19, pn_g20, pn_g21, pn_g22, pn_a0, pn_a1, pn_a2, pn_a3, pn_a4, pn_a5, pn_a6, pn_a7, pn_a8, pn_a9, pn_a10, pn_a11, pn_a12, pn_a13, pn_a14, pn_a15, pn_a16, pn_a17, pn_a18, pn_a19, pn_a20, pn_a21, pn_a22, pn_u0, pn_u1, pn_u2, pn_u3, pn_u4, pn_u5, pn_u6, pn_u7, pn_u8, pn_u9, pn_u10, pn_u11, pn_u12, pn_u13, pn_u14, pn_u15, pn_u16, pn_u17, pn_u18, pn_u19, pn_u20, pn_u21, pn_u22, h3, hx, hk, hv, n0, n1, n2, hq1, hq2, hp, po_one (show 1 < k ∧ k < 15 by omega), List.set_set, List.length_cons]
theorem po_reckons {w : Nat → Int64} {r b0 : Nat} {ts : List (Nat × Nat)} {v : Int64} (hmi : mi.length = 16) (hsg : sg.length = 2400) (hwd : wd.length = 12) (hsk : sk.length = 64) (hw : ∀ k, k < 12 → pvl wd k = w k) (hr : r < 6) (hq : b0 + ts.length ≤ 400) (hat : tk_at sg (400 * r + b0) ts) (hev : ev_run w ts [] = some [v]) (hN : 400 < N) : ∃ sk', sk'.length = 64 ∧ mm_M_reckons N (some 118) (nI r) (nI b0) (nI (b0 + ts.length)) (pm_M n f mi dx tp sg lg cl cs rd op sk wd sd th fa ws kp li pr hb fi st im jf jx mk) = some (v, (pm_M n f (mi.set 12 (nI 0)) dx tp sg lg cl cs rd op sk' wd sd th fa ws kp li pr hb fi st im jf jx mk)) := by
  obtain ⟨sk', g1, g2, g3, g4⟩ := po_reckL (n := n) (f := f) (dx := dx) (tp := tp) (lg := lg) (cl := cl) (cs := cs) (rd := rd) (op := op) (sd := sd) (th := th) (fa := fa) (ws := ws) (kp := kp) (li := li) (pr := pr) (hb := hb) (fi := fi) (st := st) (im := im) (jf := jf) (jx := jx) (mk := mk) (N := N) (q := b0 + ts.length) hmi hsg hwd hw hr hq ts b0 [] [v] sk N hsk rfl hat hev (fun i hi => by simp at hi) (by simp) (by omega)
  refine ⟨sk', g1, ?_⟩
  have hq1 := po_pop (n := n) (f := f) (mi := mi.set 12 (nI 1)) (dx := dx) (tp := tp) (sg := sg) (lg := lg) (cl := cl) (cs := cs) (rd := rd) (op := op) (sk := sk') (wd := wd) (sd := sd) (th := th) (fa := fa) (ws := ws) (kp := kp) (li := li) (pr := pr) (hb := hb) (fi := fi) (st := st) (im := im) (jf := jf) (jx := jx) (mk := mk) (N := N) (s := []) (v := v) (by simpa using hmi) g1 (pv_eq (by omega)) (by simp) g2
  rw [List.set_set] at hq1
  simp only [List.length_nil, List.length_cons] at g4 hq1
  unfold mm_M_reckons
  simp (disch := ((try simp only [List.length_set]); omega)) only [pb_its, pb_lit, nI_add, pb_mul, if_true, if_false, Option.bind_some, pb_b2, pb_bz0, pb_bz1, pb_10, pb_01, pb_i31, List.length_set, pn_is, pn_gi, pn_pi, pn_gl, pn_pl, pn_g0, pn_g1, pn_g2, pn_g3, pn_g4, pn_g5, pn_g6, pn_g7, pn_g8, pn_g9, pn_g10, pn_g11, pn_g12, pn_g13, pn_g14, pn_g15, pn_g16, pn_g17, pn_g18, pn_g19, pn_g20, pn_g21, pn_g22, pn_a0, pn_a1, pn_a2, pn_a3, pn_a4, pn_a5, pn_a6, pn_a7, pn_a8, pn_a9, pn_a10, pn_a11, pn_a12, pn_a13, pn_a14, pn_a15, pn_a16, pn_a17, pn_a18, pn_a19, pn_a20, pn_a21, pn_a22, pn_u0, pn_u1, pn_u2, pn_u3, pn_u4, pn_u5, pn_u6, pn_u7, pn_u8, pn_u9, pn_u10, pn_u11, pn_u12, pn_u13, pn_u14, pn_u15, pn_u16, pn_u17, pn_u18, pn_u19, pn_u20, pn_u21, pn_u22, g4, hq1]
end PR
