/-! ===== what is fresh lies apart ===== -/
def qx_eq (g g' : Nat → ss_Cl) : Prop := ∀ p, (17 ≤ p ∧ p < 25) ∨ (34 ≤ p ∧ p < 94) ∨ 134 ≤ p → (g p).1 ≠ 99 → g' p = g p
theorem qv_R_fx {g g' : Nat → ss_Cl} (e : qx_eq g g') {v : Nat} {a : List Int32} (h : qv_R g v a) : qv_R g' v a := by
  obtain ⟨t0, t1⟩ := qv_tags h
  have hv := h.1.1
  refine qv_R_x (fun j hj => e _ (by omega) ?_) h
  by_cases c : j = 0
  · subst c
    rw [Nat.add_zero, t0]
    omega
  · have := t1 j (by omega) hj
    omega
theorem rc_R_fx {g g' : Nat → ss_Cl} (e : qx_eq g g') {r : Nat} {R : List ru_C} (h : rc_R g r R) : rc_R g' r R := by
  obtain ⟨h0, h1, code, starts, h2, h3, h4, h5⟩ := id h
  refine rc_R_x (fun j hj => e _ (by omega) ?_) h
  have hj' : j = 0 ∨ j = 1 ∨ j = 2 := by omega
  rcases hj' with c | c | c <;> subst c
  · rw [Nat.add_zero, h2]; show (1 : Nat) ≠ 99; omega
  · rw [h3]; show (20 : Nat) ≠ 99; omega
  · rw [h4]; show (20 : Nat) ≠ 99; omega
theorem qw_R_fx {g g' : Nat → ss_Cl} (e : qx_eq g g') {w : Nat} {s : List Int32} {f y : Int32} (h : qw_R g w s f y) : qw_R g' w s f y := by
  obtain ⟨t0, t1⟩ := qw_tags h
  have hw := h.1
  refine qw_R_x (fun j hj => e _ (by omega) ?_) (fun v hv => qv_R_fx e hv) h
  by_cases c : j = 0
  · subst c
    rw [Nat.add_zero, t0]
    omega
  · have := t1 j (by omega) hj
    omega
theorem ql_R_fx {g g' : Nat → ss_Cl} (e : qx_eq g g') {rl : List (Option Nat)} {RS : List (List ru_C)} (h : ql_R g rl RS) : ql_R g' rl RS := by
  refine ⟨h.1, fun r hr => ⟨fun h1 => ?_, (h.2 r hr).2⟩⟩
  obtain ⟨p, p1, p2⟩ := (h.2 r hr).1 h1
  exact ⟨p, p1, rc_R_fx e p2⟩
theorem qi_R_fx {g g' : Nat → ss_Cl} (e : qx_eq g g') {il : List (Option Nat)} {I : Nat → Option (List Int32 × Int32 × Int32)} (h : qi_R g il I) : qi_R g' il I := by
  refine ⟨h.1, fun q hq => ?_, h.2.2⟩
  have := h.2.1 q hq
  cases hI : I q with
  | none => rw [hI] at this; exact this
  | some z =>
    obtain ⟨s, f, y⟩ := z
    rw [hI] at this
    obtain ⟨w, w1, w2⟩ := this
    exact ⟨w, w1, qw_R_fx e w2⟩
theorem cl_gen {T : List Nat} {a : List Int32} {fo x : Int32} {RS : List (List ru_C)} {US : List (List Int32)} {I : Nat → Option (List Int32 × Int32 × Int32)} {n : Nat} {g : Nat → ss_Cl} {rc : Int32} {ti : List Int32} {tb : List Int32} {vt : Option Nat} {ri : List Int32} {cd : List Int32} {sx : List Int32} {rl : List (Option Nat)} {wi : List Int32} {wv : Option Nat} {gi : List Int32} {gs : List Int32} {gw : List Int32} {nd : List Int32} {ns : List Int32} {nw : List Int32} {il : List (Option Nat)} {ai : List Int32} {yv : Option Nat} {yr : Option Nat} {yi : List Int32} {ys : List Int32} {yw : List Int32} {yt : List Int32} {yh : List Int32} {yf : List Int32} {yo : List Int64} {yk : List Int64} {fr : List Int32} {fg : List Int32} {pl : List Int32} {pc : List Int32} {pg : List Int32} {h h9 : ss_Hp} {T' : List Nat} {a' ti' ri' cd' sx' gw' : List Int32} {vt' : Option Nat} {rl' : List (Option Nat)} {RS' : List (List ru_C)} {US' : List (List Int32)} {v' nx' : Nat} (eh : h = pk_C n g rc ti tb vt ri cd sx rl wi wv gi gs gw nd ns nw il ai yv yr yi ys yw yt yh yf yo yk fr fg pl pc pg) (F : cl_F n g rc ti tb vt ri cd sx rl wi wv gi gs gw nd ns nw il ai yv yr yi ys yw yt yh yf yo yk fr fg pl pc pg T a fo x RS US I) (n9 : 134 ≤ h9.1) (c0 : h9.2 0 = (11, [nI RS'.length], [], [some 1, some 3, some 12, some 15, some 16, some 31, some 32, some 94, some 103, some 106])) (c1 : h9.2 1 = (2, ti', [], [some 2])) (c3 : h9.2 3 = (6, [], [], [some 1, vt'])) (c12 : h9.2 12 = (4, ri', [], [some 1, some 13, some 14])) (c13 : h9.2 13 = (20, cd', [], [])) (c14 : h9.2 14 = (20, sx', [], [])) (c15 : h9.2 15 = (25, [], [], rl')) (c16 : h9.2 16 = (8, [fo, x, pv a' 123], [], [some v', some 25, some 28, some 29, some 30])) (c25 : h9.2 25 = (0, [pv a' 11, pv a' 12, pv a' 13, pv a' 10], [], [some 26, some 27])) (c26 : h9.2 26 = (20, sl a' 14 8, [], [])) (c27 : h9.2 27 = (20, gw', [], [])) (c32 : h9.2 32 = (3, [nI nx', nI US'.length], [], [some 33])) (low : ∀ p, p < 134 → p ≠ 0 → p ≠ 1 → p ≠ 3 → p ≠ 12 → p ≠ 13 → p ≠ 14 → p ≠ 15 → p ≠ 16 → p ≠ 25 → p ≠ 26 → p ≠ 27 → p ≠ 32 → h9.2 p = h.2 p) (high : ∀ p, 134 ≤ p → (h.2 p).1 ≠ 99 → h9.2 p = h.2 p) (Ft' : ct_R ti' tb T') (Fr' : ri'.length = 3 ∧ cd'.length = 400 ∧ sx'.length = 25 ∧ pv sx' 0 = nI 0) (Fl' : ql_R h9.2 rl' RS') (Fq' : qv_R h9.2 v' a') (Fwl' : gw'.length = 8 ∧ (¬ pv a' 0 ≤ nI 0 → gw' = sl a' 22 8)) (Fno' : note_R nd ns nw a') (Fu' : qu_R h9.2 nx' US') : cl_h h9 T' a' fo x RS' US' I := by
  obtain ⟨Fn, Frc, Ft, Fr, Fl, Fc, Fi, ⟨nx, Fa, Fu⟩, Fy, Ff⟩ := F
  have hg : ∀ p, (17 ≤ p ∧ p < 25) ∨ (34 ≤ p ∧ p < 94) ∨ 134 ≤ p → h.2 p = g p := fun p hp => by rw [eh, pk_out (by unfold pk_fr; omega)]
  have qx : qx_eq g h9.2 := fun p hp ht => by
    have hp2 := hg p hp
    rcases Nat.lt_or_ge p 134 with c | c
    · rw [low p c (by omega) (by omega) (by omega) (by omega) (by omega) (by omega) (by omega) (by omega) (by omega) (by omega) (by omega) (by omega), hp2]
    · rw [high p c (by rw [hp2]; exact ht), hp2]
  refine ⟨h9.1, h9.2, nI RS'.length, ti', tb, vt', ri', cd', sx', rl', [fo, x, pv a' 123], some v', [pv a' 11, pv a' 12, pv a' 13, pv a' 10], sl a' 14 8, gw', nd, ns, nw, il, [nI nx', nI US'.length], yv, yr, yi, ys, yw, yt, yh, yf, yo, yk, fr, fg, pl, pc, pg, pk_re (n := n) (g := g) (fun p q => ?_), n9, rfl, Ft', Fr', Fl', ⟨rfl, ⟨v', rfl, Fq'⟩, rfl, rfl, Fwl', Fno'⟩, qi_R_fx qx Fi, ⟨nx', rfl, Fu'⟩, Fy, Ff⟩
  have hp : p = 0 ∨ p = 1 ∨ p = 2 ∨ p = 3 ∨ p = 12 ∨ p = 13 ∨ p = 14 ∨ p = 15 ∨ p = 16 ∨ p = 25 ∨ p = 26 ∨ p = 27 ∨ p = 28 ∨ p = 29 ∨ p = 30 ∨ p = 31 ∨ p = 32 ∨ p = 33 ∨ p = 94 ∨ p = 95 ∨ p = 96 ∨ p = 97 ∨ p = 98 ∨ p = 99 ∨ p = 100 ∨ p = 101 ∨ p = 102 ∨ p = 103 ∨ p = 104 ∨ p = 105 ∨ p = 106 ∨ p = 107 ∨ p = 108 ∨ p = 109 := by
    unfold pk_fr at q
    omega
  rcases hp with hp | hp | hp | hp | hp | hp | hp | hp | hp | hp | hp | hp | hp | hp | hp | hp | hp | hp | hp | hp | hp | hp | hp | hp | hp | hp | hp | hp | hp | hp | hp | hp | hp | hp <;> subst hp
  · rw [c0]; rfl
  · rw [c1]; rfl
  · rw [low 2 (by omega) (by omega) (by omega) (by omega) (by omega) (by omega) (by omega) (by omega) (by omega) (by omega) (by omega) (by omega) (by omega), eh]; rfl
  · rw [c3]; rfl
  · rw [c12]; rfl
  · rw [c13]; rfl
  · rw [c14]; rfl
  · rw [c15]; rfl
  · rw [c16]; rfl
  · rw [c25]; rfl
  · rw [c26]; rfl
  · rw [c27]; rfl
  · rw [low 28 (by omega) (by omega) (by omega) (by omega) (by omega) (by omega) (by omega) (by omega) (by omega) (by omega) (by omega) (by omega) (by omega), eh]; rfl
  · rw [low 29 (by omega) (by omega) (by omega) (by omega) (by omega) (by omega) (by omega) (by omega) (by omega) (by omega) (by omega) (by omega) (by omega), eh]; rfl
  · rw [low 30 (by omega) (by omega) (by omega) (by omega) (by omega) (by omega) (by omega) (by omega) (by omega) (by omega) (by omega) (by omega) (by omega), eh]; rfl
  · rw [low 31 (by omega) (by omega) (by omega) (by omega) (by omega) (by omega) (by omega) (by omega) (by omega) (by omega) (by omega) (by omega) (by omega), eh]; rfl
  · rw [c32]; rfl
  · rw [low 33 (by omega) (by omega) (by omega) (by omega) (by omega) (by omega) (by omega) (by omega) (by omega) (by omega) (by omega) (by omega) (by omega), eh]; rfl
  · rw [low 94 (by omega) (by omega) (by omega) (by omega) (by omega) (by omega) (by omega) (by omega) (by omega) (by omega) (by omega) (by omega) (by omega), eh]; rfl
  · rw [low 95 (by omega) (by omega) (by omega) (by omega) (by omega) (by omega) (by omega) (by omega) (by omega) (by omega) (by omega) (by omega) (by omega), eh]; rfl
  · rw [low 96 (by omega) (by omega) (by omega) (by omega) (by omega) (by omega) (by omega) (by omega) (by omega) (by omega) (by omega) (by omega) (by omega), eh]; rfl
  · rw [low 97 (by omega) (by omega) (by omega) (by omega) (by omega) (by omega) (by omega) (by omega) (by omega) (by omega) (by omega) (by omega) (by omega), eh]; rfl
  · rw [low 98 (by omega) (by omega) (by omega) (by omega) (by omega) (by omega) (by omega) (by omega) (by omega) (by omega) (by omega) (by omega) (by omega), eh]; rfl
  · rw [low 99 (by omega) (by omega) (by omega) (by omega) (by omega) (by omega) (by omega) (by omega) (by omega) (by omega) (by omega) (by omega) (by omega), eh]; rfl
  · rw [low 100 (by omega) (by omega) (by omega) (by omega) (by omega) (by omega) (by omega) (by omega) (by omega) (by omega) (by omega) (by omega) (by omega), eh]; rfl
  · rw [low 101 (by omega) (by omega) (by omega) (by omega) (by omega) (by omega) (by omega) (by omega) (by omega) (by omega) (by omega) (by omega) (by omega), eh]; rfl
  · rw [low 102 (by omega) (by omega) (by omega) (by omega) (by omega) (by omega) (by omega) (by omega) (by omega) (by omega) (by omega) (by omega) (by omega), eh]; rfl
  · rw [low 103 (by omega) (by omega) (by omega) (by omega) (by omega) (by omega) (by omega) (by omega) (by omega) (by omega) (by omega) (by omega) (by omega), eh]; rfl
  · rw [low 104 (by omega) (by omega) (by omega) (by omega) (by omega) (by omega) (by omega) (by omega) (by omega) (by omega) (by omega) (by omega) (by omega), eh]; rfl
  · rw [low 105 (by omega) (by omega) (by omega) (by omega) (by omega) (by omega) (by omega) (by omega) (by omega) (by omega) (by omega) (by omega) (by omega), eh]; rfl
  · rw [low 106 (by omega) (by omega) (by omega) (by omega) (by omega) (by omega) (by omega) (by omega) (by omega) (by omega) (by omega) (by omega) (by omega), eh]; rfl
  · rw [low 107 (by omega) (by omega) (by omega) (by omega) (by omega) (by omega) (by omega) (by omega) (by omega) (by omega) (by omega) (by omega) (by omega), eh]; rfl
  · rw [low 108 (by omega) (by omega) (by omega) (by omega) (by omega) (by omega) (by omega) (by omega) (by omega) (by omega) (by omega) (by omega) (by omega), eh]; rfl
  · rw [low 109 (by omega) (by omega) (by omega) (by omega) (by omega) (by omega) (by omega) (by omega) (by omega) (by omega) (by omega) (by omega) (by omega), eh]; rfl
theorem qx_h {n : Nat} {g : Nat → ss_Cl} {rc : Int32} {ti : List Int32} {tb : List Int32} {vt : Option Nat} {ri : List Int32} {cd : List Int32} {sx : List Int32} {rl : List (Option Nat)} {wi : List Int32} {wv : Option Nat} {gi : List Int32} {gs : List Int32} {gw : List Int32} {nd : List Int32} {ns : List Int32} {nw : List Int32} {il : List (Option Nat)} {ai : List Int32} {yv : Option Nat} {yr : Option Nat} {yi : List Int32} {ys : List Int32} {yw : List Int32} {yt : List Int32} {yh : List Int32} {yf : List Int32} {yo : List Int64} {yk : List Int64} {fr : List Int32} {fg : List Int32} {pl : List Int32} {pc : List Int32} {pg : List Int32} {h h9 : ss_Hp} (eh : h = pk_C n g rc ti tb vt ri cd sx rl wi wv gi gs gw nd ns nw il ai yv yr yi ys yw yt yh yf yo yk fr fg pl pc pg) (hfr : fr_h h) (hg : ∀ p, p ≠ 1 → p ≠ 3 → p < h.1 ∨ h.1 + 7 < p → h9.2 p = h.2 p) : qx_eq g h9.2 := fun p hp h99 => by
  have e1 : h.2 p = g p := by rw [eh, pk_out (by unfold pk_fr; omega)]
  rcases Nat.lt_or_ge p h.1 with c | c
  · rw [hg p (by omega) (by omega) (Or.inl c), e1]
  · have := hfr p c
    rw [e1] at this
    exact absurd this h99
/-! ===== valley: the class, and both ===== -/
def hv0 (h : ss_Hp) : ss_Hp := (h.1 + 8, fun p => if p = 3 then (6, [], [], [some 1, some h.1]) else h.2 p)
theorem hv0_3 {h : ss_Hp} : (hv0 h).2 3 = (6, [], [], [some 1, some h.1]) := rfl
theorem hv0_o {h : ss_Hp} {p : Nat} (hp : p ≠ 3) : (hv0 h).2 p = h.2 p := if_neg hp
theorem hv0_tz {h : ss_Hp} {T : List Nat} (ht : tz h T) : tz (hv0 h) T := by
  obtain ⟨h1, h2, tb, h3, h4⟩ := ht
  exact ⟨h1, h2, tb, (hv0_o (by omega)).trans h3, h4⟩
theorem hv0_g {h : ss_Hp} {v p : Nat} {J0 J1 J2 J3 J4 : Int32} {own str bes nds sn wa : List Int32} {a b c d e1 : Int32} (h1 : p ≠ 1) (h3 : p ≠ 3) (hp : p < v ∨ v + 7 < p) : (tH (wH (hv0 h) v J0 J1 J2 J3 J4 own str bes nds sn wa) a b c d e1).2 p = h.2 p := by
  rw [tH_o h1, wH_o hp, hv0_o h3]
theorem cv_pre {N : Nat} {h : ss_Hp} {T : List Nat} {vt : Option Nat} {t1 t2 t3 t4 : Int32} (ht : tz h T) (hn : 134 ≤ h.1) (c1 : h.2 1 = (2, [nI T.length, t1, t2, t3, t4], [], [some 2])) (c3 : h.2 3 = (6, [], [], [some 1, vt])) (hN : 500 < N) : ∃ k2 k3 k4 k6, ss_no h 5 5 0 5 = some (some h.1, k2) ∧ mm_V_init N (some h.1) k2 = some k3 ∧ ss_pr k3 (some 3) 6 1 (some h.1) = some k4 ∧ ss_gr k4 (some 3) 6 1 = some (some h.1) ∧ ss_pz k4 (some h.1) 5 0 (nI 1) = some k6 ∧ ss_gr k6 (some 3) 6 0 = some (some 1) ∧ mm_T_open N (some 1) k6 = some (vK0 (hv0 h) h.1 T 0) := by
  obtain ⟨k2, E2, A2, B2⟩ : ∃ k2, ss_no h 5 5 0 5 = some (some h.1, k2) ∧ k2.1 = h.1 + 1 ∧ ∀ y, k2.2 y = if y = h.1 then (5, [nI 0, nI 0, nI 0, nI 0, nI 0], [], [none, none, none, none, none]) else h.2 y := ⟨_, rfl, rfl, fun _ => rfl⟩
  obtain ⟨k3, E3, A3, d0, d1, d2, d3, d4, d5, d6, d7, B3⟩ := va_init (N := N) (h := k2) (v := h.1) (by rw [B2, if_pos rfl]) A2 (by omega)
  have R3 : ∀ y, y < h.1 ∨ h.1 + 8 ≤ y → k3.2 y = h.2 y := fun y hy => by rw [B3 y hy, B2, if_neg (by omega)]
  obtain ⟨k4, E4, A4, B4⟩ : ∃ k4, ss_pr k3 (some 3) 6 1 (some h.1) = some k4 ∧ k4.1 = k3.1 ∧ ∀ y, k4.2 y = if y = 3 then (6, [], [], [some 1, some h.1]) else k3.2 y := ⟨_, pb_pr (h := k3) (a := 3) (c := 6) (by rw [R3 3 (by omega)]; exact c3) (by simp) _, rfl, fun _ => rfl⟩
  have v4 : k4.2 h.1 = (5, [nI 0, nI 0, nI 0, nI 0, nI 0], [], [some (h.1 + 1), some (h.1 + 2), some (h.1 + 3), some (h.1 + 4), some (h.1 + 5)]) := by rw [B4, if_neg (by omega)]; exact d0
  obtain ⟨k6, E6, A6, B6⟩ : ∃ k6, ss_pz k4 (some h.1) 5 0 (nI 1) = some k6 ∧ k6.1 = k4.1 ∧ ∀ y, k6.2 y = if y = h.1 then (5, [nI 1, nI 0, nI 0, nI 0, nI 0], [], [some (h.1 + 1), some (h.1 + 2), some (h.1 + 3), some (h.1 + 4), some (h.1 + 5)]) else k4.2 y := ⟨_, (if_pos (Or.inr rfl)).trans (pb_pi v4 (by simp) (nI 1)), rfl, fun _ => rfl⟩
  have g4 : ss_gr k4 (some 3) 6 1 = some (some h.1) := pb_gr (h := k4) (a := 3) (c := 6) (by rw [B4, if_pos rfl]) 1
  have c36 : k6.2 3 = (6, [], [], [some 1, some h.1]) := by rw [B6, if_neg (by omega), B4, if_pos rfl]
  have g6 : ss_gr k6 (some 3) 6 0 = some (some 1) := pb_gr c36 0
  refine ⟨k2, k3, k4, k6, E2, E3, E4, g4, E6, g6, ?_⟩
  have ek : k6 = tH (wH (hv0 h) h.1 (nI 1) (nI 0) (nI 0) (nI 0) (nI 0) [nI 0, nI 0, nI 0, nI 0] [nI 0, nI 0, nI 0, nI 0] z8 z8 z8 wm8) (nI T.length) t1 t2 t3 t4 := by
    refine Prod.ext (by show k6.1 = h.1 + 8; omega) (funext fun p => ?_)
    by_cases q1 : p = 1
    · subst q1
      rw [tH_1, B6, if_neg (by omega), B4, if_neg (by omega), R3 1 (by omega), c1]
    · rw [tH_o q1]
      rcases Nat.lt_or_ge p h.1 with q2 | q2
      · rw [wH_o (Or.inl q2), B6, if_neg (by omega), B4]
        by_cases q3 : p = 3
        · rw [if_pos q3, q3, hv0_3]
        · rw [if_neg q3, hv0_o q3, R3 p (Or.inl q2)]
      · rcases Nat.lt_or_ge (h.1 + 7) p with q4 | q4
        · rw [wH_o (Or.inr q4), hv0_o (by omega), B6, if_neg (by omega), B4, if_neg (by omega), R3 p (Or.inr (by omega))]
        · have q5 : p = h.1 ∨ p = h.1 + 1 ∨ p = h.1 + 2 ∨ p = h.1 + 3 ∨ p = h.1 + 4 ∨ p = h.1 + 5 ∨ p = h.1 + 6 ∨ p = h.1 + 7 := by omega
          rcases q5 with e | e | e | e | e | e | e | e
          · rw [e, wH_0, B6, if_pos rfl]
          · rw [e, wH_1, B6, if_neg (by omega), B4, if_neg (by omega)]; exact d1
          · rw [e, wH_2, B6, if_neg (by omega), B4, if_neg (by omega)]; exact d2
          · rw [e, wH_3, B6, if_neg (by omega), B4, if_neg (by omega)]; exact d3
          · rw [e, wH_4, B6, if_neg (by omega), B4, if_neg (by omega)]; exact d4
          · rw [e, wH_5, B6, if_neg (by omega), B4, if_neg (by omega)]; exact d5
          · rw [e, wH_6, B6, if_neg (by omega), B4, if_neg (by omega)]; exact d6
          · rw [e, wH_7, B6, if_neg (by omega), B4, if_neg (by omega)]; exact d7
  rw [ek]
  unfold mm_T_open vK0
  simp only [pb_l2, pb_ll, nI_add, pb_mul, if_true, if_false, pb_bs, pb_b2n, pb_bz0, pb_bz1, pb_10, pb_01, tH_is, tH_g0, tH_g1, tH_g2, tH_g3, tH_g4, tH_p0, tH_p1, tH_p2, tH_p3, tH_p4, tH_r, T_advance (vX_tz hn (hv0_tz ht)) (Nat.zero_le _) hN]
theorem cv_read1 {N : Nat} {h : ss_Hp} {T : List Nat} {vt : Option Nat} {t1 t2 t3 t4 : Int32} {rd nds : List Int32} {p : Nat} (ht : tz h T) (hn : 134 ≤ h.1) (c1 : h.2 1 = (2, [nI T.length, t1, t2, t3, t4], [], [some 2])) (c3 : h.2 3 = (6, [], [], [some 1, vt])) (hN : 500 < N) (hl : ss_lp (mm_VR_readValley_b30 N (some 3)) N (nI 1, nI 0, vK0 (hv0 h) h.1 T 0) = some (vK (hv0 h) h.1 T rd nds p)) : mm_VR_readValley N (some 3) h = some (some h.1, vK (hv0 h) h.1 T rd nds p) := by
  obtain ⟨k2, k3, k4, k6, e1, e2, e3, e4, e5, e6, e7⟩ := cv_pre ht hn c1 c3 hN
  have h3 := hv0_3 (h := h)
  have is3 : ss_is h (some 3) 6 = true := pb_is c3
  unfold vK at hl ⊢
  unfold mm_VR_readValley mm_VR_readValley_j77
  simp only [pb_l2, pb_ll, nI_add, pb_mul, if_true, if_false, pb_bs, pb_b2n, pb_bz0, pb_bz1, pb_10, pb_01, is3, e1, e2, e3, e4, e5, e6, e7, hl, vL_r0 h3 hn, vL_r1 h3 hn, T_wellx]
theorem cv_read0 {N : Nat} {h : ss_Hp} {T : List Nat} {vt : Option Nat} {t1 t2 t3 t4 : Int32} {q w : Nat} {J0 J1 J2 J3 J4 : Int32} {own str bes nds sn wa : List Int32} (ht : tz h T) (hn : 134 ≤ h.1) (c1 : h.2 1 = (2, [nI T.length, t1, t2, t3, t4], [], [some 2])) (c3 : h.2 3 = (6, [], [], [some 1, vt])) (hN : 500 < N) (hq : q ≤ T.length) (hw : w < 8) (hl : ss_lp (mm_VR_readValley_b30 N (some 3)) N (nI 1, nI 0, vK0 (hv0 h) h.1 T 0) = some (fl (wH (hv0 h) h.1 J0 J1 J2 J3 J4 own str bes nds sn wa) T q w)) : mm_VR_readValley N (some 3) h = some (none, fl (wH (hv0 h) h.1 J0 J1 J2 J3 J4 own str bes nds sn wa) T q w) := by
  obtain ⟨k2, k3, k4, k6, e1, e2, e3, e4, e5, e6, e7⟩ := cv_pre ht hn c1 c3 hN
  have h3 := hv0_3 (h := h)
  have is3 : ss_is h (some 3) 6 = true := pb_is c3
  unfold mm_VR_readValley mm_VR_readValley_j77
  simp only [pb_l2, pb_ll, nI_add, pb_mul, if_true, if_false, pb_bs, pb_b2n, pb_bz0, pb_bz1, pb_10, pb_01, is3, e1, e2, e3, e4, e5, e6, e7, hl, vF_r0 h3 hn, T_wellf hq ht.1 hw]
theorem vA_pv {r : List Int32} {j : Nat} (hj : j < 124) : pv (sa_first (vB r)) j = if j < 10 then pv r j else if j < 14 then nI 0 else if j < 30 then pv r (j + 32) else if j < 93 then pv r j else nI 0 := by
  rw [sa_first_pv vB_len]
  by_cases c1 : j < 10
  · rw [if_pos (Or.inl c1), if_pos c1, vB_pv hj, if_pos (by omega)]
  · rw [if_neg c1]
    by_cases c2 : j < 14
    · rw [if_neg (by omega), if_pos c2, if_pos c2]
    · rw [if_neg c2]
      by_cases c3 : j < 30
      · rw [if_neg (by omega), if_neg c2, if_pos c3, vB_pv (by omega), if_pos (by omega)]
      · rw [if_pos (by omega), if_neg c2, if_neg c3, vB_pv hj]
theorem vA_lo {r : List Int32} {j : Nat} (hj : j < 10) : pv (sa_first (vB r)) j = pv r j := by rw [vA_pv (by omega), if_pos hj]
theorem vA_hi {r : List Int32} {j : Nat} (h1 : 30 ≤ j) (h2 : j < 93) : pv (sa_first (vB r)) j = pv r j := by rw [vA_pv (by omega), if_neg (by omega), if_neg (by omega), if_neg (by omega), if_pos h2]
theorem vA_z {r : List Int32} {j : Nat} (h1 : 10 ≤ j ∧ j < 14 ∨ 93 ≤ j ∧ j < 124) : pv (sa_first (vB r)) j = nI 0 := by
  rw [vA_pv (by omega), if_neg (by omega)]
  rcases h1 with h | h
  · rw [if_pos (by omega)]
  · rw [if_neg (by omega), if_neg (by omega), if_neg (by omega)]
theorem vA_m {r : List Int32} {j : Nat} (h1 : j < 16) : pv (sa_first (vB r)) (14 + j) = pv r (46 + j) := by
  rw [vA_pv (by omega), if_neg (by omega), if_neg (by omega), if_pos (by omega), show 14 + j + 32 = 46 + j by omega]
theorem vA_ok {r nds : List Int32} {k m : Nat} (hI : vI r nds k m) : sd_ok (sa_first (vB r)) k m 0 := by
  obtain ⟨⟨l0, ⟨k1, k2⟩, m1, m2⟩, ⟨f1, f2⟩, be, ow, st, sn, wa, nd, nR⟩ := hI
  refine ⟨⟨sa_first_len vB_len, ⟨k1, by rw [vA_lo (by omega)]; exact k2⟩, ⟨m1, by rw [vA_lo (by omega)]; exact m2⟩, ⟨by omega, vA_z (by omega)⟩, fun s hs => ?_, fun s hs => by rw [vA_hi (by omega) (by omega)]; exact be s hs, fun i hi => by rw [vA_hi (by omega) (by omega)]; exact ow i hi⟩, fun s hs => ?_, fun i hi => by rw [vA_hi (by omega) (by omega)]; exact st i hi, ⟨0, by omega, vA_z (by omega)⟩, by omega, fun s hs hneg => ?_, ⟨0, by omega, vA_z (by omega), fun i hi => absurd hi (Nat.not_lt_zero i)⟩, ⟨fun s hs => by rw [vA_hi (by omega) (by omega)]; exact sn s hs, fun s hs => by rw [vA_hi (by omega) (by omega)]; exact wa s (by omega)⟩, fun e he => by rw [vA_hi (by omega) (by omega)]; exact nd e he, Or.inl ⟨by rw [vA_lo (by omega)]; exact f1, by rw [vA_lo (by omega)]; exact f2⟩⟩
  · rw [show 22 + s = 14 + (8 + s) by omega, vA_m (by omega), show 46 + (8 + s) = 54 + s by omega]
    rcases wa s (by omega) with h | h
    · exact Or.inl (by rw [h]; exact pb_m1)
    · exact Or.inr h
  · rw [vA_m (by omega)]
    obtain ⟨q, q1, q2, q3⟩ := sn s hs
    exact ⟨q, by omega, q2, q3⟩
  · rw [show 22 + s = 14 + (8 + s) by omega, vA_m (by omega), show 46 + (8 + s) = 54 + s by omega] at hneg ⊢
    rcases wa s (by omega) with h | ⟨t, t1, t2⟩
    · exact h
    · rw [t2] at hneg
      exact absurd hneg (nI_nlt (by omega) (by omega))
theorem list5 {l : List Int32} (h : l.length = 5) : ∃ t0 t1 t2 t3 t4, l = [t0, t1, t2, t3, t4] := by
  match l, h with
  | [t0, t1, t2, t3, t4], _ => exact ⟨t0, t1, t2, t3, t4, rfl⟩
theorem list16 {l : List Int32} (h : l.length = 16) : ∃ m0 m1 m2 m3 m4 m5 m6 m7 m8 m9 m10 m11 m12 m13 m14 m15, l = mL m0 m1 m2 m3 m4 m5 m6 m7 m8 m9 m10 m11 m12 m13 m14 m15 := by
  match l, h with
  | [m0, m1, m2, m3, m4, m5, m6, m7, m8, m9, m10, m11, m12, m13, m14, m15], _ => exact ⟨m0, m1, m2, m3, m4, m5, m6, m7, m8, m9, m10, m11, m12, m13, m14, m15, rfl⟩
theorem ct_tz {h : ss_Hp} {T : List Nat} {ti tb : List Int32} (hT : T.length ≤ 400 ∧ ∀ i, i < T.length → T.getD i 0 < 256) (c2 : h.2 2 = (20, tb, [], [])) (Ft : ct_R ti tb T) : tz h T := ⟨hT.1, hT.2, tb, c2, Ft.2.2.1, Ft.2.2.2⟩
theorem ct_nil {tb : List Int32} {t1 t2 t3 t4 : Int32} (h : tb.length = 400) : ct_R [nI 0, t1, t2, t3, t4] tb [] := ⟨rfl, rfl, h, fun i hi => absurd hi (Nat.not_lt_zero i)⟩
/-- the class, told a faulty valley -/
theorem cv_bad {N : Nat} {h : ss_Hp} {T : List Nat} {a : List Int32} {fo x : Int32} {RS : List (List ru_C)} {US : List (List Int32)} {I : Nat → Option (List Int32 × Int32 × Int32)} {q w : Nat} {J0 J1 J2 J3 J4 : Int32} {own str bes nds sn wa : List Int32} (hc : cl_h h T a fo x RS US I) (ha : as_ok T a fo x RS US I) (hfr : fr_h h) (hN : 500 < N) (hq : q ≤ T.length) (hw : w < 8) (hl : ss_lp (mm_VR_readValley_b30 N (some 3)) N (nI 1, nI 0, vK0 (hv0 h) h.1 T 0) = some (fl (wH (hv0 h) h.1 J0 J1 J2 J3 J4 own str bes nds sn wa) T q w)) : cl_run (mm_S_valley N (some 0) h) h (-nI 2 - nI (1 + 8 * blk T q + w)) [] a fo x RS US I := by
  obtain ⟨n, g, rc, ti, tb, vt, ri, cd, sx, rl, wi, wv, gi, gs, gw, nd, ns, nw, il, ai, yv, yr, yi, ys, yw, yt, yh, yf, yo, yk, fr, fg, pl, pc, pg, eh, F⟩ := hc
  have F0 := F
  obtain ⟨Fn, Frc, Ft, Fr, Fl, ⟨Fw, ⟨vv, Fv, Fq⟩, Fg, Fs, Fwl, Fno⟩, Fi, ⟨nx, Fa, Fu⟩, Fy, Ff⟩ := F
  have hn : 134 ≤ h.1 := by rw [eh]; exact Fn
  obtain ⟨t0, t1, t2, t3, t4, ht5⟩ := list5 Ft.1
  have et0 : t0 = nI T.length := by have := Ft.2.1; rw [ht5] at this; exact this
  have C0 : h.2 0 = (11, [nI RS.length], [], [some 1, some 3, some 12, some 15, some 16, some 31, some 32, some 94, some 103, some 106]) := by rw [eh, ← Frc]; exact pk_c0
  have C1 : h.2 1 = (2, [nI T.length, t1, t2, t3, t4], [], [some 2]) := by rw [eh, ← et0, ← ht5]; exact pk_c1
  have C2 : h.2 2 = (20, tb, [], []) := by rw [eh]; exact pk_c2
  have C3 : h.2 3 = (6, [], [], [some 1, vt]) := by rw [eh]; exact pk_c3
  have ht := ct_tz ha.1 C2 Ft
  have rd := cv_read0 ht hn C1 C3 hN hq hw hl
  have hg : ∀ p, p ≠ 1 → p ≠ 3 → p < h.1 ∨ h.1 + 7 < p → ∀ z0 z1 z2 z3 z4, (tH (wH (hv0 h) h.1 J0 J1 J2 J3 J4 own str bes nds sn wa) z0 z1 z2 z3 z4).2 p = h.2 p := fun p p1 p3 hp z0 z1 z2 z3 z4 => hv0_g p1 p3 hp
  have D0 : ∀ z0 z1 z2 z3 z4, (tH (wH (hv0 h) h.1 J0 J1 J2 J3 J4 own str bes nds sn wa) z0 z1 z2 z3 z4).2 0 = (11, [nI RS.length], [], [some 1, some 3, some 12, some 15, some 16, some 31, some 32, some 94, some 103, some 106]) := fun z0 z1 z2 z3 z4 => (hg 0 (by omega) (by omega) (by omega) _ _ _ _ _).trans C0
  refine ⟨tH (wH (hv0 h) h.1 J0 J1 J2 J3 J4 own str bes nds sn wa) (nI 0) (nI (1 + 8 * blk T q + w)) (nI (tk T (blk T q))) (nI (blk T q)) (nI (en T (blk T q))), ?_, ?_, fun p hp => hg p (by omega) (by omega) (by omega) _ _ _ _ _, fun f p hp => ?_⟩
  · have i0 : ss_is h (some 0) 11 = true := pb_is C0
    have g1 : ss_gr h (some 0) 11 1 = some (some 3) := pb_gr C0 1
    have g2 : ∀ z0 z1 z2 z3 z4, ss_gr (tH (wH (hv0 h) h.1 J0 J1 J2 J3 J4 own str bes nds sn wa) z0 z1 z2 z3 z4) (some 0) 11 0 = some (some 1) := fun z0 z1 z2 z3 z4 => pb_gr (D0 z0 z1 z2 z3 z4) 0
    unfold fl at rd
    unfold mm_S_valley
    simp only [pb_l2, pb_ll, nI_add, pb_mul, if_true, if_false, pb_bs, pb_b2n, pb_bz0, pb_bz1, pb_10, pb_01, tH_is, tH_g0, tH_g1, tH_g2, tH_g3, tH_g4, tH_p0, tH_p1, tH_p2, tH_p3, tH_p4, tH_r, i0, g1, rd, g2, Option.isSome_none, Bool.false_eq_true]
  · refine cl_gen (nx' := nx) (v' := vv) (rl' := rl) eh F0 (by show 134 ≤ h.1 + 8; omega) (D0 _ _ _ _ _) tH_1 ((tH_o (by omega)).trans ((wH_o (by omega)).trans hv0_3)) ?_ ?_ ?_ ?_ ?_ ?_ ?_ ?_ ?_ ?_ (fun p hp h99 => ?_) (ct_nil Ft.2.2.1) Fr ?_ ?_ Fwl Fno ?_
    · rw [hg 12 (by omega) (by omega) (by omega), eh]; exact pk_c12
    · rw [hg 13 (by omega) (by omega) (by omega), eh]; exact pk_c13
    · rw [hg 14 (by omega) (by omega) (by omega), eh]; exact pk_c14
    · rw [hg 15 (by omega) (by omega) (by omega), eh]; exact pk_c15
    · rw [hg 16 (by omega) (by omega) (by omega), eh, ← Fw, ← Fv]; exact pk_c16
    · rw [hg 25 (by omega) (by omega) (by omega), eh, ← Fg]; exact pk_c25
    · rw [hg 26 (by omega) (by omega) (by omega), eh, ← Fs]; exact pk_c26
    · rw [hg 27 (by omega) (by omega) (by omega), eh]; exact pk_c27
    · rw [hg 32 (by omega) (by omega) (by omega), eh, ← Fa]; exact pk_c32
    · intro p hp p0 p1 p3 p12 p13 p14 p15 p16 p25 p26 p27 p32
      exact hg p (by omega) (by omega) (by omega) _ _ _ _ _
    · refine hg p (by omega) (by omega) ?_ _ _ _ _ _
      rcases Nat.lt_or_ge p h.1 with c | c
      · exact Or.inl c
      · exact absurd (hfr p c) h99
    · exact ql_R_fx (qx_h eh hfr (fun p p1 p3 hp => hg p p1 p3 hp _ _ _ _ _)) Fl
    · exact qv_R_fx (qx_h eh hfr (fun p p1 p3 hp => hg p p1 p3 hp _ _ _ _ _)) Fq
    · refine qu_R_x (fun p p1 p2 => ?_) Fu
      rw [hg p (by omega) (by omega) (by omega), eh, pk_out (by unfold pk_fr; omega)]
  · have hp : h.1 + 8 ≤ p := hp
    rw [hg p (by omega) (by omega) (by omega)]
    exact f p (by omega)
