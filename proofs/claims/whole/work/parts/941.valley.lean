/-! ===== what is fresh lies apart ===== -/
def qx_eq (g g' : Nat → ss_Cl) : Prop := ∀ p, 142 ≤ p → (g p).1 ≠ 99 → g' p = g p
theorem rc_R_fx {g g' : Nat → ss_Cl} (e : qx_eq g g') {r : Nat} {R : List ru_C} (h : rc_R g r R) : rc_R g' r R := by
  obtain ⟨h0, h1, code, starts, h2, h3, h4, h5⟩ := id h
  refine rc_R_x (fun j hj => e _ (by omega) ?_) h
  have hj' : j = 0 ∨ j = 1 ∨ j = 2 := by omega
  rcases hj' with c | c | c <;> subst c
  · rw [Nat.add_zero, h2]; show (1 : Nat) ≠ 99; omega
  · rw [h3]; show (20 : Nat) ≠ 99; omega
  · rw [h4]; show (20 : Nat) ≠ 99; omega
theorem qw_R_fx {g g' : Nat → ss_Cl} (e : qx_eq g g') {w : Nat} {s : List Int32} {f y : Int32} (h : qw_R g w s f y) : qw_R g' w s f y := by
  obtain ⟨t0, t1⟩ := qw_tags h
  have hw := h.1
  refine qw_R_x (fun j hj => e _ (by omega) ?_) h
  by_cases c : j = 0
  · subst c
    rw [Nat.add_zero, t0]
    omega
  · have := t1 j (by omega) hj
    omega
theorem ql_R_fx {g g' : Nat → ss_Cl} (e : qx_eq g g') {rl : List (Option Nat)} {RS : List (List ru_C)} (h : ql_R g rl RS) : ql_R g' rl RS := by
  refine ⟨h.1, fun r hr => ⟨fun h1 => ?_, (h.2 r hr).2⟩⟩
  obtain ⟨p, p1, p2⟩ := (h.2 r hr).1 h1
  exact ⟨p, p1, rc_R_fx e p2⟩
theorem qi_R_fx {g g' : Nat → ss_Cl} (e : qx_eq g g') {il : List (Option Nat)} {I : Nat → Option (List Int32 × Int32 × Int32)} (h : qi_R g il I) : qi_R g' il I := by
  refine ⟨h.1, fun q hq => ?_, h.2.2⟩
  have := h.2.1 q hq
  cases hI : I q with
  | none => rw [hI] at this; exact this
  | some z =>
    obtain ⟨s, f, y⟩ := z
    rw [hI] at this
    obtain ⟨w, w1, w2⟩ := this
    exact ⟨w, w1, qw_R_fx e w2⟩
theorem cl_gen {T : List Nat} {a : List Int32} {fo x : Int32} {RS : List (List ru_C)} {US : List (List Int32)} {I : Nat → Option (List Int32 × Int32 × Int32)} {n : Nat} {g : Nat → ss_Cl} {rc : Int32} {ti : List Int32} {tb : List Int32} {vt : Option Nat} {ri : List Int32} {cd : List Int32} {sx : List Int32} {rl : List (Option Nat)} {wi : List Int32} {wv : Option Nat} {gi : List Int32} {gs : List Int32} {gw : List Int32} {nd : List Int32} {ns : List Int32} {nw : List Int32} {il : List (Option Nat)} {ai : List Int32} {yv : Option Nat} {yr : Option Nat} {yi : List Int32} {ys : List Int32} {yw : List Int32} {yt : List Int32} {yh : List Int32} {yf : List Int32} {yo : List Int64} {yk : List Int64} {fr : List Int32} {fg : List Int32} {pl : List Int32} {pc : List Int32} {pg : List Int32} {h h9 : ss_Hp} {T' : List Nat} {a' ti' ri' cd' sx' gw' : List Int32} {vt' : Option Nat} {rl' : List (Option Nat)} {RS' : List (List ru_C)} {US' : List (List Int32)} {v' nx' : Nat} (eh : h = pk_C n g rc ti tb vt ri cd sx rl wi wv gi gs gw nd ns nw il ai yv yr yi ys yw yt yh yf yo yk fr fg pl pc pg) (F : cl_F n g rc ti tb vt ri cd sx rl wi wv gi gs gw nd ns nw il ai yv yr yi ys yw yt yh yf yo yk fr fg pl pc pg T a fo x RS US I) (n9 : 142 ≤ h9.1) (c0 : h9.2 0 = (11, [nI RS'.length], [], [some 1, some 3, some 20, some 23, some 24, some 39, some 40, some 102, some 111, some 114])) (c1 : h9.2 1 = (2, ti', [], [some 2])) (c3 : h9.2 3 = (6, [], [], [some 1, some 4, vt'])) (c20 : h9.2 20 = (4, ri', [], [some 1, some 21, some 22])) (c21 : h9.2 21 = (20, cd', [], [])) (c22 : h9.2 22 = (20, sx', [], [])) (c23 : h9.2 23 = (25, [], [], rl')) (c24 : h9.2 24 = (8, [fo, x, pv a' 123], [], [some v', some 33, some 36, some 37, some 38])) (c33 : h9.2 33 = (0, [pv a' 11, pv a' 12, pv a' 13, pv a' 10], [], [some 34, some 35])) (c34 : h9.2 34 = (20, sl a' 14 8, [], [])) (c35 : h9.2 35 = (20, gw', [], [])) (c40 : h9.2 40 = (3, [nI nx', nI US'.length], [], [some 41])) (low : ∀ p, p < 142 → p ≠ 0 → p ≠ 1 → p ≠ 3 → p ≠ 20 → p ≠ 21 → p ≠ 22 → p ≠ 23 → p ≠ 24 → p ≠ 33 → p ≠ 34 → p ≠ 35 → p ≠ 40 → (p < 12 ∨ 20 ≤ p) → (p < 25 ∨ 33 ≤ p) → h9.2 p = h.2 p) (high : ∀ p, 142 ≤ p → (h.2 p).1 ≠ 99 → h9.2 p = h.2 p) (Ft' : ct_R ti' tb T') (Fr' : ri'.length = 3 ∧ cd'.length = 400 ∧ sx'.length = 25 ∧ pv sx' 0 = nI 0 ∧ fx_R h9.2 vt' (some v') yv) (Fl' : ql_R h9.2 rl' RS') (Fq' : qv_R h9.2 v' a') (Fwl' : gw'.length = 8 ∧ (¬ pv a' 0 ≤ nI 0 → gw' = sl a' 22 8)) (Fno' : note_R nd ns nw a') (Fu' : qu_R h9.2 nx' US') : cl_h h9 T' a' fo x RS' US' I := by
  obtain ⟨Fn, Frc, Ft, Fr, Fl, Fc, Fi, ⟨nx, Fa, Fu⟩, Fy, Ff⟩ := F
  have hg : ∀ p, 142 ≤ p → h.2 p = g p := fun p hp => by rw [eh, pk_out (by unfold pk_fr; omega)]
  have qx : qx_eq g h9.2 := fun p hp ht => by
    have hp2 := hg p hp
    rw [high p hp (by rw [hp2]; exact ht), hp2]
  refine ⟨h9.1, h9.2, nI RS'.length, ti', tb, vt', ri', cd', sx', rl', [fo, x, pv a' 123], some v', [pv a' 11, pv a' 12, pv a' 13, pv a' 10], sl a' 14 8, gw', nd, ns, nw, il, [nI nx', nI US'.length], yv, yr, yi, ys, yw, yt, yh, yf, yo, yk, fr, fg, pl, pc, pg, pk_re (n := n) (g := g) (fun p q => ?_), n9, rfl, Ft', Fr', Fl', ⟨rfl, ⟨v', rfl, Fq'⟩, rfl, rfl, Fwl', Fno'⟩, qi_R_fx qx Fi, ⟨nx', rfl, Fu'⟩, Fy, Ff⟩
  have hp : p = 0 ∨ p = 1 ∨ p = 2 ∨ p = 3 ∨ p = 20 ∨ p = 21 ∨ p = 22 ∨ p = 23 ∨ p = 24 ∨ p = 33 ∨ p = 34 ∨ p = 35 ∨ p = 36 ∨ p = 37 ∨ p = 38 ∨ p = 39 ∨ p = 40 ∨ p = 41 ∨ p = 102 ∨ p = 103 ∨ p = 104 ∨ p = 105 ∨ p = 106 ∨ p = 107 ∨ p = 108 ∨ p = 109 ∨ p = 110 ∨ p = 111 ∨ p = 112 ∨ p = 113 ∨ p = 114 ∨ p = 115 ∨ p = 116 ∨ p = 117 := by
    unfold pk_fr at q
    omega
  rcases hp with hp | hp | hp | hp | hp | hp | hp | hp | hp | hp | hp | hp | hp | hp | hp | hp | hp | hp | hp | hp | hp | hp | hp | hp | hp | hp | hp | hp | hp | hp | hp | hp | hp | hp <;> subst hp
  · rw [c0]; rfl
  · rw [c1]; rfl
  · rw [low 2 (by omega) (by omega) (by omega) (by omega) (by omega) (by omega) (by omega) (by omega) (by omega) (by omega) (by omega) (by omega) (by omega) (by omega) (by omega), eh]; rfl
  · rw [c3]; rfl
  · rw [c20]; rfl
  · rw [c21]; rfl
  · rw [c22]; rfl
  · rw [c23]; rfl
  · rw [c24]; rfl
  · rw [c33]; rfl
  · rw [c34]; rfl
  · rw [c35]; rfl
  · rw [low 36 (by omega) (by omega) (by omega) (by omega) (by omega) (by omega) (by omega) (by omega) (by omega) (by omega) (by omega) (by omega) (by omega) (by omega) (by omega), eh]; rfl
  · rw [low 37 (by omega) (by omega) (by omega) (by omega) (by omega) (by omega) (by omega) (by omega) (by omega) (by omega) (by omega) (by omega) (by omega) (by omega) (by omega), eh]; rfl
  · rw [low 38 (by omega) (by omega) (by omega) (by omega) (by omega) (by omega) (by omega) (by omega) (by omega) (by omega) (by omega) (by omega) (by omega) (by omega) (by omega), eh]; rfl
  · rw [low 39 (by omega) (by omega) (by omega) (by omega) (by omega) (by omega) (by omega) (by omega) (by omega) (by omega) (by omega) (by omega) (by omega) (by omega) (by omega), eh]; rfl
  · rw [c40]; rfl
  · rw [low 41 (by omega) (by omega) (by omega) (by omega) (by omega) (by omega) (by omega) (by omega) (by omega) (by omega) (by omega) (by omega) (by omega) (by omega) (by omega), eh]; rfl
  · rw [low 102 (by omega) (by omega) (by omega) (by omega) (by omega) (by omega) (by omega) (by omega) (by omega) (by omega) (by omega) (by omega) (by omega) (by omega) (by omega), eh]; rfl
  · rw [low 103 (by omega) (by omega) (by omega) (by omega) (by omega) (by omega) (by omega) (by omega) (by omega) (by omega) (by omega) (by omega) (by omega) (by omega) (by omega), eh]; rfl
  · rw [low 104 (by omega) (by omega) (by omega) (by omega) (by omega) (by omega) (by omega) (by omega) (by omega) (by omega) (by omega) (by omega) (by omega) (by omega) (by omega), eh]; rfl
  · rw [low 105 (by omega) (by omega) (by omega) (by omega) (by omega) (by omega) (by omega) (by omega) (by omega) (by omega) (by omega) (by omega) (by omega) (by omega) (by omega), eh]; rfl
  · rw [low 106 (by omega) (by omega) (by omega) (by omega) (by omega) (by omega) (by omega) (by omega) (by omega) (by omega) (by omega) (by omega) (by omega) (by omega) (by omega), eh]; rfl
  · rw [low 107 (by omega) (by omega) (by omega) (by omega) (by omega) (by omega) (by omega) (by omega) (by omega) (by omega) (by omega) (by omega) (by omega) (by omega) (by omega), eh]; rfl
  · rw [low 108 (by omega) (by omega) (by omega) (by omega) (by omega) (by omega) (by omega) (by omega) (by omega) (by omega) (by omega) (by omega) (by omega) (by omega) (by omega), eh]; rfl
  · rw [low 109 (by omega) (by omega) (by omega) (by omega) (by omega) (by omega) (by omega) (by omega) (by omega) (by omega) (by omega) (by omega) (by omega) (by omega) (by omega), eh]; rfl
  · rw [low 110 (by omega) (by omega) (by omega) (by omega) (by omega) (by omega) (by omega) (by omega) (by omega) (by omega) (by omega) (by omega) (by omega) (by omega) (by omega), eh]; rfl
  · rw [low 111 (by omega) (by omega) (by omega) (by omega) (by omega) (by omega) (by omega) (by omega) (by omega) (by omega) (by omega) (by omega) (by omega) (by omega) (by omega), eh]; rfl
  · rw [low 112 (by omega) (by omega) (by omega) (by omega) (by omega) (by omega) (by omega) (by omega) (by omega) (by omega) (by omega) (by omega) (by omega) (by omega) (by omega), eh]; rfl
  · rw [low 113 (by omega) (by omega) (by omega) (by omega) (by omega) (by omega) (by omega) (by omega) (by omega) (by omega) (by omega) (by omega) (by omega) (by omega) (by omega), eh]; rfl
  · rw [low 114 (by omega) (by omega) (by omega) (by omega) (by omega) (by omega) (by omega) (by omega) (by omega) (by omega) (by omega) (by omega) (by omega) (by omega) (by omega), eh]; rfl
  · rw [low 115 (by omega) (by omega) (by omega) (by omega) (by omega) (by omega) (by omega) (by omega) (by omega) (by omega) (by omega) (by omega) (by omega) (by omega) (by omega), eh]; rfl
  · rw [low 116 (by omega) (by omega) (by omega) (by omega) (by omega) (by omega) (by omega) (by omega) (by omega) (by omega) (by omega) (by omega) (by omega) (by omega) (by omega), eh]; rfl
  · rw [low 117 (by omega) (by omega) (by omega) (by omega) (by omega) (by omega) (by omega) (by omega) (by omega) (by omega) (by omega) (by omega) (by omega) (by omega) (by omega), eh]; rfl
/-! ===== valley: the class, and both ===== -/
theorem wh_g {h : ss_Hp} {p : Nat} {J0 J1 J2 J3 J4 : Int32} {own str bes nds sn wa : List Int32} {a b c d e1 : Int32} (h1 : p ≠ 1) (hp : p < 12 ∨ 20 ≤ p) : (tH (wH h 12 J0 J1 J2 J3 J4 own str bes nds sn wa) a b c d e1).2 p = h.2 p := by
  rw [tH_o h1, wH_o (by omega)]
theorem cv_pre {N : Nat} {h : ss_Hp} {T : List Nat} {t1 t2 t3 t4 : Int32} {yv : Option Nat} (ht : tz h T) (c1 : h.2 1 = (2, [nI T.length, t1, t2, t3, t4], [], [some 2])) (c3 : h.2 3 = (6, [], [], [some 1, some 4, some 12])) (hx : fx_R h.2 (some 12) (some 25) yv) (hN : 500 < N) : ∃ k1 k2, mm_V_copyFrom N (some 12) (some 4) h = some k1 ∧ ss_gr k1 (some 3) 6 2 = some (some 12) ∧ ss_pz k1 (some 12) 5 0 (nI 1) = some k2 ∧ ss_gr k2 (some 3) 6 0 = some (some 1) ∧ mm_T_open N (some 1) k2 = some (vK0 h 12 T 0) := by
  obtain ⟨-, -, -, x4, jx, own, str, bes, nds, sn, wa, x5, x6⟩ := hx
  obtain ⟨k1, E1, A1, ⟨d0, d1, d2, d3, d4, d5, d6, d7⟩, B1⟩ := va_copy (N := N) x6 x4 x5 ⟨rfl, rfl, rfl, rfl, rfl, rfl, rfl⟩ (Or.inl rfl) (by omega)
  obtain ⟨k2, E2, A2, B2⟩ : ∃ k2, ss_pz k1 (some 12) 5 0 (nI 1) = some k2 ∧ k2.1 = k1.1 ∧ ∀ y, k2.2 y = if y = 12 then (5, [nI 1, nI 0, nI 0, nI 0, nI 0], [], [some (12 + 1), some (12 + 2), some (12 + 3), some (12 + 4), some (12 + 5)]) else k1.2 y := ⟨_, (if_pos (Or.inr rfl)).trans (pb_pi d0 (by simp) (nI 1)), rfl, fun _ => rfl⟩
  have c31 : k1.2 3 = (6, [], [], [some 1, some 4, some 12]) := (B1 3 (by omega)).trans c3
  have c32 : k2.2 3 = (6, [], [], [some 1, some 4, some 12]) := by rw [B2, if_neg (by omega)]; exact c31
  refine ⟨k1, k2, E1, pb_gr c31 2, E2, pb_gr c32 0, ?_⟩
  have ek : k2 = tH (wH h 12 (nI 1) (nI 0) (nI 0) (nI 0) (nI 0) [nI 0, nI 0, nI 0, nI 0] [nI 0, nI 0, nI 0, nI 0] z8 z8 z8 wm8) (nI T.length) t1 t2 t3 t4 := by
    refine Prod.ext (by show k2.1 = h.1; omega) (funext fun p => ?_)
    by_cases q1 : p = 1
    · subst q1
      rw [tH_1, B2, if_neg (by omega), B1 1 (by omega), c1]
    · rw [tH_o q1]
      rcases Nat.lt_or_ge p 12 with q2 | q2
      · rw [wH_o (Or.inl q2), B2, if_neg (by omega), B1 p (Or.inl q2)]
      · rcases Nat.lt_or_ge 19 p with q4 | q4
        · rw [wH_o (Or.inr q4), B2, if_neg (by omega), B1 p (Or.inr q4)]
        · have q5 : p = 12 ∨ p = 12 + 1 ∨ p = 12 + 2 ∨ p = 12 + 3 ∨ p = 12 + 4 ∨ p = 12 + 5 ∨ p = 12 + 6 ∨ p = 12 + 7 := by omega
          rcases q5 with e | e | e | e | e | e | e | e
          · rw [e, wH_0, B2, if_pos rfl]
          · rw [e, wH_1, B2, if_neg (by omega)]; exact d1
          · rw [e, wH_2, B2, if_neg (by omega)]; exact d2
          · rw [e, wH_3, B2, if_neg (by omega)]; exact d3
          · rw [e, wH_4, B2, if_neg (by omega)]; exact d4
          · rw [e, wH_5, B2, if_neg (by omega)]; exact d5
          · rw [e, wH_6, B2, if_neg (by omega)]; exact d6
          · rw [e, wH_7, B2, if_neg (by omega)]; exact d7
  rw [ek]
  unfold mm_T_open vK0
  simp only [pb_l2, pb_ll, nI_add, pb_mul, if_true, if_false, pb_bs, pb_b2n, pb_bz0, pb_bz1, pb_10, pb_01, tH_is, tH_g0, tH_g1, tH_g2, tH_g3, tH_g4, tH_p0, tH_p1, tH_p2, tH_p3, tH_p4, tH_r, T_advance (vX_tz (Nat.le_refl 12) ht) (Nat.zero_le _) hN]
theorem cv_read1 {N : Nat} {h : ss_Hp} {T : List Nat} {t1 t2 t3 t4 : Int32} {yv : Option Nat} {rd nds : List Int32} {p : Nat} (ht : tz h T) (c1 : h.2 1 = (2, [nI T.length, t1, t2, t3, t4], [], [some 2])) (c3 : h.2 3 = (6, [], [], [some 1, some 4, some 12])) (hx : fx_R h.2 (some 12) (some 25) yv) (hN : 500 < N) (hl : ss_lp (mm_VR_readValley_b30 N (some 3)) N (nI 1, nI 0, vK0 h 12 T 0) = some (vK h 12 T rd nds p)) : mm_VR_readValley N (some 3) h = some (some 12, vK h 12 T rd nds p) := by
  obtain ⟨k1, k2, e1, e2, e3, e4, e5⟩ := cv_pre ht c1 c3 hx hN
  have is3 : ss_is h (some 3) 6 = true := pb_is c3
  have a1 : ss_gr h (some 3) 6 2 = some (some 12) := pb_gr c3 2
  have a2 : ss_gr h (some 3) 6 1 = some (some 4) := pb_gr c3 1
  unfold vK at hl ⊢
  unfold mm_VR_readValley mm_VR_readValley_j77
  simp only [pb_l2, pb_ll, nI_add, pb_mul, if_true, if_false, pb_bs, pb_b2n, pb_bz0, pb_bz1, pb_10, pb_01, is3, a1, a2, e1, e2, e3, e4, e5, hl, vL_r0 c3 (Nat.le_refl 12), vL_r1 c3 (Nat.le_refl 12), T_wellx]
theorem cv_read0 {N : Nat} {h : ss_Hp} {T : List Nat} {t1 t2 t3 t4 : Int32} {yv : Option Nat} {q w : Nat} {J0 J1 J2 J3 J4 : Int32} {own str bes nds sn wa : List Int32} (ht : tz h T) (c1 : h.2 1 = (2, [nI T.length, t1, t2, t3, t4], [], [some 2])) (c3 : h.2 3 = (6, [], [], [some 1, some 4, some 12])) (hx : fx_R h.2 (some 12) (some 25) yv) (hN : 500 < N) (hq : q ≤ T.length) (hw : w < 8) (hl : ss_lp (mm_VR_readValley_b30 N (some 3)) N (nI 1, nI 0, vK0 h 12 T 0) = some (fl (wH h 12 J0 J1 J2 J3 J4 own str bes nds sn wa) T q w)) : mm_VR_readValley N (some 3) h = some (none, fl (wH h 12 J0 J1 J2 J3 J4 own str bes nds sn wa) T q w) := by
  obtain ⟨k1, k2, e1, e2, e3, e4, e5⟩ := cv_pre ht c1 c3 hx hN
  have is3 : ss_is h (some 3) 6 = true := pb_is c3
  have a1 : ss_gr h (some 3) 6 2 = some (some 12) := pb_gr c3 2
  have a2 : ss_gr h (some 3) 6 1 = some (some 4) := pb_gr c3 1
  unfold mm_VR_readValley mm_VR_readValley_j77
  simp only [pb_l2, pb_ll, nI_add, pb_mul, if_true, if_false, pb_bs, pb_b2n, pb_bz0, pb_bz1, pb_10, pb_01, is3, a1, a2, e1, e2, e3, e4, e5, hl, vF_r0 c3 (Nat.le_refl 12), T_wellf hq ht.1 hw]
theorem vA_pv {r : List Int32} {j : Nat} (hj : j < 124) : pv (sa_first (vB r)) j = if j < 10 then pv r j else if j < 14 then nI 0 else if j < 30 then pv r (j + 32) else if j < 93 then pv r j else nI 0 := by
  rw [sa_first_pv vB_len]
  by_cases c1 : j < 10
  · rw [if_pos (Or.inl c1), if_pos c1, vB_pv hj, if_pos (by omega)]
  · rw [if_neg c1]
    by_cases c2 : j < 14
    · rw [if_neg (by omega), if_pos c2, if_pos c2]
    · rw [if_neg c2]
      by_cases c3 : j < 30
      · rw [if_neg (by omega), if_neg c2, if_pos c3, vB_pv (by omega), if_pos (by omega)]
      · rw [if_pos (by omega), if_neg c2, if_neg c3, vB_pv hj]
theorem vA_lo {r : List Int32} {j : Nat} (hj : j < 10) : pv (sa_first (vB r)) j = pv r j := by rw [vA_pv (by omega), if_pos hj]
theorem vA_hi {r : List Int32} {j : Nat} (h1 : 30 ≤ j) (h2 : j < 93) : pv (sa_first (vB r)) j = pv r j := by rw [vA_pv (by omega), if_neg (by omega), if_neg (by omega), if_neg (by omega), if_pos h2]
theorem vA_z {r : List Int32} {j : Nat} (h1 : 10 ≤ j ∧ j < 14 ∨ 93 ≤ j ∧ j < 124) : pv (sa_first (vB r)) j = nI 0 := by
  rw [vA_pv (by omega), if_neg (by omega)]
  rcases h1 with h | h
  · rw [if_pos (by omega)]
  · rw [if_neg (by omega), if_neg (by omega), if_neg (by omega)]
theorem vA_m {r : List Int32} {j : Nat} (h1 : j < 16) : pv (sa_first (vB r)) (14 + j) = pv r (46 + j) := by
  rw [vA_pv (by omega), if_neg (by omega), if_neg (by omega), if_pos (by omega), show 14 + j + 32 = 46 + j by omega]
theorem vA_ok {r nds : List Int32} {k m : Nat} (hI : vI r nds k m) : sd_ok (sa_first (vB r)) k m 0 := by
  obtain ⟨⟨l0, ⟨k1, k2⟩, m1, m2⟩, ⟨f1, f2⟩, be, ow, st, sn, wa, nd, nR⟩ := hI
  refine ⟨⟨sa_first_len vB_len, ⟨k1, by rw [vA_lo (by omega)]; exact k2⟩, ⟨m1, by rw [vA_lo (by omega)]; exact m2⟩, ⟨by omega, vA_z (by omega)⟩, fun s hs => ?_, fun s hs => by rw [vA_hi (by omega) (by omega)]; exact be s hs, fun i hi => by rw [vA_hi (by omega) (by omega)]; exact ow i hi⟩, fun s hs => ?_, fun i hi => by rw [vA_hi (by omega) (by omega)]; exact st i hi, ⟨0, by omega, vA_z (by omega)⟩, by omega, fun s hs hneg => ?_, ⟨0, by omega, vA_z (by omega), fun i hi => absurd hi (Nat.not_lt_zero i)⟩, ⟨fun s hs => by rw [vA_hi (by omega) (by omega)]; exact sn s hs, fun s hs => by rw [vA_hi (by omega) (by omega)]; exact wa s (by omega)⟩, fun e he => by rw [vA_hi (by omega) (by omega)]; exact nd e he, Or.inl ⟨by rw [vA_lo (by omega)]; exact f1, by rw [vA_lo (by omega)]; exact f2⟩⟩
  · rw [show 22 + s = 14 + (8 + s) by omega, vA_m (by omega), show 46 + (8 + s) = 54 + s by omega]
    rcases wa s (by omega) with h | h
    · exact Or.inl (by rw [h]; exact pb_m1)
    · exact Or.inr h
  · rw [vA_m (by omega)]
    obtain ⟨q, q1, q2, q3⟩ := sn s hs
    exact ⟨q, by omega, q2, q3⟩
  · rw [show 22 + s = 14 + (8 + s) by omega, vA_m (by omega), show 46 + (8 + s) = 54 + s by omega] at hneg ⊢
    rcases wa s (by omega) with h | ⟨t, t1, t2⟩
    · exact h
    · rw [t2] at hneg
      exact absurd hneg (nI_nlt (by omega) (by omega))
theorem list5 {l : List Int32} (h : l.length = 5) : ∃ t0 t1 t2 t3 t4, l = [t0, t1, t2, t3, t4] := by
  match l, h with
  | [t0, t1, t2, t3, t4], _ => exact ⟨t0, t1, t2, t3, t4, rfl⟩
theorem list16 {l : List Int32} (h : l.length = 16) : ∃ m0 m1 m2 m3 m4 m5 m6 m7 m8 m9 m10 m11 m12 m13 m14 m15, l = mL m0 m1 m2 m3 m4 m5 m6 m7 m8 m9 m10 m11 m12 m13 m14 m15 := by
  match l, h with
  | [m0, m1, m2, m3, m4, m5, m6, m7, m8, m9, m10, m11, m12, m13, m14, m15], _ => exact ⟨m0, m1, m2, m3, m4, m5, m6, m7, m8, m9, m10, m11, m12, m13, m14, m15, rfl⟩
theorem ct_tz {h : ss_Hp} {T : List Nat} {ti tb : List Int32} (hT : T.length ≤ 400 ∧ ∀ i, i < T.length → T.getD i 0 < 256) (c2 : h.2 2 = (20, tb, [], [])) (Ft : ct_R ti tb T) : tz h T := ⟨hT.1, hT.2, tb, c2, Ft.2.2.1, Ft.2.2.2⟩
theorem ct_nil {tb : List Int32} {t1 t2 t3 t4 : Int32} (h : tb.length = 400) : ct_R [nI 0, t1, t2, t3, t4] tb [] := ⟨rfl, rfl, h, fun i hi => absurd hi (Nat.not_lt_zero i)⟩
/-- a valley's cells as they lie in a heap -/
theorem wh_bv {h : ss_Hp} {J0 J1 J2 J3 J4 : Int32} {own str bes nds sn wa : List Int32} {a b c d e1 : Int32} : bv_R (tH (wH h 12 J0 J1 J2 J3 J4 own str bes nds sn wa) a b c d e1).2 12 [J0, J1, J2, J3, J4] own str bes nds sn wa := ⟨tw_o (by omega) wH_0, tw_o (by omega) wH_1, tw_o (by omega) wH_2, tw_o (by omega) wH_3, tw_o (by omega) wH_4, tw_o (by omega) wH_5, tw_o (by omega) wH_6, tw_o (by omega) wH_7⟩
/-- the class, told a faulty valley -/
theorem cv_bad {N : Nat} {h : ss_Hp} {T : List Nat} {a : List Int32} {fo x : Int32} {RS : List (List ru_C)} {US : List (List Int32)} {I : Nat → Option (List Int32 × Int32 × Int32)} {q w : Nat} {J0 J1 J2 J3 J4 : Int32} {own str bes nds sn wa : List Int32} (hc : cl_h h T a fo x RS US I) (ha : as_ok T a fo x RS US I) (hN : 500 < N) (hq : q ≤ T.length) (hw : w < 8) (hb : bl_L [J0, J1, J2, J3, J4] own str bes nds sn wa) (hl : ss_lp (mm_VR_readValley_b30 N (some 3)) N (nI 1, nI 0, vK0 h 12 T 0) = some (fl (wH h 12 J0 J1 J2 J3 J4 own str bes nds sn wa) T q w)) : cl_run (mm_S_valley N (some 0) h) h (-nI 2 - nI (1 + 8 * blk T q + w)) [] a fo x RS US I := by
  obtain ⟨n, g, rc, ti, tb, vt, ri, cd, sx, rl, wi, wv, gi, gs, gw, nd, ns, nw, il, ai, yv, yr, yi, ys, yw, yt, yh, yf, yo, yk, fr, fg, pl, pc, pg, eh, F⟩ := hc
  have F0 := F
  obtain ⟨Fn, Frc, Ft, Fr, Fl, ⟨Fw, ⟨vv, Fv, Fq⟩, Fg, Fs, Fwl, Fno⟩, Fi, ⟨nx, Fa, Fu⟩, Fy, Ff⟩ := F
  have evv : vv = 25 := Option.some.inj (Fv.symm.trans Fr.2.2.2.2.2.1)
  subst evv
  have hn : 142 ≤ h.1 := by rw [eh]; exact Fn
  obtain ⟨t0, t1, t2, t3, t4, ht5⟩ := list5 Ft.1
  have et0 : t0 = nI T.length := by have := Ft.2.1; rw [ht5] at this; exact this
  have C0 : h.2 0 = (11, [nI RS.length], [], [some 1, some 3, some 20, some 23, some 24, some 39, some 40, some 102, some 111, some 114]) := by rw [eh, ← Frc]; exact pk_c0
  have C1 : h.2 1 = (2, [nI T.length, t1, t2, t3, t4], [], [some 2]) := by rw [eh, ← et0, ← ht5]; exact pk_c1
  have C2 : h.2 2 = (20, tb, [], []) := by rw [eh]; exact pk_c2
  have C3 : h.2 3 = (6, [], [], [some 1, some 4, some 12]) := by rw [eh, ← Fr.2.2.2.2.1]; exact pk_c3
  have hx : fx_R h.2 (some 12) (some 25) yv := by
    have e := fx_R_of (g' := h.2) (fun p p1 p2 => by rw [eh, pk_out (by unfold pk_fr; omega)]) Fr.2.2.2.2
    rw [Fr.2.2.2.2.1, Fv] at e
    exact e
  have ht := ct_tz ha.1 C2 Ft
  have rd := cv_read0 ht C1 C3 hx hN hq hw hl
  have hg : ∀ p, p ≠ 1 → p < 12 ∨ 20 ≤ p → ∀ z0 z1 z2 z3 z4, (tH (wH h 12 J0 J1 J2 J3 J4 own str bes nds sn wa) z0 z1 z2 z3 z4).2 p = h.2 p := fun p p1 hp z0 z1 z2 z3 z4 => wh_g p1 hp
  have D0 : ∀ z0 z1 z2 z3 z4, (tH (wH h 12 J0 J1 J2 J3 J4 own str bes nds sn wa) z0 z1 z2 z3 z4).2 0 = (11, [nI RS.length], [], [some 1, some 3, some 20, some 23, some 24, some 39, some 40, some 102, some 111, some 114]) := fun z0 z1 z2 z3 z4 => (hg 0 (by omega) (by omega) _ _ _ _ _).trans C0
  refine ⟨tH (wH h 12 J0 J1 J2 J3 J4 own str bes nds sn wa) (nI 0) (nI (1 + 8 * blk T q + w)) (nI (tk T (blk T q))) (nI (blk T q)) (nI (en T (blk T q))), ?_, ?_, fun p hp => hg p (by omega) (by omega) _ _ _ _ _, fun f p hp => ?_⟩
  · have i0 : ss_is h (some 0) 11 = true := pb_is C0
    have g1 : ss_gr h (some 0) 11 1 = some (some 3) := pb_gr C0 1
    have g2 : ∀ z0 z1 z2 z3 z4, ss_gr (tH (wH h 12 J0 J1 J2 J3 J4 own str bes nds sn wa) z0 z1 z2 z3 z4) (some 0) 11 0 = some (some 1) := fun z0 z1 z2 z3 z4 => pb_gr (D0 z0 z1 z2 z3 z4) 0
    unfold fl at rd
    unfold mm_S_valley
    simp only [pb_l2, pb_ll, nI_add, pb_mul, if_true, if_false, pb_bs, pb_b2n, pb_bz0, pb_bz1, pb_10, pb_01, tH_is, tH_g0, tH_g1, tH_g2, tH_g3, tH_g4, tH_p0, tH_p1, tH_p2, tH_p3, tH_p4, tH_r, i0, g1, rd, g2, Option.isSome_none, Bool.false_eq_true]
  · refine cl_gen (nx' := nx) (v' := 25) (vt' := some 12) (rl' := rl) eh F0 hn (D0 _ _ _ _ _) tH_1 ((hg 3 (by omega) (by omega) _ _ _ _ _).trans C3) ?_ ?_ ?_ ?_ ?_ ?_ ?_ ?_ ?_ ?_ (fun p hp h99 => hg p (by omega) (by omega) _ _ _ _ _) (ct_nil Ft.2.2.1) ⟨Fr.1, Fr.2.1, Fr.2.2.1, Fr.2.2.2.1, rfl, rfl, Fr.2.2.2.2.2.2.1, bv_R_fr (fun i hi => hg _ (by omega) (by omega) _ _ _ _ _) hx.2.2.2.1, _, _, _, _, _, _, _, hb, wh_bv⟩ ?_ ?_ Fwl Fno ?_
    · rw [hg 20 (by omega) (by omega), eh]; exact pk_c20
    · rw [hg 21 (by omega) (by omega), eh]; exact pk_c21
    · rw [hg 22 (by omega) (by omega), eh]; exact pk_c22
    · rw [hg 23 (by omega) (by omega), eh]; exact pk_c23
    · rw [hg 24 (by omega) (by omega), eh, ← Fw, ← Fv]; exact pk_c24
    · rw [hg 33 (by omega) (by omega), eh, ← Fg]; exact pk_c33
    · rw [hg 34 (by omega) (by omega), eh, ← Fs]; exact pk_c34
    · rw [hg 35 (by omega) (by omega), eh]; exact pk_c35
    · rw [hg 40 (by omega) (by omega), eh, ← Fa]; exact pk_c40
    · intro p hp p0 p1 p3 p20 p21 p22 p23 p24 p33 p34 p35 p40 pa pb
      exact hg p (by omega) (by omega) _ _ _ _ _
    · exact ql_R_fx (fun p hp _ => by rw [hg p (by omega) (by omega), eh, pk_out (by unfold pk_fr; omega)]) Fl
    · exact qv_R_x (fun j hj => by rw [hg _ (by omega) (by omega), eh, pk_out (by unfold pk_fr; omega)]) Fq
    · refine qu_R_x (fun p p1 p2 => ?_) Fu
      rw [hg p (by omega) (by omega), eh, pk_out (by unfold pk_fr; omega)]
  · have hp : h.1 ≤ p := hp
    rw [hg p (by omega) (by omega)]
    exact f p hp
