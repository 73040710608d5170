/-! ===== rule on both sides ===== -/
theorem list3 {l : List Int32} (h : l.length = 3) : ∃ t0 t1 t2, l = [t0, t1, t2] := by
  match l, h with
  | [t0, t1, t2], _ => exact ⟨t0, t1, t2, rfl⟩
theorem pv_take {s9 : List Int32} {m i : Nat} (h : i < m) : pv (s9.take m) i = pv s9 i := by
  unfold pv
  rw [List.getD_eq_getElem?_getD, List.getD_eq_getElem?_getD, List.getElem?_take_of_lt h]
theorem pb_cpt {h : ss_Hp} {q p m : Nat} {S S' : List Int32} (hq : h.2 q = (20, S, [], [])) (hp : h.2 p = (20, S', [], [])) (h1 : m ≤ S.length) (h2 : S'.length = m) (hn : m < 2 ^ 31) : ss_cp h (some q) (nI 0) (some p) (nI 0) (nI m) = some (ss_hs h p (20, S.take m, [], [])) := by
  have e0 : (nI 0).toNatClampNeg = 0 := nI_clamp (by omega)
  have e1 : (nI m).toNatClampNeg = m := nI_clamp hn
  have z0 : ¬ nI 0 < 0 := nI_pos (by omega)
  have z1 : ¬ nI m < 0 := nI_pos hn
  have t2 : S'.drop m = [] := List.drop_of_length_le (by omega)
  simp [ss_cp, hq, hp, e0, e1, z0, z1, h1, h2, t2]
theorem ru_init {N : Nat} {h : ss_Hp} {v l ci : Nat} {cd sx : List Int32} (hv : h.2 v = (1, [nI 0], [], [none, none])) (h1 : h.1 = v + 1) (c13 : h.2 21 = (20, cd, [], [])) (c14 : h.2 22 = (20, sx, [], [])) (hv1 : 142 ≤ v) (hl : l ≤ 400) (hci : ci ≤ 12) (hcd : cd.length = 400) (hsx : sx.length = 25) : ∃ h', mm_Ru_init N (some v) (some 21) (nI l) (some 22) (nI ci) h = some h' ∧ h'.1 = v + 3 ∧ h'.2 v = (1, [nI ci], [], [some (v + 1), some (v + 2)]) ∧ h'.2 (v + 1) = (20, cd.take l, [], []) ∧ h'.2 (v + 2) = (20, sx.take (2 * ci + 1), [], []) ∧ ∀ y, y < v ∨ v + 3 ≤ y → h'.2 y = h.2 y := by
  have is : ss_is h (some v) 1 = true := pb_is hv
  obtain ⟨k1, E1, A1, B1⟩ : ∃ k1, ss_na h 20 400 (nI l) = some (some (v + 1), k1) ∧ k1.1 = v + 2 ∧ ∀ y, k1.2 y = if y = v + 1 then (20, List.replicate l (nI 0), [], []) else h.2 y := by
    refine ⟨_, by rw [← h1]; exact pb_na (by omega) (by omega), by show h.1 + 1 = _; omega, fun y => ?_⟩
    rw [← h1]
    rfl
  obtain ⟨k2, E2, A2, B2⟩ : ∃ k2, ss_pr k1 (some v) 1 0 (some (v + 1)) = some k2 ∧ k2.1 = k1.1 ∧ ∀ y, k2.2 y = if y = v then (1, [nI 0], [], [some (v + 1), none]) else k1.2 y := ⟨_, pb_pr (h := k1) (a := v) (c := 1) (by rw [B1, if_neg (by omega)]; exact hv) (by simp) _, rfl, fun _ => rfl⟩
  have n2 : k2.1 = v + 2 := by omega
  obtain ⟨k3, E3, A3, B3⟩ : ∃ k3, ss_na k2 20 30 (nI (2 * ci + 1)) = some (some (v + 2), k3) ∧ k3.1 = v + 3 ∧ ∀ y, k3.2 y = if y = v + 2 then (20, List.replicate (2 * ci + 1) (nI 0), [], []) else k2.2 y := by
    refine ⟨_, by rw [← n2]; exact pb_na (by omega) (by omega), by show k2.1 + 1 = _; omega, fun y => ?_⟩
    rw [← n2]
    rfl
  obtain ⟨k4, E4, A4, B4⟩ : ∃ k4, ss_pr k3 (some v) 1 1 (some (v + 2)) = some k4 ∧ k4.1 = k3.1 ∧ ∀ y, k4.2 y = if y = v then (1, [nI 0], [], [some (v + 1), some (v + 2)]) else k3.2 y := ⟨_, pb_pr (h := k3) (a := v) (c := 1) (by rw [B3, if_neg (by omega), B2, if_pos rfl]) (by simp) _, rfl, fun _ => rfl⟩
  have v4 : k4.2 v = (1, [nI 0], [], [some (v + 1), some (v + 2)]) := by rw [B4, if_pos rfl]
  obtain ⟨k5, E5, A5, B5⟩ : ∃ k5, ss_pi k4 (some v) 1 0 (nI ci) = some k5 ∧ k5.1 = k4.1 ∧ ∀ y, k5.2 y = if y = v then (1, [nI ci], [], [some (v + 1), some (v + 2)]) else k4.2 y := ⟨_, pb_pi v4 (by simp) (nI ci), rfl, fun _ => rfl⟩
  have v5 : k5.2 v = (1, [nI ci], [], [some (v + 1), some (v + 2)]) := by rw [B5, if_pos rfl]
  have o5 : ∀ y, y < v ∨ v + 3 ≤ y → k5.2 y = h.2 y := fun y hy => by rw [B5, if_neg (by omega), B4, if_neg (by omega), B3, if_neg (by omega), B2, if_neg (by omega), B1, if_neg (by omega)]
  have w1 : k5.2 (v + 1) = (20, List.replicate l (nI 0), [], []) := by rw [B5, if_neg (by omega), B4, if_neg (by omega), B3, if_neg (by omega), B2, if_neg (by omega), B1, if_pos rfl]
  have w2 : k5.2 (v + 2) = (20, List.replicate (2 * ci + 1) (nI 0), [], []) := by rw [B5, if_neg (by omega), B4, if_neg (by omega), B3, if_pos rfl]
  obtain ⟨k6, E6, A6, B6⟩ : ∃ k6, ss_cp k5 (some 21) (nI 0) (some (v + 1)) (nI 0) (nI l) = some k6 ∧ k6.1 = k5.1 ∧ ∀ y, k6.2 y = if y = v + 1 then (20, cd.take l, [], []) else k5.2 y := ⟨_, pb_cpt ((o5 21 (by omega)).trans c13) w1 (by omega) (by simp) (by omega), rfl, fun _ => rfl⟩
  obtain ⟨k7, E7, A7, B7⟩ : ∃ k7, ss_cp k6 (some 22) (nI 0) (some (v + 2)) (nI 0) (nI (2 * ci + 1)) = some k7 ∧ k7.1 = k6.1 ∧ ∀ y, k7.2 y = if y = v + 2 then (20, sx.take (2 * ci + 1), [], []) else k6.2 y := ⟨_, pb_cpt (by rw [B6, if_neg (by omega)]; exact (o5 22 (by omega)).trans c14) (by rw [B6, if_neg (by omega)]; exact w2) (by omega) (by simp) (by omega), rfl, fun _ => rfl⟩
  refine ⟨k7, ?_, by omega, by rw [B7, if_neg (by omega), B6, if_neg (by omega)]; exact v5, by rw [B7, if_neg (by omega), B6, if_pos rfl], by rw [B7, if_pos rfl], fun y hy => by rw [B7, if_neg (by omega), B6, if_neg (by omega)]; exact o5 y hy⟩
  have g1 : ss_gr k5 (some v) 1 0 = some (some (v + 1)) := pb_gr v5 0
  have g2 : ss_gr k6 (some v) 1 1 = some (some (v + 2)) := pb_gr (h := k6) (a := v) (c := 1) (by rw [B6, if_neg (by omega)]; exact v5) 1
  unfold mm_Ru_init
  simp only [pb_l2, pb_ll, nI_add, pb_mul, if_true, if_false, pb_bs, pb_b2n, pb_bz0, pb_bz1, pb_10, pb_01, is, E1, E2, E3, E4, E5, g1, E6, g2, E7]
theorem cr_pre {N : Nat} {h : ss_Hp} {T : List Nat} {t1 t2 t3 t4 r0 r1 r2 : Int32} {cd sx : List Int32} (ht : tz h T) (c1 : h.2 1 = (2, [nI T.length, t1, t2, t3, t4], [], [some 2])) (c12 : h.2 20 = (4, [r0, r1, r2], [], [some 1, some 21, some 22])) (c13 : h.2 21 = (20, cd, [], [])) (c14 : h.2 22 = (20, sx, [], [])) (hN : 500 < N) : ∃ k1 k2 k3, ss_pi h (some 20) 4 0 (nI 0) = some k1 ∧ ss_pi k1 (some 20) 4 1 (nI 0) = some k2 ∧ ss_pi k2 (some 20) 4 2 (nI 0) = some k3 ∧ ss_gr k3 (some 20) 4 0 = some (some 1) ∧ mm_T_open N (some 1) k3 = some (lx (rH h 0 0 0 cd sx) T (nI 0) 0) := by
  obtain ⟨k1, E1, A1, B1⟩ : ∃ k1, ss_pi h (some 20) 4 0 (nI 0) = some k1 ∧ k1.1 = h.1 ∧ ∀ y, k1.2 y = if y = 20 then (4, [nI 0, r1, r2], [], [some 1, some 21, some 22]) else h.2 y := ⟨_, pb_pi c12 (by simp) (nI 0), rfl, fun _ => rfl⟩
  obtain ⟨k2, E2, A2, B2⟩ : ∃ k2, ss_pi k1 (some 20) 4 1 (nI 0) = some k2 ∧ k2.1 = k1.1 ∧ ∀ y, k2.2 y = if y = 20 then (4, [nI 0, nI 0, r2], [], [some 1, some 21, some 22]) else k1.2 y := ⟨_, pb_pi (h := k1) (a := 20) (c := 4) (by rw [B1, if_pos rfl]) (by simp) (nI 0), rfl, fun _ => rfl⟩
  obtain ⟨k3, E3, A3, B3⟩ : ∃ k3, ss_pi k2 (some 20) 4 2 (nI 0) = some k3 ∧ k3.1 = k2.1 ∧ ∀ y, k3.2 y = if y = 20 then (4, [nI 0, nI 0, nI 0], [], [some 1, some 21, some 22]) else k2.2 y := ⟨_, pb_pi (h := k2) (a := 20) (c := 4) (by rw [B2, if_pos rfl]) (by simp) (nI 0), rfl, fun _ => rfl⟩
  have c123 : k3.2 20 = (4, [nI 0, nI 0, nI 0], [], [some 1, some 21, some 22]) := by rw [B3, if_pos rfl]
  have o3 : ∀ y, y ≠ 20 → k3.2 y = h.2 y := fun y hy => by rw [B3, if_neg hy, B2, if_neg hy, B1, if_neg hy]
  refine ⟨k1, k2, k3, E1, E2, E3, pb_gr c123 0, ?_⟩
  have ek : k3 = tH (rH h 0 0 0 cd sx) (nI T.length) t1 t2 t3 t4 := by
    refine Prod.ext (by show k3.1 = h.1; omega) (funext fun p => ?_)
    by_cases q1 : p = 1
    · subst q1
      rw [tH_1, o3 1 (by omega), c1]
    · rw [tH_o q1]
      by_cases q2 : p = 20
      · subst q2
        rw [c123, rH_12]
      · rw [o3 p q2]
        by_cases q3 : p = 21
        · subst q3
          rw [c13, rH_13]
        · by_cases q4 : p = 22
          · subst q4
            rw [c14, rH_14]
          · rw [rH_o q2 q3 q4]
  rw [ek]
  unfold mm_T_open
  simp only [pb_l2, pb_ll, nI_add, pb_mul, if_true, if_false, pb_bs, pb_b2n, pb_bz0, pb_bz1, pb_10, pb_01, tH_is, tH_g0, tH_g1, tH_g2, tH_g3, tH_g4, tH_p0, tH_p1, tH_p2, tH_p3, tH_p4, tH_r, T_advance (rH_tz ht) (Nat.zero_le _) hN]
theorem rl_o {h : ss_Hp} {T : List Nat} {l c k p q : Nat} {cd sx : List Int32} {Fi : Int32} (h1 : q ≠ 1) (h2 : q ≠ 20) (h3 : q ≠ 21) (h4 : q ≠ 22) : (lx (rH h l c k cd sx) T Fi p).2 q = h.2 q := (tH_o h1).trans (rH_o h2 h3 h4)
theorem rl_1 {h : ss_Hp} {T : List Nat} {l c k p : Nat} {cd sx : List Int32} {Fi : Int32} : (lx (rH h l c k cd sx) T Fi p).2 1 = (2, [nI T.length, Fi, nI (tk T (blk T p)), nI (blk T p), nI (en T (blk T p))], [], [some 2]) := tH_1
/-- the class, told a faulty rule -/
theorem cr_bad {N : Nat} {h : ss_Hp} {T : List Nat} {a : List Int32} {fo x : Int32} {RS : List (List ru_C)} {US : List (List Int32)} {I : Nat → Option (List Int32 × Int32 × Int32)} {Fa9 : Nat} {cd0 sx0 : List Int32} {H : ss_Hp} (hc : cl_h h T a fo x RS US I) (ha : as_ok T a fo x RS US I) (hfr : fr_h h) (hN : 500 < N) (h6 : RS.length < 6) (e13 : h.2 21 = (20, cd0, [], [])) (e14 : h.2 22 = (20, sx0, [], [])) (hH : cFs h T Fa9 H) (hF : 0 < Fa9 ∧ Fa9 < 100000) (hl : ss_lp (mm_RR_readRule_b26 N (some 20)) N (nI 1, nI 0, lx (rH h 0 0 0 cd0 sx0) T (nI 0) 0) = some H) : cl_run (mm_S_rule N (some 0) h) h (-nI 2 - nI Fa9) [] a fo x RS US I := by
  obtain ⟨n, g, rc, ti, tb, vt, ri, cd, sx, rl, wi, wv, gi, gs, gw, nd, ns, nw, il, ai, yv, yr, yi, ys, yw, yt, yh, yf, yo, yk, fr, fg, pl, pc, pg, eh, F⟩ := hc
  have F0 := F
  obtain ⟨Fn, Frc, Ft, Fr, Fl, ⟨Fw, ⟨vv, Fv, Fq⟩, Fg, Fs, Fwl, Fno⟩, Fi, ⟨nx, Fa, Fu⟩, Fy, Ff⟩ := F
  have evv : vv = 25 := Option.some.inj (Fv.symm.trans Fr.2.2.2.2.2.1)
  subst evv
  have hn : 142 ≤ h.1 := by rw [eh]; exact Fn
  obtain ⟨t0, t1, t2, t3, t4, ht5⟩ := list5 Ft.1
  have et0 : t0 = nI T.length := by have := Ft.2.1; rw [ht5] at this; exact this
  obtain ⟨r0, r1, r2, hr3⟩ := list3 Fr.1
  have C0 : h.2 0 = (11, [nI RS.length], [], [some 1, some 3, some 20, some 23, some 24, some 39, some 40, some 102, some 111, some 114]) := by rw [eh, ← Frc]; exact pk_c0
  have C1 : h.2 1 = (2, [nI T.length, t1, t2, t3, t4], [], [some 2]) := by rw [eh, ← et0, ← ht5]; exact pk_c1
  have C2 : h.2 2 = (20, tb, [], []) := by rw [eh]; exact pk_c2
  have C12 : h.2 20 = (4, [r0, r1, r2], [], [some 1, some 21, some 22]) := by rw [eh, ← hr3]; exact pk_c20
  have C13 : h.2 21 = (20, cd, [], []) := by rw [eh]; exact pk_c21
  have C14 : h.2 22 = (20, sx, [], []) := by rw [eh]; exact pk_c22
  have C15 : h.2 23 = (25, [], [], rl) := by rw [eh]; exact pk_c23
  have ht := ct_tz ha.1 C2 Ft
  have len15 : ss_len h (some 23) 25 = some (nI 6) := by
    unfold ss_len
    simp only [C15]
    rw [← Fl.1]
    rfl
  have i0 : ss_is h (some 0) 11 = true := pb_is C0
  have g03 : ss_gr h (some 0) 11 3 = some (some 23) := pb_gr C0 3
  have g02 : ss_gr h (some 0) 11 2 = some (some 20) := pb_gr C0 2
  have rc0 : ss_gi h (some 0) 11 0 = some (nI RS.length) := pb_gi C0 0
  have ecd : cd0 = cd := by have := e13.symm.trans C13; exact congrArg (fun z : ss_Cl => z.2.1) this
  have esx : sx0 = sx := by have := e14.symm.trans C14; exact congrArg (fun z : ss_Cl => z.2.1) this
  subst ecd
  subst esx
  obtain ⟨l, c, k, cd1, sx1, p, q1, q2, q3, q4, rfl⟩ := hH
  obtain ⟨k1, k2, k3, e1, e2, e3, e4, e5⟩ := cr_pre ht C1 C12 C13 C14 hN
  have hFn : (nI Fa9 = nI 0) = False := pb_nn (by omega) (by omega) (by omega)
  have is12 : ss_is h (some 20) 4 = true := pb_is C12
  have lt6 : (nI RS.length < nI 6) = True := eq_true (nI_lt h6 (by omega))
  have rd : mm_RR_readRule N (some 20) h = some (none, (lx (rH h l c k cd1 sx1) T (nI Fa9) p)) := by
    unfold mm_RR_readRule mm_RR_readRule_j181
    simp only [pb_l2, pb_ll, nI_add, pb_mul, if_true, if_false, pb_bs, pb_b2n, pb_bz0, pb_bz1, pb_10, pb_01, is12, e1, e2, e3, e4, e5, hl, rl_r0, T_welln hFn]
  have hg : ∀ y, y ≠ 1 → y ≠ 20 → y ≠ 21 → y ≠ 22 → ∀ z0 z1 z2 z3 z4, (tH (rH h l c k cd1 sx1) z0 z1 z2 z3 z4).2 y = h.2 y := fun y y1 y2 y3 y4 z0 z1 z2 z3 z4 => (tH_o y1).trans (rH_o y2 y3 y4)
  have D0 : ∀ z0 z1 z2 z3 z4, (tH (rH h l c k cd1 sx1) z0 z1 z2 z3 z4).2 0 = (11, [nI RS.length], [], [some 1, some 3, some 20, some 23, some 24, some 39, some 40, some 102, some 111, some 114]) := fun z0 z1 z2 z3 z4 => (hg 0 (by omega) (by omega) (by omega) (by omega) _ _ _ _ _).trans C0
  have qx : ∀ z0 z1 z2 z3 z4, qx_eq g (tH (rH h l c k cd1 sx1) z0 z1 z2 z3 z4).2 := fun z0 z1 z2 z3 z4 p hp h99 => by
    have e1 : h.2 p = g p := by rw [eh, pk_out (by unfold pk_fr; omega)]
    rw [hg p (by omega) (by omega) (by omega) (by omega), e1]
  refine ⟨tH (rH h l c k cd1 sx1) (nI 0) (nI Fa9) (nI (tk T (blk T p))) (nI (blk T p)) (nI (en T (blk T p))), ?_, ?_, fun y hy => hg y (by omega) (by omega) (by omega) (by omega) _ _ _ _ _, fun f y hy => ?_⟩
  · have g2 : ∀ z0 z1 z2 z3 z4, ss_gr (tH (rH h l c k cd1 sx1) z0 z1 z2 z3 z4) (some 0) 11 0 = some (some 1) := fun z0 z1 z2 z3 z4 => pb_gr (D0 z0 z1 z2 z3 z4) 0
    unfold lx at rd
    unfold mm_S_rule
    simp only [pb_l2, pb_ll, nI_add, pb_mul, if_true, if_false, pb_bs, pb_b2n, pb_bz0, pb_bz1, pb_10, pb_01, tH_is, tH_g0, tH_g1, tH_g2, tH_g3, tH_g4, tH_p0, tH_p1, tH_p2, tH_p3, tH_p4, tH_r, i0, rc0, g03, len15, lt6, g02, rd, g2, Option.isSome_none, Bool.false_eq_true]
  · refine cl_gen (nx' := nx) (v' := 25) (vt' := vt) (rl' := rl) eh F0 (by show 142 ≤ h.1; omega) (D0 _ _ _ _ _) tH_1 ?_ ((tH_o (by omega)).trans rH_12) ((tH_o (by omega)).trans rH_13) ((tH_o (by omega)).trans rH_14) ?_ ?_ ?_ ?_ ?_ ?_ ?_ (fun y hy h99 => ?_) (ct_nil Ft.2.2.1) ⟨rfl, q1, q2, q3, Fv ▸ fx_R_of (fun y y1 y2 => by rw [hg y (by omega) (by omega) (by omega) (by omega), eh, pk_out (by unfold pk_fr; omega)]) Fr.2.2.2.2⟩ (ql_R_fx (qx _ _ _ _ _) Fl) (qv_R_x (fun j hj => by rw [hg _ (by omega) (by omega) (by omega) (by omega), eh, pk_out (by unfold pk_fr; omega)]) Fq) Fwl Fno ?_
    · rw [hg 3 (by omega) (by omega) (by omega) (by omega), eh]; exact pk_c3
    · rw [hg 23 (by omega) (by omega) (by omega) (by omega)]; exact C15
    · rw [hg 24 (by omega) (by omega) (by omega) (by omega), eh, ← Fw, ← Fv]; exact pk_c24
    · rw [hg 33 (by omega) (by omega) (by omega) (by omega), eh, ← Fg]; exact pk_c33
    · rw [hg 34 (by omega) (by omega) (by omega) (by omega), eh, ← Fs]; exact pk_c34
    · rw [hg 35 (by omega) (by omega) (by omega) (by omega), eh]; exact pk_c35
    · rw [hg 40 (by omega) (by omega) (by omega) (by omega), eh, ← Fa]; exact pk_c40
    · intro y hy y0 y1 y3 y20 y21 y22 y23 y24 y33 y34 y35 y40 ya yb
      exact hg y (by omega) (by omega) (by omega) (by omega) _ _ _ _ _
    · exact hg y (by omega) (by omega) (by omega) (by omega) _ _ _ _ _
    · refine qu_R_x (fun y y1 y2 => ?_) Fu
      rw [hg y (by omega) (by omega) (by omega) (by omega), eh, pk_out (by unfold pk_fr; omega)]
  · have hy : h.1 ≤ y := hy
    rw [hg y (by omega) (by omega) (by omega) (by omega)]
    exact f y hy
theorem gdS_l {RS : List (List ru_C)} {R : List ru_C} {j : Nat} (h : j < RS.length) : (RS ++ [R]).getD j [] = RS.getD j [] := by
  rw [List.getD_eq_getElem?_getD, List.getElem?_append_left h, List.getD_eq_getElem?_getD]
theorem gdS_e {RS : List (List ru_C)} {R : List ru_C} : (RS ++ [R]).getD RS.length [] = R := by
  rw [List.getD_eq_getElem?_getD]
  simp
theorem cr_ok {N : Nat} {h : ss_Hp} {T : List Nat} {a : List Int32} {fo x : Int32} {RS : List (List ru_C)} {US : List (List Int32)} {I : Nat → Option (List Int32 × Int32 × Int32)} {l k p r : Nat} {cd0 sx0 cd1 sx1 cl1 sg1 : List Int32} {R : List ru_C} (hc : cl_h h T a fo x RS US I) (ha : as_ok T a fo x RS US I) (hfr : fr_h h) (hN : 500 < N) (h6 : RS.length < 6) (e13 : h.2 21 = (20, cd0, [], [])) (e14 : h.2 22 = (20, sx0, [], [])) (hRI : RI cd1 sx1 cl1 sg1 r l R) (hR12 : R.length ≤ 12) (hl4 : l ≤ 400) (hl : ss_lp (mm_RR_readRule_b26 N (some 20)) N (nI 1, nI 0, lx (rH h 0 0 0 cd0 sx0) T (nI 0) 0) = some (lx (rH h l R.length k cd1 sx1) T (nI 0) p)) : cl_run (mm_S_rule N (some 0) h) h (nI RS.length) [] a fo x (RS ++ [R]) US I := by
  obtain ⟨n, g, rc, ti, tb, vt, ri, cd, sx, rl, wi, wv, gi, gs, gw, nd, ns, nw, il, ai, yv, yr, yi, ys, yw, yt, yh, yf, yo, yk, fr, fg, pl, pc, pg, eh, F⟩ := hc
  have F0 := F
  obtain ⟨Fn, Frc, Ft, Fr, Fl, ⟨Fw, ⟨vv, Fv, Fq⟩, Fg, Fs, Fwl, Fno⟩, Fi, ⟨nx, Fa, Fu⟩, Fy, Ff⟩ := F
  have evv : vv = 25 := Option.some.inj (Fv.symm.trans Fr.2.2.2.2.2.1)
  subst evv
  have hn : 142 ≤ h.1 := by rw [eh]; exact Fn
  obtain ⟨t0, t1, t2, t3, t4, ht5⟩ := list5 Ft.1
  have et0 : t0 = nI T.length := by have := Ft.2.1; rw [ht5] at this; exact this
  obtain ⟨r0, r1, r2, hr3⟩ := list3 Fr.1
  have C0 : h.2 0 = (11, [nI RS.length], [], [some 1, some 3, some 20, some 23, some 24, some 39, some 40, some 102, some 111, some 114]) := by rw [eh, ← Frc]; exact pk_c0
  have C1 : h.2 1 = (2, [nI T.length, t1, t2, t3, t4], [], [some 2]) := by rw [eh, ← et0, ← ht5]; exact pk_c1
  have C2 : h.2 2 = (20, tb, [], []) := by rw [eh]; exact pk_c2
  have C12 : h.2 20 = (4, [r0, r1, r2], [], [some 1, some 21, some 22]) := by rw [eh, ← hr3]; exact pk_c20
  have C13 : h.2 21 = (20, cd, [], []) := by rw [eh]; exact pk_c21
  have C14 : h.2 22 = (20, sx, [], []) := by rw [eh]; exact pk_c22
  have C15 : h.2 23 = (25, [], [], rl) := by rw [eh]; exact pk_c23
  have ht := ct_tz ha.1 C2 Ft
  have len15 : ss_len h (some 23) 25 = some (nI 6) := by
    unfold ss_len
    simp only [C15]
    rw [← Fl.1]
    rfl
  have i0 : ss_is h (some 0) 11 = true := pb_is C0
  have g03 : ss_gr h (some 0) 11 3 = some (some 23) := pb_gr C0 3
  have g02 : ss_gr h (some 0) 11 2 = some (some 20) := pb_gr C0 2
  have rc0 : ss_gi h (some 0) 11 0 = some (nI RS.length) := pb_gi C0 0
  have ecd : cd0 = cd := by have := e13.symm.trans C13; exact congrArg (fun z : ss_Cl => z.2.1) this
  have esx : sx0 = sx := by have := e14.symm.trans C14; exact congrArg (fun z : ss_Cl => z.2.1) this
  subst ecd
  subst esx
  obtain ⟨⟨q1, q2, q3, q4⟩, ⟨q5, q6⟩, q7⟩ := id hRI
  obtain ⟨k1, k2, k3, e1, e2, e3, e4, e5⟩ := cr_pre ht C1 C12 C13 C14 hN
  have is12 : ss_is h (some 20) 4 = true := pb_is C12
  have lt6 : (nI RS.length < nI 6) = True := eq_true (nI_lt h6 (by omega))
  obtain ⟨k9, E9, A9, B9⟩ : ∃ k9, ss_no (lx (rH h l R.length k cd1 sx1) T (nI 0) p) 1 1 0 2 = some (some h.1, k9) ∧ k9.1 = h.1 + 1 ∧ ∀ y, k9.2 y = if y = h.1 then (1, [nI 0], [], [none, none]) else (lx (rH h l R.length k cd1 sx1) T (nI 0) p).2 y := ⟨_, rfl, rfl, fun _ => rfl⟩
  have d12 : k9.2 20 = (4, [nI l, nI R.length, nI k], [], [some 1, some 21, some 22]) := by rw [B9, if_neg (by omega)]; exact rl_2 (by omega) rH_12
  have d13 : k9.2 21 = (20, cd1, [], []) := by rw [B9, if_neg (by omega)]; exact rl_2 (by omega) rH_13
  have d14 : k9.2 22 = (20, sx1, [], []) := by rw [B9, if_neg (by omega)]; exact rl_2 (by omega) rH_14
  obtain ⟨K, EK, AK, K0, K1, K2, BK⟩ := ru_init (N := N) (h := k9) (v := h.1) (l := l) (ci := R.length) (by rw [B9, if_pos rfl]) A9 d13 d14 hn hl4 hR12 q1 q2
  have oK : ∀ y, y < h.1 ∨ h.1 + 3 ≤ y → y ≠ 1 → y ≠ 20 → y ≠ 21 → y ≠ 22 → K.2 y = h.2 y := fun y hy y1 y2 y3 y4 => by rw [BK y hy, B9, if_neg (by omega)]; exact rl_o y1 y2 y3 y4
  have K12 : K.2 20 = (4, [nI l, nI R.length, nI k], [], [some 1, some 21, some 22]) := (BK 20 (by omega)).trans d12
  have K13 : K.2 21 = (20, cd1, [], []) := (BK 21 (by omega)).trans d13
  have K14 : K.2 22 = (20, sx1, [], []) := (BK 22 (by omega)).trans d14
  have K00 : K.2 0 = (11, [nI RS.length], [], [some 1, some 3, some 20, some 23, some 24, some 39, some 40, some 102, some 111, some 114]) := (oK 0 (by omega) (by omega) (by omega) (by omega) (by omega)).trans C0
  have K01 : K.2 1 = (2, [nI T.length, nI 0, nI (tk T (blk T p)), nI (blk T p), nI (en T (blk T p))], [], [some 2]) := by rw [BK 1 (by omega), B9, if_neg (by omega)]; exact rl_1
  have rd : mm_RR_readRule N (some 20) h = some (some h.1, K) := by
    have g1 : ss_gr k9 (some 20) 4 1 = some (some 21) := pb_gr d12 1
    have g2 : ss_gi k9 (some 20) 4 0 = some (nI l) := pb_gi d12 0
    have g3 : ss_gr k9 (some 20) 4 2 = some (some 22) := pb_gr d12 2
    have g4 : ss_gi k9 (some 20) 4 1 = some (nI R.length) := pb_gi d12 1
    unfold mm_RR_readRule mm_RR_readRule_j181
    simp only [pb_l2, pb_ll, nI_add, pb_mul, if_true, if_false, pb_bs, pb_b2n, pb_bz0, pb_bz1, pb_10, pb_01, is12, e1, e2, e3, e4, e5, hl, rl_r0, T_wellx, E9, g1, g2, g3, g4, EK]
  obtain ⟨m1, Em1, Am1, Bm1⟩ : ∃ m1, ss_pi K (some 1) 2 0 (nI 0) = some m1 ∧ m1.1 = K.1 ∧ ∀ y, m1.2 y = if y = 1 then (2, [nI 0, nI 0, nI (tk T (blk T p)), nI (blk T p), nI (en T (blk T p))], [], [some 2]) else K.2 y := ⟨_, pb_pi K01 (by simp) (nI 0), rfl, fun _ => rfl⟩
  have m15 : m1.2 23 = (25, [], [], rl) := by rw [Bm1, if_neg (by omega), oK 23 (by omega) (by omega) (by omega) (by omega) (by omega)]; exact C15
  have mv : m1.2 h.1 = (1, [nI R.length], [], [some (h.1 + 1), some (h.1 + 2)]) := by rw [Bm1, if_neg (by omega)]; exact K0
  have m00 : m1.2 0 = (11, [nI RS.length], [], [some 1, some 3, some 20, some 23, some 24, some 39, some 40, some 102, some 111, some 114]) := by rw [Bm1, if_neg (by omega)]; exact K00
  have l6 : rl.length = 6 := Fl.1
  obtain ⟨m2, Em2, Am2, Bm2⟩ : ∃ m2, ss_ur m1 (some 23) 25 1 (nI RS.length) (some h.1) = some m2 ∧ m2.1 = m1.1 ∧ ∀ y, m2.2 y = if y = 23 then (25, [], [], rl.set RS.length (some h.1)) else m1.2 y := ⟨_, pb_ur m15 (by omega) (by omega) (pb_is mv), rfl, fun _ => rfl⟩
  have m20 : m2.2 0 = (11, [nI RS.length], [], [some 1, some 3, some 20, some 23, some 24, some 39, some 40, some 102, some 111, some 114]) := by rw [Bm2, if_neg (by omega)]; exact m00
  obtain ⟨m3, Em3, Am3, Bm3⟩ : ∃ m3, ss_pi m2 (some 0) 11 0 (nI (RS.length + 1)) = some m3 ∧ m3.1 = m2.1 ∧ ∀ y, m3.2 y = if y = 0 then (11, [nI (RS.length + 1)], [], [some 1, some 3, some 20, some 23, some 24, some 39, some 40, some 102, some 111, some 114]) else m2.2 y := ⟨_, pb_pi m20 (by simp) (nI (RS.length + 1)), rfl, fun _ => rfl⟩
  have m30 : m3.2 0 = (11, [nI (RS.length + 1)], [], [some 1, some 3, some 20, some 23, some 24, some 39, some 40, some 102, some 111, some 114]) := by rw [Bm3, if_pos rfl]
  have o3 : ∀ y, y ≠ 0 → y ≠ 1 → y ≠ 23 → m3.2 y = K.2 y := fun y y0 y1 y15 => by rw [Bm3, if_neg y0, Bm2, if_neg y15, Bm1, if_neg y1]
  have G3 : ∀ y, y ≠ 0 → y ≠ 1 → y ≠ 20 → y ≠ 21 → y ≠ 22 → y ≠ 23 → y < h.1 ∨ h.1 + 3 ≤ y → m3.2 y = h.2 y := fun y y0 y1 y2 y3 y4 y5 hy => by rw [o3 y y0 y1 y5, oK y hy y1 y2 y3 y4]
  have qx : qx_eq g m3.2 := fun y hy h99 => by
    have e1 : h.2 y = g y := by rw [eh, pk_out (by unfold pk_fr; omega)]
    rcases Nat.lt_or_ge y h.1 with c | c
    · rw [G3 y (by omega) (by omega) (by omega) (by omega) (by omega) (by omega) (Or.inl c), e1]
    · have := hfr y c
      rw [e1] at this
      exact absurd this h99
  have hlen : (RS ++ [R]).length = RS.length + 1 := by simp
  refine ⟨m3, ?_, ?_, fun y hy => G3 y (by omega) (by omega) (by omega) (by omega) (by omega) (by omega) (by omega), fun f y hy => ?_⟩
  · have g1 : ss_gr K (some 0) 11 0 = some (some 1) := pb_gr K00 0
    have g2 : ss_gr m1 (some 0) 11 3 = some (some 23) := pb_gr m00 3
    have g3 : ss_gi m1 (some 0) 11 0 = some (nI RS.length) := pb_gi m00 0
    have g4 : ss_gi m2 (some 0) 11 0 = some (nI RS.length) := pb_gi m20 0
    have g5 : ss_gi m3 (some 0) 11 0 = some (nI (RS.length + 1)) := pb_gi m30 0
    have g6 : nI (RS.length + 1) - nI 1 = nI RS.length := by rw [pb_subn (by omega)]; rfl
    unfold mm_S_rule
    simp only [pb_l2, pb_ll, nI_add, pb_mul, if_true, if_false, pb_bs, pb_b2n, pb_bz0, pb_bz1, pb_10, pb_01, i0, rc0, g03, len15, lt6, g02, rd, g1, Em1, Option.isSome_some, g2, g3, Em2, g4, Em3, g5, g6]
  · refine cl_gen (nx' := nx) (v' := 25) (vt' := vt) (rl' := rl.set RS.length (some h.1)) eh F0 (by omega) (by rw [hlen]; exact m30) (by rw [Bm3, if_neg (by omega), Bm2, if_neg (by omega), Bm1, if_pos rfl]) ?_ ((o3 20 (by omega) (by omega) (by omega)).trans K12) ((o3 21 (by omega) (by omega) (by omega)).trans K13) ((o3 22 (by omega) (by omega) (by omega)).trans K14) (by rw [Bm3, if_neg (by omega), Bm2, if_pos rfl]) ?_ ?_ ?_ ?_ ?_ ?_ (fun y hy h99 => ?_) (ct_nil Ft.2.2.1) ⟨rfl, q1, q2, q5, Fv ▸ fx_R_of (fun y y1 y2 => by rw [G3 y (by omega) (by omega) (by omega) (by omega) (by omega) (by omega) (by omega), eh, pk_out (by unfold pk_fr; omega)]) Fr.2.2.2.2⟩ ⟨by rw [List.length_set]; exact l6, fun j hj => ⟨fun hjl => ?_, fun hjl => ?_⟩⟩ (qv_R_x (fun j hj => by rw [G3 _ (by omega) (by omega) (by omega) (by omega) (by omega) (by omega) (by omega), eh, pk_out (by unfold pk_fr; omega)]) Fq) Fwl Fno ?_
    · rw [G3 3 (by omega) (by omega) (by omega) (by omega) (by omega) (by omega) (by omega), eh]; exact pk_c3
    · rw [G3 24 (by omega) (by omega) (by omega) (by omega) (by omega) (by omega) (by omega), eh, ← Fw, ← Fv]; exact pk_c24
    · rw [G3 33 (by omega) (by omega) (by omega) (by omega) (by omega) (by omega) (by omega), eh, ← Fg]; exact pk_c33
    · rw [G3 34 (by omega) (by omega) (by omega) (by omega) (by omega) (by omega) (by omega), eh, ← Fs]; exact pk_c34
    · rw [G3 35 (by omega) (by omega) (by omega) (by omega) (by omega) (by omega) (by omega), eh]; exact pk_c35
    · rw [G3 40 (by omega) (by omega) (by omega) (by omega) (by omega) (by omega) (by omega), eh, ← Fa]; exact pk_c40
    · intro y hy y0 y1 y3 y20 y21 y22 y23 y24 y33 y34 y35 y40 ya yb
      exact G3 y (by omega) (by omega) (by omega) (by omega) (by omega) (by omega) (by omega)
    · refine G3 y (by omega) (by omega) (by omega) (by omega) (by omega) (by omega) ?_
      rcases Nat.lt_or_ge y h.1 with c | c
      · exact Or.inl c
      · exact absurd (hfr y c) h99
    · rw [hlen] at hjl
      by_cases c : j < RS.length
      · obtain ⟨pp, p1, p2⟩ := (Fl.2 j hj).1 c
        refine ⟨pp, by rw [List.getElem?_set_ne (by omega)]; exact p1, ?_⟩
        rw [gdS_l c]
        exact rc_R_fx qx p2
      · have ej : j = RS.length := by omega
        subst ej
        refine ⟨h.1, List.getElem?_set_self (by omega), ?_⟩
        rw [gdS_e]
        refine ⟨hn, hR12, cd1.take l, sx1.take (2 * R.length + 1), (o3 h.1 (by omega) (by omega) (by omega)).trans K0, (o3 (h.1 + 1) (by omega) (by omega) (by omega)).trans K1, (o3 (h.1 + 2) (by omega) (by omega) (by omega)).trans K2, by rw [List.length_take]; omega, by rw [List.length_take]; omega, fun i hi => ?_⟩
        obtain ⟨o1, ⟨b, c1, c2, c3, c4, c5, c6⟩, -⟩ := q7 i hi
        have hb2 : b + (R.getD i ([], none)).1.length + ((R.getD i ([], none)).2.getD []).length ≤ l := c6
        refine ⟨o1, b, by rw [pv_take (by omega)]; exact c1, by rw [pv_take (by omega)]; exact c2, by rw [pv_take (by omega)]; exact c3, fun t htt => ⟨by rw [pv_take (by omega)]; exact (c4 t htt).1, (c4 t htt).2⟩, fun t htt => ⟨by rw [pv_take (by omega)]; exact (c5 t htt).1, (c5 t htt).2⟩, by rw [List.length_take, q1]; omega⟩
    · rw [hlen] at hjl
      rw [List.getElem?_set_ne (by omega)]
      exact (Fl.2 j hj).2 (by omega)
    · refine qu_R_x (fun y y1 y2 => ?_) Fu
      rw [G3 y (by omega) (by omega) (by omega) (by omega) (by omega) (by omega) (by omega), eh, pk_out (by unfold pk_fr; omega)]
  · have hy : h.1 + 3 ≤ y := by omega
    rw [G3 y (by omega) (by omega) (by omega) (by omega) (by omega) (by omega) (Or.inr hy)]
    exact f y (by omega)
theorem ru_M_fr {cl sg cs cl' sg' cs' : List Int32} {r j : Nat} {R : List ru_C} (hj : j < r) (h1 : ∀ i, i < 48 * r → pv cl' i = pv cl i) (h2 : ∀ i, i < 400 * r → pv sg' i = pv sg i) (h3 : pv cs' j = pv cs j) (h : ru_M cl sg cs j R) : ru_M cl' sg' cs' j R := by
  obtain ⟨a1, a2, a3⟩ := h
  refine ⟨a1, by rw [h3]; exact a2, fun i hi => ⟨?_, (a3 i hi).2⟩⟩
  obtain ⟨b, b1, b2, b3, b4, b5⟩ := (a3 i hi).1
  refine ⟨b, by rw [h1 _ (by omega)]; exact b1, by rw [h1 _ (by omega)]; exact b2, fun t htt => ⟨by rw [h2 _ (by omega)]; exact (b3 t htt).1, (b3 t htt).2⟩, b4, ?_⟩
  generalize (R.getD i ([], none)).2 = oE at b5 ⊢
  cases oE with
  | none =>
    show pv cl' _ < nI 0
    rw [h1 _ (by omega)]
    exact b5
  | some t =>
    obtain ⟨d1, d2, d3, d4⟩ := b5
    exact ⟨by rw [h1 _ (by omega)]; exact d1, by rw [h1 _ (by omega)]; exact d2, fun u hu => ⟨by rw [h2 _ (by omega)]; exact (d3 u hu).1, (d3 u hu).2⟩, d4⟩
theorem RI_M {cd sx cl sg cs : List Int32} {r l : Nat} {R : List ru_C} (h : RI cd sx cl sg r l R) (hR : R.length ≤ 12) (hl : l ≤ 400) (hcs : pv cs r = nI R.length) : ru_M cl sg cs r R := by
  refine ⟨hR, hcs, fun j hj => ?_⟩
  obtain ⟨o1, -, b, b1, b2, b3, b4, b5⟩ := h.2.2 j hj
  refine ⟨⟨b, b1, b2, b3, by omega, ?_⟩, o1⟩
  rcases b5 with ⟨e1, e2⟩ | ⟨t, e1, e2, e3, e4⟩
  · rw [e1]
    exact e2
  · have et : x2 (R.getD j ([], none)) = t := by unfold x2; rw [e1]; rfl
    rw [et] at b4
    rw [e1]
    exact ⟨e2, e3, e4, by omega⟩
section MR9
variable {n : Nat} {f : Nat → ss_Cl} {m0 m1 m2 m3 m4 m5 m6 m7 m8 m9 m10 m11 m12 m13 m14 m15 : Int32} {dx : Int64} {tp : List Int32} {sg : List Int32} {lg : List Int32} {cl : List Int32} {cs : List Int32} {rd : List Int32} {op : List Int32} {sk : List Int64} {wd : List Int64} {sd : List Int32} {th : List Int32} {fa : List Int32} {ws : List Int32} {kp : List Int32} {li : List Int32} {pr : List Int32} {hb : List Int32} {fi : List Int32} {st : List Int32} {im : List Int32} {jf : List Int32} {jx : List Int32} {mk : List Int32} {N : Nat}
variable {r : Nat} {z2 z3 z4 z6 z7 z8 z9 zl zc : Int32} {cl9 op9 sg9 : List Int32}
theorem M_readr (hr : r < 6) (hl : lg.length = 7) : mm_M_readsAll N (some 118) (pm_M n f (mL m0 m1 m2 m3 m4 (nI r) m6 m7 m8 m9 m10 m11 m12 m13 m14 m15) dx tp sg lg cl cs rd op sk wd sd th fa ws kp li pr hb fi st im jf jx mk) = rL N N (mm_M_clauseHere N (some 118) (pm_M n f (mL m0 m1 (nI 0) (nI 0) m4 (nI r) (nI 0) m7 (nI 0) m9 m10 m11 m12 m13 m14 m15) dx tp sg (lg.set r (nI 0)) cl cs rd op sk wd sd th fa ws kp li pr hb fi st im jf jx mk)) := by
  unfold mm_M_readsAll rL
  simp (disch := ((try simp only [List.length_set, sl_len]); omega)) only [pb_l2, pb_ll, nI_add, pb_mul, if_true, if_false, pb_bs, pb_b2n, pb_bz0, pb_bz1, pb_10, pb_01, pn_is, pn_g0, pn_g1, pn_g2, pn_g3, pn_g4, pn_g5, pn_g6, pn_g9, mL_g0, mL_p0, mL_g1, mL_p1, mL_g2, mL_p2, mL_g3, mL_p3, mL_g4, mL_p4, mL_g5, mL_p5, mL_g6, mL_p6, mL_g7, mL_p7, mL_g8, mL_p8, mL_g9, mL_p9, mL_g10, mL_p10, mL_g11, mL_p11, mL_g12, mL_p12, mL_g13, mL_p13, mL_g14, mL_p14, mL_g15, mL_p15, pn_u2]
  refine congrArg (ss_b2 _) (funext fun v12 => funext fun h13 => congrArg (Option.bind _) (funext fun e => ?_))
  obtain ⟨y, h⟩ := e
  rfl
theorem M_r6 : mm_M_rule N (some 118) (pm_M n f (mL m0 (nI 6) m2 m3 m4 m5 m6 m7 m8 m9 m10 m11 m12 m13 m14 m15) dx tp sg lg cl cs rd op sk wd sd th fa ws kp li pr hb fi st im jf jx mk) = some (-nI 1, (pm_M n f (mL m0 (nI 6) m2 m3 m4 m5 m6 m7 m8 m9 m10 m11 m12 m13 m14 m15) dx tp sg lg cl cs rd op sk wd sd th fa ws kp li pr hb fi st im jf jx mk)) := by
  unfold mm_M_rule
  simp only [pb_l2, pb_ll, nI_add, pb_mul, if_true, if_false, pb_bs, pb_b2n, pb_bz0, pb_bz1, pb_10, pb_01, pn_is, pn_g0, pn_g1, pn_g2, pn_g3, pn_g4, pn_g5, pn_g6, pn_g9, mL_g0, mL_p0, mL_g1, mL_p1, mL_g2, mL_p2, mL_g3, mL_p3, mL_g4, mL_p4, mL_g5, mL_p5, mL_g6, mL_p6, mL_g7, mL_p7, mL_g8, mL_p8, mL_g9, mL_p9, mL_g10, mL_p10, mL_g11, mL_p11, mL_g12, mL_p12, mL_g13, mL_p13, mL_g14, mL_p14, mL_g15, mL_p15]
theorem M_r1 (hr : r < 6) (hl : lg.length = 7) (hcs : cs.length = 6) (hh : rL N N (mm_M_clauseHere N (some 118) (pm_M n f (mL m0 (nI r) (nI 0) (nI 0) m4 (nI r) (nI 0) m7 (nI 0) m9 m10 m11 m12 m13 m14 m15) dx tp sg (lg.set r (nI 0)) cl (cs.set r (nI 0)) rd op sk wd sd th fa ws kp li pr hb fi st im jf jx mk)) = some (nI 1, (pm_M n f (mL (nI 0) (nI r) z2 (nI 0) z4 (nI r) z6 z7 z8 z9 m10 m11 m12 m13 m14 m15) dx tp sg9 (lg.set r zl) cl9 (cs.set r zc) rd op9 sk wd sd th fa ws kp li pr hb fi st im jf jx mk))) : mm_M_rule N (some 118) (pm_M n f (mL m0 (nI r) m2 m3 m4 m5 m6 m7 m8 m9 m10 m11 m12 m13 m14 m15) dx tp sg lg cl cs rd op sk wd sd th fa ws kp li pr hb fi st im jf jx mk) = some (nI r, (pm_M n f (mL (nI 0) (nI (r + 1)) z2 (nI 0) z4 (nI r) z6 z7 z8 z9 m10 m11 m12 m13 m14 m15) dx tp sg9 (lg.set r zl) cl9 (cs.set r zc) rd op9 sk wd sd th fa ws kp li pr hb fi st im jf jx mk)) := by
  have n6 : (nI r = nI 6) = False := pb_nn (by omega) (by omega) (by omega)
  have e1 : nI (r + 1) - nI 1 = nI r := by rw [pb_subn (by omega)]; rfl
  unfold mm_M_rule
  simp (disch := ((try simp only [List.length_set, sl_len]); omega)) only [pb_l2, pb_ll, nI_add, pb_mul, if_true, if_false, pb_bs, pb_b2n, pb_bz0, pb_bz1, pb_10, pb_01, pn_is, pn_g0, pn_g1, pn_g2, pn_g3, pn_g4, pn_g5, pn_g6, pn_g9, mL_g0, mL_p0, mL_g1, mL_p1, mL_g2, mL_p2, mL_g3, mL_p3, mL_g4, mL_p4, mL_g5, mL_p5, mL_g6, mL_p6, mL_g7, mL_p7, mL_g8, mL_p8, mL_g9, mL_p9, mL_g10, mL_p10, mL_g11, mL_p11, mL_g12, mL_p12, mL_g13, mL_p13, mL_g14, mL_p14, mL_g15, mL_p15, n6, pn_u4, M_readr hr hl, hh, e1]
theorem M_r0 (hr : r < 6) (hl : lg.length = 7) (hcs : cs.length = 6) (hh : rL N N (mm_M_clauseHere N (some 118) (pm_M n f (mL m0 (nI r) (nI 0) (nI 0) m4 (nI r) (nI 0) m7 (nI 0) m9 m10 m11 m12 m13 m14 m15) dx tp sg (lg.set r (nI 0)) cl (cs.set r (nI 0)) rd op sk wd sd th fa ws kp li pr hb fi st im jf jx mk)) = some (nI 0, (pm_M n f (mL (nI 0) (nI r) z2 z3 z4 (nI r) z6 z7 z8 z9 m10 m11 m12 m13 m14 m15) dx tp sg9 (lg.set r zl) cl9 (cs.set r zc) rd op9 sk wd sd th fa ws kp li pr hb fi st im jf jx mk))) : mm_M_rule N (some 118) (pm_M n f (mL m0 (nI r) m2 m3 m4 m5 m6 m7 m8 m9 m10 m11 m12 m13 m14 m15) dx tp sg lg cl cs rd op sk wd sd th fa ws kp li pr hb fi st im jf jx mk) = some (-nI 2 - z3, (pm_M n f (mL (nI 0) (nI r) z2 z3 z4 (nI r) z6 z7 z8 z9 m10 m11 m12 m13 m14 m15) dx tp sg9 (lg.set r zl) cl9 (cs.set r zc) rd op9 sk wd sd th fa ws kp li pr hb fi st im jf jx mk)) := by
  have n6 : (nI r = nI 6) = False := pb_nn (by omega) (by omega) (by omega)
  unfold mm_M_rule
  simp (disch := ((try simp only [List.length_set, sl_len]); omega)) only [pb_l2, pb_ll, nI_add, pb_mul, if_true, if_false, pb_bs, pb_b2n, pb_bz0, pb_bz1, pb_10, pb_01, pn_is, pn_g0, pn_g1, pn_g2, pn_g3, pn_g4, pn_g5, pn_g6, pn_g9, mL_g0, mL_p0, mL_g1, mL_p1, mL_g2, mL_p2, mL_g3, mL_p3, mL_g4, mL_p4, mL_g5, mL_p5, mL_g6, mL_p6, mL_g7, mL_p7, mL_g8, mL_p8, mL_g9, mL_p9, mL_g10, mL_p10, mL_g11, mL_p11, mL_g12, mL_p12, mL_g13, mL_p13, mL_g14, mL_p14, mL_g15, mL_p15, n6, pn_u4, M_readr hr hl, hh]
end MR9
theorem jx_rule {N : Nat} {h h2 : ss_Hp} {T : List Nat} {a : List Int32} {fo x : Int32} {RS : List (List ru_C)} {US : List (List Int32)} {I : Nat → Option (List Int32 × Int32 × Int32)} (hc : cl_h h T a fo x RS US I) (hm : mo_h h2 T a fo x RS US I) (ha : as_ok T a fo x RS US I) (hN : 5000 < N) (hN2 : 100000 < N) (hfr : fr_h h) : jo (mm_S_rule N (some 0) h) (mm_M_rule N (some 118) h2) h h2 := by
  have hc0 := hc
  have hm0 := hm
  obtain ⟨n, g, rc, ti, tb, vt, ri, cd, sx, rl, wi, wv, gi, gs, gw, nd, ns, nw, il, ai, yv, yr, yi, ys, yw, yt, yh, yf, yo, yk, fr, fg, pl, pc, pg, eh, F⟩ := hc
  have F0 := F
  obtain ⟨Fn, Frc, Ft, Fr, Fl, ⟨Fw, ⟨vv, Fv, Fq⟩, Fg, Fs, Fwl, Fno⟩, Fi, ⟨nx, Fa, Fu⟩, Fy, Ff⟩ := F
  have evv : vv = 25 := Option.some.inj (Fv.symm.trans Fr.2.2.2.2.2.1)
  subst evv
  have hn : 142 ≤ h.1 := by rw [eh]; exact Fn
  obtain ⟨t0, t1, t2, t3, t4, ht5⟩ := list5 Ft.1
  have et0 : t0 = nI T.length := by have := Ft.2.1; rw [ht5] at this; exact this
  obtain ⟨r0, r1, r2, hr3⟩ := list3 Fr.1
  have C0 : h.2 0 = (11, [nI RS.length], [], [some 1, some 3, some 20, some 23, some 24, some 39, some 40, some 102, some 111, some 114]) := by rw [eh, ← Frc]; exact pk_c0
  have C1 : h.2 1 = (2, [nI T.length, t1, t2, t3, t4], [], [some 2]) := by rw [eh, ← et0, ← ht5]; exact pk_c1
  have C2 : h.2 2 = (20, tb, [], []) := by rw [eh]; exact pk_c2
  have C12 : h.2 20 = (4, [r0, r1, r2], [], [some 1, some 21, some 22]) := by rw [eh, ← hr3]; exact pk_c20
  have C13 : h.2 21 = (20, cd, [], []) := by rw [eh]; exact pk_c21
  have C14 : h.2 22 = (20, sx, [], []) := by rw [eh]; exact pk_c22
  have C15 : h.2 23 = (25, [], [], rl) := by rw [eh]; exact pk_c23
  have ht := ct_tz ha.1 C2 Ft
  have len15 : ss_len h (some 23) 25 = some (nI 6) := by
    unfold ss_len
    simp only [C15]
    rw [← Fl.1]
    rfl
  have i0 : ss_is h (some 0) 11 = true := pb_is C0
  have g03 : ss_gr h (some 0) 11 3 = some (some 23) := pb_gr C0 3
  have g02 : ss_gr h (some 0) 11 2 = some (some 20) := pb_gr C0 2
  have rc0 : ss_gi h (some 0) 11 0 = some (nI RS.length) := pb_gi C0 0
  obtain ⟨n, f, mi, dx, tp, sg, lg, cl, cs, rd, op, sk, wd, sd, th, fa, ws, kp, li, pr, hb, fi, st, im, jf, jx, mk, eh2, ⟨Lmi, Ltp, Lsg, Llg, Lcl, Lcs, Lrd, Lop, Lsk, Lwd, Lth, Lfa⟩, ⟨Lws, Lkp, Lli, Lpr, Lhb, Lfi, Lst, Lim, Ljf, Ljx, Lmk⟩, ⟨Mt1, Mt2⟩, ⟨Mr1, Mr2⟩, ⟨M13, M14, Msd⟩, ⟨M15, Mws⟩, MI⟩ := hm
  have HRS : RS.length ≤ 6 := ha.2.2.1
  obtain ⟨m0, m1, m2, m3, m4, m5, m6, m7, m8, m9, m10, m11, m12, m13, m14, m15, emi⟩ := list16 Lmi
  subst emi
  have e0 : m0 = nI T.length := Mt1
  have e1 : m1 = nI RS.length := Mr1
  subst e0
  subst e1
  have hmz : mz tp T := ⟨ha.1.1, ha.1.2, Ltp, Mt2⟩
  subst eh2
  rcases Nat.lt_or_ge RS.length 6 with h6 | h6
  · have hRI0 : RI cd sx cl sg RS.length 0 [] := ⟨⟨Fr.2.1, Fr.2.2.1, Lcl, Lsg⟩, ⟨Fr.2.2.2.1, Fr.2.2.2.1⟩, fun j hj => absurd hj (Nat.not_lt_zero j)⟩
    obtain ⟨Q, hQ⟩ : ∃ Q, N = Q + 1 := ⟨N - 1, by omega⟩
    have V := r_all (N := N) (h := h) (T := T) (r := RS.length) (cl0 := cl) (sg0 := sg) (n := n) (f := f) (m1 := nI RS.length) (m10 := m10) (m11 := m11) (m12 := m12) (m13 := m13) (m14 := m14) (m15 := m15) (dx := dx) (lg := lg) (cs := cs) (rd := rd) (sk := sk) (wd := wd) (sd := sd) (th := th) (fa := fa) (ws := ws) (kp := kp) (li := li) (pr := pr) (hb := hb) (fi := fi) (st := st) (im := im) (jf := jf) (jx := jx) (mk := mk) hmz (by omega) h6 Llg ht Lcs 12 0 (by omega) Q (by omega) 0 0 0 0 cd sx cl sg op [] m4 m7 m9 (Nat.zero_le _) (Nat.zero_le _) rfl (by omega) hRI0 rfl (Nat.le_refl 0) Lop ⟨Lcl, fun _ _ => rfl⟩ ⟨Lsg, fun _ _ => rfl⟩
    rw [← hQ] at V
    have csq : ∀ y : Int32, (cs.set RS.length y).length = 6 := fun y => by rw [List.length_set]; exact Lcs
    have lgq : ∀ y : Int32, (lg.set RS.length y).length = 7 := fun y => by rw [List.length_set]; exact Llg
    rcases V with ⟨p, R, l, k, cd1, sx1, cl1, sg1, op1, z2, z4, z6, z7, z8, z9, v1, v2, v3, v4, v5, v6, v7, v8, v9⟩ | ⟨Fa9, H, z2, z4, z6, z7, z8, z9, zl, zc, cl1, op1, sg1, v1, v2, v3, v4, v5, v6, v7⟩
    · have hlen : (RS ++ [R]).length = RS.length + 1 := by simp
      refine ⟨nI RS.length, [], a, fo, x, RS ++ [R], US, I, cr_ok hc0 ha hfr (by omega) h6 C13 C14 v1 v2 v3 v8, ⟨_, M_r1 h6 Llg Lcs v9, ?_, rfl, fun p hp => ?_⟩, ?_⟩
      · refine ⟨n, f, _, dx, tp, _, _, _, _, rd, _, sk, wd, sd, th, fa, ws, kp, li, pr, hb, fi, st, im, jf, jx, mk, rfl, ⟨rfl, Ltp, v6.1, lgq _, v5.1, csq _, Lrd, v7, Lsk, Lwd, Lth, Lfa⟩, ⟨Lws, Lkp, Lli, Lpr, Lhb, Lfi, Lst, Lim, Ljf, Ljx, Lmk⟩, ⟨rfl, fun i hi => absurd hi (Nat.not_lt_zero i)⟩, ⟨by rw [hlen]; rfl, fun j hj => ?_⟩, ⟨M13, M14, Msd⟩, ⟨M15, Mws⟩, MI⟩
        rw [hlen] at hj
        by_cases c : j < RS.length
        · rw [gdS_l c]
          exact ru_M_fr c v5.2 v6.2 (pv_ne (by omega)) (Mr2 j c)
        · have ej : j = RS.length := by omega
          subst ej
          rw [gdS_e]
          exact RI_M v1 v2 v3 (pv_eq (by omega))
      · rw [pm_out2 hp, pm_out2 hp]
      · obtain ⟨ha1, ha2, ha3, ha4, ha5, ha6⟩ := ha
        refine ⟨⟨Nat.zero_le _, fun i hi => absurd hi (Nat.not_lt_zero i)⟩, ha2, by rw [hlen]; omega, ?_, ha5, fun q s f y hI => ?_⟩
        · rcases ha4 with e | ⟨w, w1, w2⟩
          · exact Or.inl e
          · exact Or.inr ⟨w, by rw [hlen]; omega, w2⟩
        · obtain ⟨s1, s2, s3⟩ := ha6 q s f y hI
          refine ⟨s1, ?_, s3⟩
          rcases s2 with e | ⟨w, w1, w2⟩
          · exact Or.inl e
          · exact Or.inr ⟨w, by rw [hlen]; omega, w2⟩
    · refine ⟨-nI 2 - nI Fa9, [], a, fo, x, RS, US, I, cr_bad hc0 ha hfr (by omega) h6 C13 C14 v1 v2 v6, ⟨_, M_r0 h6 Llg Lcs v7, ?_, rfl, fun p hp => ?_⟩, ?_⟩
      · exact ⟨n, f, _, dx, tp, _, _, _, _, rd, _, sk, wd, sd, th, fa, ws, kp, li, pr, hb, fi, st, im, jf, jx, mk, rfl, ⟨rfl, Ltp, v4.1, lgq _, v3.1, csq _, Lrd, v5, Lsk, Lwd, Lth, Lfa⟩, ⟨Lws, Lkp, Lli, Lpr, Lhb, Lfi, Lst, Lim, Ljf, Ljx, Lmk⟩, ⟨rfl, fun i hi => absurd hi (Nat.not_lt_zero i)⟩, ⟨rfl, fun j hj => ru_M_fr hj v3.2 v4.2 (pv_ne (by omega)) (Mr2 j hj)⟩, ⟨M13, M14, Msd⟩, ⟨M15, Mws⟩, MI⟩
      · rw [pm_out2 hp, pm_out2 hp]
      · exact ⟨⟨Nat.zero_le _, fun i hi => absurd hi (Nat.not_lt_zero i)⟩, ha.2⟩
  · have e6 : RS.length = 6 := by omega
    have lt6 : (nI 6 < nI 6) = False := eq_false (nI_nlt (Nat.le_refl 6) (by omega))
    refine jo_no hc0 hm0 ha (r := -nI 1) ?_ ?_
    · rw [e6] at rc0
      unfold mm_S_rule
      simp only [pb_l2, pb_ll, nI_add, pb_mul, if_true, if_false, pb_bs, pb_b2n, pb_bz0, pb_bz1, pb_10, pb_01, i0, rc0, g03, len15, lt6]
    · rw [e6]
      exact M_r6
