/-! ===== valley on both sides ===== -/
theorem cv_ok {N : Nat} {h : ss_Hp} {T : List Nat} {a : List Int32} {fo x : Int32} {RS : List (List ru_C)} {US : List (List Int32)} {I : Nat → Option (List Int32 × Int32 × Int32)} {rd nds : List Int32} {k m p : Nat} (hc : cl_h h T a fo x RS US I) (ha : as_ok T a fo x RS US I) (hN : 500 < N) (hp : p ≤ T.length) (hI : vI rd nds k m) (hl : ss_lp (mm_VR_readValley_b30 N (some 3)) N (nI 1, nI 0, vK0 h 12 T 0) = some (vK h 12 T rd nds p)) : cl_run (mm_S_valley N (some 0) h) h (pv rd 2) [] (sa_first (vB rd)) fo x RS [] I := by
  obtain ⟨n, g, rc, ti, tb, vt, ri, cd, sx, rl, wi, wv, gi, gs, gw, nd, ns, nw, il, ai, yv, yr, yi, ys, yw, yt, yh, yf, yo, yk, fr, fg, pl, pc, pg, eh, F⟩ := hc
  have F0 := F
  obtain ⟨Fn, Frc, Ft, Fr, Fl, ⟨Fw, ⟨vv, Fv, Fq⟩, Fg, Fs, Fwl, Fno⟩, Fi, ⟨nx, Fa, Fu⟩, Fy, Ff⟩ := F
  have evv : vv = 25 := Option.some.inj (Fv.symm.trans Fr.2.2.2.2.2.1)
  subst evv
  have hn : 142 ≤ h.1 := by rw [eh]; exact Fn
  obtain ⟨t0, t1, t2, t3, t4, ht5⟩ := list5 Ft.1
  have et0 : t0 = nI T.length := by have := Ft.2.1; rw [ht5] at this; exact this
  have C0 : h.2 0 = (11, [nI RS.length], [], [some 1, some 3, some 20, some 23, some 24, some 39, some 40, some 102, some 111, some 114]) := by rw [eh, ← Frc]; exact pk_c0
  have C1 : h.2 1 = (2, [nI T.length, t1, t2, t3, t4], [], [some 2]) := by rw [eh, ← et0, ← ht5]; exact pk_c1
  have C2 : h.2 2 = (20, tb, [], []) := by rw [eh]; exact pk_c2
  have C3 : h.2 3 = (6, [], [], [some 1, some 4, some 12]) := by rw [eh, ← Fr.2.2.2.2.1]; exact pk_c3
  have hx : fx_R h.2 (some 12) (some 25) yv := by
    have e := fx_R_of (g' := h.2) (fun p p1 p2 => by rw [eh, pk_out (by unfold pk_fr; omega)]) Fr.2.2.2.2
    rw [Fr.2.2.2.2.1, Fv] at e
    exact e
  have ht := ct_tz ha.1 C2 Ft
  have rdv := cv_read1 ht C1 C3 hx hN hl
  obtain ⟨⟨l0, ⟨k1, k2⟩, m1, m2⟩, ⟨⟨f0, f1, f2, f3⟩, ff⟩, be, ow, st, sn, wa, ndd, nR⟩ := id hI
  obtain ⟨k5, eq5⟩ : ∃ k5, k5 = (tH (wH h 12 (nI 1) (pv rd 0) (pv rd 1) (pv rd 2) (pv rd 3) [pv rd 38, pv rd 40, pv rd 42, pv rd 44] [pv rd 39, pv rd 41, pv rd 43, pv rd 45] (sl rd 30 8) nds (sl rd 46 8) (sl rd 54 8)) (nI 0) (nI 0) (nI (tk T (blk T p))) (nI (blk T p)) (nI (en T (blk T p)))) := ⟨_, rfl⟩
  have D0 : (vK h 12 T rd nds p).2 0 = (11, [nI RS.length], [], [some 1, some 3, some 20, some 23, some 24, some 39, some 40, some 102, some 111, some 114]) := (wh_g (by omega) (by omega)).trans C0
  have e4 : ss_gr (vK h 12 T rd nds p) (some 0) 11 0 = some (some 1) := pb_gr D0 0
  have e5 : ss_pi (vK h 12 T rd nds p) (some 1) 2 0 (nI 0) = some k5 := by rw [eq5]; exact tH_p0
  have A5 : k5.1 = h.1 := by rw [eq5]; rfl
  have G5 : ∀ p, p ≠ 1 → p < 12 ∨ 20 ≤ p → k5.2 p = h.2 p := fun p p1 hp => by rw [eq5]; exact wh_g p1 hp
  have c1 : k5.2 1 = (2, [nI 0, nI 0, nI (tk T (blk T p)), nI (blk T p), nI (en T (blk T p))], [], [some 2]) := by rw [eq5]; exact tH_1
  have VV : bv_R k5.2 12 [nI 1, pv rd 0, pv rd 1, pv rd 2, pv rd 3] [pv rd 38, pv rd 40, pv rd 42, pv rd 44] [pv rd 39, pv rd 41, pv rd 43, pv rd 45] (sl rd 30 8) nds (sl rd 46 8) (sl rd 54 8) := by rw [eq5]; exact wh_bv
  clear eq5
  have c0 : k5.2 0 = (11, [nI RS.length], [], [some 1, some 3, some 20, some 23, some 24, some 39, some 40, some 102, some 111, some 114]) := (G5 0 (by omega) (by omega)).trans C0
  have c3 : k5.2 3 = (6, [], [], [some 1, some 4, some 12]) := (G5 3 (by omega) (by omega)).trans C3
  have c24 : k5.2 24 = (8, [fo, x, pv a 123], [], [some 25, some 33, some 36, some 37, some 38]) := by rw [G5 24 (by omega) (by omega), eh, ← Fw, ← Fv]; exact pk_c24
  have c33 : k5.2 33 = (0, gi, [], [some 34, some 35]) := by rw [G5 33 (by omega) (by omega), eh]; exact pk_c33
  have c34 : k5.2 34 = (20, gs, [], []) := by rw [G5 34 (by omega) (by omega), eh]; exact pk_c34
  have c35 : k5.2 35 = (20, gw, [], []) := by rw [G5 35 (by omega) (by omega), eh]; exact pk_c35
  have c40 : k5.2 40 = (3, [nI nx, nI US.length], [], [some 41]) := by rw [G5 40 (by omega) (by omega), eh, ← Fa]; exact pk_c40
  obtain ⟨nds1, wa1, Q1, Q2⟩ := qv_bv Fq
  have Q1 := bv_R_fr (g' := k5.2) (fun i hi => by rw [G5 (25 + i) (by omega) (by omega), eh, pk_out (by unfold pk_fr; omega)]) Q1
  obtain ⟨k6, E6, A6, W6, B6⟩ := va_copy (N := N) Q1 VV (vd_L Q2) (vI_L hI) (Or.inr rfl) (by omega)
  have d24 : k6.2 24 = (8, [fo, x, pv a 123], [], [some 25, some 33, some 36, some 37, some 38]) := (B6 24 (by omega)).trans c24
  have V5 := (B6 (12 + 5) (by omega)).trans VV.2.2.2.2.2.1
  have V6 := (B6 (12 + 6) (by omega)).trans VV.2.2.2.2.2.2.1
  have V7 := (B6 (12 + 7) (by omega)).trans VV.2.2.2.2.2.2.2
  obtain ⟨k7, E7, A7, B7⟩ : ∃ k7, mm_G_copyFrom N (some 33) (some (12 + 5)) k6 = some k7 ∧ k7.1 = k6.1 ∧ ∀ y, k7.2 y = if y = 33 then (0, [nI 0, nI 0, nI 0, nI 0], [], [some 34, some 35]) else if y = 35 then (20, sl rd 54 8, [], []) else if y = 34 then (20, sl rd 46 8, [], []) else k6.2 y := ⟨_, pb_copy (N := N) ((B6 33 (by omega)).trans c33) ((B6 34 (by omega)).trans c34) ((B6 35 (by omega)).trans c35) V5 V6 V7 (by rw [Fg]; rfl) (sl_len _ _ _) (sl_len _ _ _) (by rw [Fs]; exact sl_len _ _ _) Fwl.1 (by omega) (by omega) (by omega), rfl, fun _ => rfl⟩
  have R7 : ∀ y, y ≠ 33 → y ≠ 34 → y ≠ 35 → k7.2 y = k6.2 y := fun y a b c => by rw [B7, if_neg a, if_neg c, if_neg b]
  obtain ⟨k8, E8, A8, B8⟩ : ∃ k8, ss_pi k7 (some 24) 8 2 (nI 0) = some k8 ∧ k8.1 = k7.1 ∧ ∀ y, k8.2 y = if y = 24 then (8, [fo, x, nI 0], [], [some 25, some 33, some 36, some 37, some 38]) else k7.2 y := ⟨_, pb_pi ((R7 24 (by omega) (by omega) (by omega)).trans d24) (by simp) (nI 0), rfl, fun _ => rfl⟩
  have R8 : ∀ y, y ≠ 24 → y ≠ 33 → y ≠ 34 → y ≠ 35 → k8.2 y = k6.2 y := fun y a b c d => by rw [B8, if_neg a, R7 y b c d]
  have k840 : k8.2 40 = (3, [nI nx, nI US.length], [], [some 41]) := (R8 40 (by omega) (by omega) (by omega) (by omega)).trans ((B6 40 (by omega)).trans c40)
  obtain ⟨k9, E9, A9, B9⟩ : ∃ k9, ss_pi k8 (some 40) 3 1 (nI 0) = some k9 ∧ k9.1 = k8.1 ∧ ∀ y, k9.2 y = if y = 40 then (3, [nI nx, nI 0], [], [some 41]) else k8.2 y := ⟨_, pb_pi k840 (by simp) (nI 0), rfl, fun _ => rfl⟩
  have R9 : ∀ y, y ≠ 24 → y ≠ 33 → y ≠ 34 → y ≠ 35 → y ≠ 40 → k9.2 y = k6.2 y := fun y a b c d e => by rw [B9, if_neg e, R8 y a b c d]
  have R5 : ∀ y, y ≠ 24 → (y < 25 ∨ 36 ≤ y) → y ≠ 40 → k9.2 y = k5.2 y := fun y a b e => by rw [R9 y a (by omega) (by omega) (by omega) e, B6 y (by omega)]
  have n9 : k9.1 = h.1 := by omega
  have G9 : ∀ p, p ≠ 1 → p ≠ 24 → p ≠ 40 → p < 12 ∨ 20 ≤ p → p < 25 ∨ 36 ≤ p → k9.2 p = h.2 p := fun p p1 p2 p3 p4 p5 => by rw [R5 p p2 p5 p3, G5 p p1 p4]
  have s1 : sl (sa_first (vB rd)) 14 8 = sl rd 46 8 := pv_ext (by rw [sl_len, sl_len]) (fun i hi => by
    rw [sl_len] at hi
    rw [sl_pv hi, sl_pv hi, vA_m (by omega)])
  have s2 : sl rd 54 8 = sl (sa_first (vB rd)) 22 8 := pv_ext (by rw [sl_len, sl_len]) (fun i hi => by
    rw [sl_len] at hi
    rw [sl_pv hi, sl_pv hi, show 22 + i = 14 + (8 + i) by omega, vA_m (by omega)]
    congr 1
    omega)
  have a0 : pv (sa_first (vB rd)) 0 = pv rd 0 := vA_lo (by omega)
  refine ⟨k9, ?_, ?_, fun p hp => G9 p (by omega) (by omega) (by omega) (by omega) (by omega), fun f p hp => ?_⟩
  · have i0 : ss_is h (some 0) 11 = true := pb_is C0
    have g1 : ss_gr h (some 0) 11 1 = some (some 3) := pb_gr C0 1
    have g2 : ss_gr k5 (some 0) 11 4 = some (some 24) := pb_gr c0 4
    have i24 : ss_is k5 (some 24) 8 = true := pb_is c24
    have g0 : ss_gr k5 (some 24) 8 0 = some (some 25) := pb_gr c24 0
    have g3 : ss_gr k6 (some 24) 8 1 = some (some 33) := pb_gr d24 1
    have g4 : ss_gr k6 (some 12) 5 4 = some (some (12 + 5)) := pb_gr ((B6 12 (by omega)).trans VV.1) 4
    have g5 : ss_gr k8 (some 0) 11 6 = some (some 40) := pb_gr ((R8 0 (by omega) (by omega) (by omega) (by omega)).trans ((B6 0 (by omega)).trans c0)) 6
    have i40 : ss_is k8 (some 40) 3 = true := pb_is k840
    have g6 : ss_gi k9 (some 12) 5 3 = some (pv rd 2) := pb_gi ((R5 12 (by omega) (by omega) (by omega)).trans VV.1) 3
    unfold mm_S_valley mm_Wo_settle mm_A_forget
    simp only [pb_l2, pb_ll, nI_add, pb_mul, if_true, if_false, pb_bs, pb_b2n, pb_bz0, pb_bz1, pb_10, pb_01, i0, g1, rdv, e4, e5, Option.isSome_some, g2, i24, g0, E6, g3, g4, E7, E8, g5, i40, E9, g6]
  · refine cl_gen (nx' := nx) (v' := 25) (vt' := some 12) (rl' := rl) (gw' := sl rd 54 8) eh F0 (by omega) ((R5 0 (by omega) (by omega) (by omega)).trans c0) ((R5 1 (by omega) (by omega) (by omega)).trans c1) ((R5 3 (by omega) (by omega) (by omega)).trans c3) ?_ ?_ ?_ ?_ ?_ ?_ ?_ ?_ ?_ ?_ (fun p hp h99 => G9 p (by omega) (by omega) (by omega) (by omega) (by omega)) (ct_nil Ft.2.2.1) ⟨Fr.1, Fr.2.1, Fr.2.2.1, Fr.2.2.2.1, rfl, rfl, Fr.2.2.2.2.2.2.1, bv_R_fr (fun i hi => G9 _ (by omega) (by omega) (by omega) (by omega) (by omega)) hx.2.2.2.1, _, _, _, _, _, _, _, vI_L hI, bv_R_fr (fun i hi => R5 _ (by omega) (by omega) (by omega)) VV⟩ (ql_R_fx (fun p hp _ => by rw [G9 p (by omega) (by omega) (by omega) (by omega) (by omega), eh, pk_out (by unfold pk_fr; omega)]) Fl) ?_ ⟨sl_len _ _ _, fun _ => s2⟩ ⟨Fno.1, Fno.2.1, Fno.2.2.1, fun q hq h123 i hi => ?_⟩ ?_
    · rw [G9 20 (by omega) (by omega) (by omega) (by omega) (by omega), eh]; exact pk_c20
    · rw [G9 21 (by omega) (by omega) (by omega) (by omega) (by omega), eh]; exact pk_c21
    · rw [G9 22 (by omega) (by omega) (by omega) (by omega) (by omega), eh]; exact pk_c22
    · rw [G9 23 (by omega) (by omega) (by omega) (by omega) (by omega), eh]; exact pk_c23
    · rw [B9, if_neg (by omega), B8, if_pos rfl, vA_z (by omega)]
    · rw [B9, if_neg (by omega), B8, if_neg (by omega), B7, if_pos rfl, vA_z (by omega), vA_z (by omega), vA_z (by omega), vA_z (by omega)]
    · rw [B9, if_neg (by omega), B8, if_neg (by omega), B7, if_neg (by omega), if_neg (by omega), if_pos rfl, s1]
    · rw [B9, if_neg (by omega), B8, if_neg (by omega), B7, if_neg (by omega), if_pos rfl]
    · rw [B9, if_pos rfl]; rfl
    · intro p hp p0 p1 p3 p20 p21 p22 p23 p24 p33 p34 p35 p40 pa pb
      exact G9 p (by omega) (by omega) (by omega) (by omega) (by omega)
    · obtain ⟨w0, w1, w2, w3, w4, w5, w6, w7⟩ := W6
      have r9 : ∀ j, j < 8 → k9.2 (25 + j) = k6.2 (25 + j) := fun j hj => R9 _ (by omega) (by omega) (by omega) (by omega) (by omega)
      have r0 : k9.2 25 = k6.2 25 := r9 0 (by omega)
      refine ⟨⟨Or.inl rfl, nI 1, nds, ?_, ?_, ?_, ?_, ?_⟩, ?_, ?_, ?_, ?_, sl rd 54 8, sl_len _ _ _, ?_, fun _ => ?_⟩
      · rw [r0, w0, a0, vA_lo (by omega), vA_lo (by omega), vA_lo (by omega)]
      · rw [r9 1 (by omega), w1, vA_hi (by omega) (by omega), vA_hi (by omega) (by omega), vA_hi (by omega) (by omega), vA_hi (by omega) (by omega)]
      · rw [r9 3 (by omega), w3, sl_of (b := sa_first (vB rd)) (a := rd) (fun i hi => vA_hi (by omega) (by omega))]
      · rw [r9 4 (by omega), w4]
      · exact vI_nd nR (fun d hd => vA_hi (by omega) (by omega))
      · rw [r0, w0]
        unfold sa_told
        rw [a0, f3, if_neg (nI_ge f1 (by omega))]
        rfl
      · rw [r9 2 (by omega), w2, vA_hi (by omega) (by omega), vA_hi (by omega) (by omega), vA_hi (by omega) (by omega), vA_hi (by omega) (by omega)]
      · rw [r9 5 (by omega), w5]
      · rw [r9 6 (by omega), w6, sl_of (b := sa_first (vB rd)) (a := rd) (fun i hi => vA_hi (by omega) (by omega))]
      · rw [r9 7 (by omega), w7]
      · exact (sl_of (b := sa_first (vB rd)) (a := rd) (fun i hi => vA_hi (by omega) (by omega))).symm
    · rw [vA_z (by omega)] at h123
      have := (nI_eq (by omega) (by omega)).mp h123
      omega
    · have hu : qu_R k9.2 nx US := qu_R_x (fun p p1 p2 => by rw [G9 p (by omega) (by omega) (by omega) (by omega) (by omega), eh, pk_out (by unfold pk_fr; omega)]) Fu
      exact ⟨hu.1, hu.2.1, fun j hj => absurd hj (Nat.not_lt_zero j)⟩
  · rw [n9] at hp
    rw [G9 p (by omega) (by omega) (by omega) (by omega) (by omega)]
    exact f p hp
theorem jx_valley {N : Nat} {h h2 : ss_Hp} {T : List Nat} {a : List Int32} {fo x : Int32} {RS : List (List ru_C)} {US : List (List Int32)} {I : Nat → Option (List Int32 × Int32 × Int32)} (hc : cl_h h T a fo x RS US I) (hm : mo_h h2 T a fo x RS US I) (ha : as_ok T a fo x RS US I) (hN : 5000 < N) (hN2 : 100000 < N) (hfr : fr_h h) : jo (mm_S_valley N (some 0) h) (mm_M_valley N (some 118) h2) h h2 := by
  have hc0 := hc
  obtain ⟨n, g, rc, ti, tb, vt, ri, cd, sx, rl, wi, wv, gi, gs, gw, nd, ns, nw, il, ai, yv, yr, yi, ys, yw, yt, yh, yf, yo, yk, fr, fg, pl, pc, pg, eh, F⟩ := hc
  have F0 := F
  obtain ⟨Fn, Frc, Ft, Fr, Fl, ⟨Fw, ⟨vv, Fv, Fq⟩, Fg, Fs, Fwl, Fno⟩, Fi, ⟨nx, Fa, Fu⟩, Fy, Ff⟩ := F
  have evv : vv = 25 := Option.some.inj (Fv.symm.trans Fr.2.2.2.2.2.1)
  subst evv
  have hn : 142 ≤ h.1 := by rw [eh]; exact Fn
  obtain ⟨t0, t1, t2, t3, t4, ht5⟩ := list5 Ft.1
  have et0 : t0 = nI T.length := by have := Ft.2.1; rw [ht5] at this; exact this
  have C0 : h.2 0 = (11, [nI RS.length], [], [some 1, some 3, some 20, some 23, some 24, some 39, some 40, some 102, some 111, some 114]) := by rw [eh, ← Frc]; exact pk_c0
  have C1 : h.2 1 = (2, [nI T.length, t1, t2, t3, t4], [], [some 2]) := by rw [eh, ← et0, ← ht5]; exact pk_c1
  have C2 : h.2 2 = (20, tb, [], []) := by rw [eh]; exact pk_c2
  have C3 : h.2 3 = (6, [], [], [some 1, some 4, some 12]) := by rw [eh, ← Fr.2.2.2.2.1]; exact pk_c3
  have hx : fx_R h.2 (some 12) (some 25) yv := by
    have e := fx_R_of (g' := h.2) (fun p p1 p2 => by rw [eh, pk_out (by unfold pk_fr; omega)]) Fr.2.2.2.2
    rw [Fr.2.2.2.2.1, Fv] at e
    exact e
  have ht := ct_tz ha.1 C2 Ft
  obtain ⟨n, f, mi, dx, tp, sg, lg, cl, cs, rd, op, sk, wd, sd, th, fa, ws, kp, li, pr, hb, fi, st, im, jf, jx, mk, eh2, ⟨Lmi, Ltp, Lsg, Llg, Lcl, Lcs, Lrd, Lop, Lsk, Lwd, Lth, Lfa⟩, ⟨Lws, Lkp, Lli, Lpr, Lhb, Lfi, Lst, Lim, Ljf, Ljx, Lmk⟩, ⟨Mt1, Mt2⟩, ⟨Mr1, Mr2⟩, ⟨M13, M14, Msd⟩, ⟨M15, Mws⟩, MI⟩ := hm
  obtain ⟨k0, m0', d0, Hsd, Hul, Hu⟩ := ha.2.1
  have Lsd : sd.length = 124 := by rw [Msd]; exact Hsd.1.1
  obtain ⟨m0, m1, m2, m3, m4, m5, m6, m7, m8, m9, m10, m11, m12, m13, m14, m15, emi⟩ := list16 Lmi
  subst emi
  have e0 : m0 = nI T.length := Mt1
  subst e0
  have hmz : mz tp T := ⟨ha.1.1, ha.1.2, Ltp, Mt2⟩
  subst eh2
  have V := ve_whole (N := N) (hc := h) (v := 12) (T := T) (n := n) (f := f) (m1 := m1) (m4 := m4) (m6 := nI 0) (m7 := m7) (m9 := m9) (m10 := m10) (m11 := m11) (m12 := m12) (m13 := m13) (m14 := m14) (m15 := m15) (dx := dx) (sg := sg) (lg := lg.set 6 (nI 0)) (cl := cl) (cs := cs) (op := op) (sk := sk) (wd := wd) (sd := sd) (th := th) (fa := fa) (ws := ws) (kp := kp) (li := li) (pr := pr) (hb := hb) (fi := fi) (st := st) (im := im) (jf := jf) (jx := jx) (mk := mk) hmz ht C3 (Nat.le_refl 12) (by omega)
  have hl1 : ∀ l : List Int32, l.length = 7 → (l.set 6 (nI 0)).length = 7 := fun l q => by rw [List.length_set]; exact q
  rcases V with ⟨p, rd2, nds, kk, mm, z2, z4, z8, z10, z11, v1, v2, v3, v4⟩ | ⟨q, w, J0, J1, J2, J3, J4, own, str, bes, nds, sn, wa, z2, z4, z8, z10, z11, rd2, v1, v2, v3, v4, v5⟩
  · refine ⟨pv rd2 2, [], sa_first (vB rd2), fo, x, RS, [], I, cv_ok hc0 ha (by omega) v1 v2 v3, ⟨_, M_v1 Llg Lrd v2.1.1 Lsd (by omega) v4, ?_, rfl, fun p hp => ?_⟩, ?_⟩
    · refine ⟨n, f, _, dx, tp, sg, _, cl, cs, _, op, sk, wd, _, th, fa, ws, kp, li, pr, hb, fi, st, im, jf, jx, mk, rfl, ⟨rfl, Ltp, Lsg, hl1 _ Llg, Lcl, Lcs, v2.1.1, Lop, Lsk, Lwd, Lth, Lfa⟩, ⟨Lws, Lkp, Lli, Lpr, Lhb, Lfi, Lst, Lim, Ljf, Ljx, Lmk⟩, ⟨rfl, fun i hi => absurd hi (Nat.not_lt_zero i)⟩, ⟨Mr1, Mr2⟩, ⟨M13, M14, rfl⟩, ⟨rfl, fun j hj => absurd hj (Nat.not_lt_zero j)⟩, MI⟩
    · rw [pm_out2 hp, pm_out2 hp]
    · exact ⟨⟨Nat.zero_le _, fun i hi => absurd hi (Nat.not_lt_zero i)⟩, ⟨kk, mm, 0, vA_ok v2, Nat.zero_le _, fun j hj => absurd hj (Nat.not_lt_zero j)⟩, ha.2.2⟩
  · refine ⟨-nI 2 - nI (1 + 8 * blk T q + w), [], a, fo, x, RS, US, I, cv_bad hc0 ha (by omega) v1 v2 v3.2 v4, ⟨_, M_v0 Llg Lrd (by omega) v5, ?_, rfl, fun p hp => ?_⟩, ?_⟩
    · refine ⟨n, f, _, dx, tp, sg, _, cl, cs, _, op, sk, wd, _, th, fa, ws, kp, li, pr, hb, fi, st, im, jf, jx, mk, rfl, ⟨rfl, Ltp, Lsg, hl1 _ Llg, Lcl, Lcs, v3.1, Lop, Lsk, Lwd, Lth, Lfa⟩, ⟨Lws, Lkp, Lli, Lpr, Lhb, Lfi, Lst, Lim, Ljf, Ljx, Lmk⟩, ⟨rfl, fun i hi => absurd hi (Nat.not_lt_zero i)⟩, ⟨Mr1, Mr2⟩, ⟨M13, M14, Msd⟩, ⟨M15, Mws⟩, MI⟩
    · rw [pm_out2 hp, pm_out2 hp]
    · exact ⟨⟨Nat.zero_le _, fun i hi => absurd hi (Nat.not_lt_zero i)⟩, ha.2⟩
