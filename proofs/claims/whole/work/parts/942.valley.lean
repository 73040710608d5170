/-! ===== valley on both sides ===== -/
theorem cv_ok {N : Nat} {h : ss_Hp} {T : List Nat} {a : List Int32} {fo x : Int32} {RS : List (List ru_C)} {US : List (List Int32)} {I : Nat → Option (List Int32 × Int32 × Int32)} {rd nds : List Int32} {k m p : Nat} (hc : cl_h h T a fo x RS US I) (ha : as_ok T a fo x RS US I) (hfr : fr_h h) (hN : 500 < N) (hp : p ≤ T.length) (hI : vI rd nds k m) (hl : ss_lp (mm_VR_readValley_b30 N (some 3)) N (nI 1, nI 0, vK0 (hv0 h) h.1 T 0) = some (vK (hv0 h) h.1 T rd nds p)) : cl_run (mm_S_valley N (some 0) h) h (pv rd 2) [] (sa_first (vB rd)) fo x RS [] I := by
  obtain ⟨n, g, rc, ti, tb, vt, ri, cd, sx, rl, wi, wv, gi, gs, gw, nd, ns, nw, il, ai, yv, yr, yi, ys, yw, yt, yh, yf, yo, yk, fr, fg, pl, pc, pg, eh, F⟩ := hc
  have F0 := F
  obtain ⟨Fn, Frc, Ft, Fr, Fl, ⟨Fw, ⟨vv, Fv, Fq⟩, Fg, Fs, Fwl, Fno⟩, Fi, ⟨nx, Fa, Fu⟩, Fy, Ff⟩ := F
  have hn : 134 ≤ h.1 := by rw [eh]; exact Fn
  obtain ⟨t0, t1, t2, t3, t4, ht5⟩ := list5 Ft.1
  have et0 : t0 = nI T.length := by have := Ft.2.1; rw [ht5] at this; exact this
  have C0 : h.2 0 = (11, [nI RS.length], [], [some 1, some 3, some 12, some 15, some 16, some 31, some 32, some 94, some 103, some 106]) := by rw [eh, ← Frc]; exact pk_c0
  have C1 : h.2 1 = (2, [nI T.length, t1, t2, t3, t4], [], [some 2]) := by rw [eh, ← et0, ← ht5]; exact pk_c1
  have C2 : h.2 2 = (20, tb, [], []) := by rw [eh]; exact pk_c2
  have C3 : h.2 3 = (6, [], [], [some 1, vt]) := by rw [eh]; exact pk_c3
  have ht := ct_tz ha.1 C2 Ft
  have rdv := cv_read1 ht hn C1 C3 hN hl
  obtain ⟨⟨l0, ⟨k1, k2⟩, m1, m2⟩, ⟨⟨f0, f1, f2, f3⟩, ff⟩, be, ow, st, sn, wa, ndd, nR⟩ := id hI
  obtain ⟨k5, eq5⟩ : ∃ k5, k5 = (tH (wH (hv0 h) h.1 (nI 1) (pv rd 0) (pv rd 1) (pv rd 2) (pv rd 3) [pv rd 38, pv rd 40, pv rd 42, pv rd 44] [pv rd 39, pv rd 41, pv rd 43, pv rd 45] (sl rd 30 8) nds (sl rd 46 8) (sl rd 54 8)) (nI 0) (nI 0) (nI (tk T (blk T p))) (nI (blk T p)) (nI (en T (blk T p)))) := ⟨_, rfl⟩
  have D0 : (vK (hv0 h) h.1 T rd nds p).2 0 = (11, [nI RS.length], [], [some 1, some 3, some 12, some 15, some 16, some 31, some 32, some 94, some 103, some 106]) := (hv0_g (by omega) (by omega) (by omega)).trans C0
  have e4 : ss_gr (vK (hv0 h) h.1 T rd nds p) (some 0) 11 0 = some (some 1) := pb_gr D0 0
  have e5 : ss_pi (vK (hv0 h) h.1 T rd nds p) (some 1) 2 0 (nI 0) = some k5 := by rw [eq5]; exact tH_p0
  have A5 : k5.1 = h.1 + 8 := by rw [eq5]; rfl
  have G5 : ∀ p, p ≠ 1 → p ≠ 3 → p < h.1 ∨ h.1 + 7 < p → k5.2 p = h.2 p := fun p p1 p3 hp => by rw [eq5]; exact hv0_g p1 p3 hp
  have c1 : k5.2 1 = (2, [nI 0, nI 0, nI (tk T (blk T p)), nI (blk T p), nI (en T (blk T p))], [], [some 2]) := by rw [eq5]; exact tH_1
  have c3 : k5.2 3 = (6, [], [], [some 1, some h.1]) := by rw [eq5]; exact (tH_o (by omega)).trans ((wH_o (by omega)).trans hv0_3)
  have V0 : k5.2 h.1 = (5, [nI 1, pv rd 0, pv rd 1, pv rd 2, pv rd 3], [], [some (h.1 + 1), some (h.1 + 2), some (h.1 + 3), some (h.1 + 4), some (h.1 + 5)]) := by rw [eq5]; exact tw_o (by omega) wH_0
  have V1 : k5.2 (h.1 + 1) = (20, [pv rd 38, pv rd 40, pv rd 42, pv rd 44], [], []) := by rw [eq5]; exact tw_o (by omega) wH_1
  have V2 : k5.2 (h.1 + 2) = (20, [pv rd 39, pv rd 41, pv rd 43, pv rd 45], [], []) := by rw [eq5]; exact tw_o (by omega) wH_2
  have V3 : k5.2 (h.1 + 3) = (20, sl rd 30 8, [], []) := by rw [eq5]; exact tw_o (by omega) wH_3
  have V4 : k5.2 (h.1 + 4) = (20, nds, [], []) := by rw [eq5]; exact tw_o (by omega) wH_4
  have V5 : k5.2 (h.1 + 5) = (0, [nI 0, nI 0, nI 0, nI 0], [], [some (h.1 + 6), some (h.1 + 7)]) := by rw [eq5]; exact tw_o (by omega) wH_5
  have V6 : k5.2 (h.1 + 6) = (20, sl rd 46 8, [], []) := by rw [eq5]; exact tw_o (by omega) wH_6
  have V7 : k5.2 (h.1 + 7) = (20, sl rd 54 8, [], []) := by rw [eq5]; exact tw_o (by omega) wH_7
  clear eq5
  have c0 : k5.2 0 = (11, [nI RS.length], [], [some 1, some 3, some 12, some 15, some 16, some 31, some 32, some 94, some 103, some 106]) := (G5 0 (by omega) (by omega) (by omega)).trans C0
  have c16 : k5.2 16 = (8, [fo, x, pv a 123], [], [some vv, some 25, some 28, some 29, some 30]) := by rw [G5 16 (by omega) (by omega) (by omega), eh, ← Fw, ← Fv]; exact pk_c16
  have c25 : k5.2 25 = (0, gi, [], [some 26, some 27]) := by rw [G5 25 (by omega) (by omega) (by omega), eh]; exact pk_c25
  have c26 : k5.2 26 = (20, gs, [], []) := by rw [G5 26 (by omega) (by omega) (by omega), eh]; exact pk_c26
  have c27 : k5.2 27 = (20, gw, [], []) := by rw [G5 27 (by omega) (by omega) (by omega), eh]; exact pk_c27
  have c32 : k5.2 32 = (3, [nI nx, nI US.length], [], [some 33]) := by rw [G5 32 (by omega) (by omega) (by omega), eh, ← Fa]; exact pk_c32
  obtain ⟨k6, E6, A6, B6⟩ : ∃ k6, ss_pr k5 (some 16) 8 0 (some h.1) = some k6 ∧ k6.1 = k5.1 ∧ ∀ y, k6.2 y = if y = 16 then (8, [fo, x, pv a 123], [], [some h.1, some 25, some 28, some 29, some 30]) else k5.2 y := ⟨_, pb_pr c16 (by simp) _, rfl, fun _ => rfl⟩
  have d16 : k6.2 16 = (8, [fo, x, pv a 123], [], [some h.1, some 25, some 28, some 29, some 30]) := by rw [B6, if_pos rfl]
  have R6 : ∀ y, y ≠ 16 → k6.2 y = k5.2 y := fun y hy => by rw [B6, if_neg hy]
  obtain ⟨k7, E7, A7, B7⟩ : ∃ k7, mm_G_copyFrom N (some 25) (some (h.1 + 5)) k6 = some k7 ∧ k7.1 = k6.1 ∧ ∀ y, k7.2 y = if y = 25 then (0, [nI 0, nI 0, nI 0, nI 0], [], [some 26, some 27]) else if y = 27 then (20, sl rd 54 8, [], []) else if y = 26 then (20, sl rd 46 8, [], []) else k6.2 y := ⟨_, pb_copy (N := N) ((R6 25 (by omega)).trans c25) ((R6 26 (by omega)).trans c26) ((R6 27 (by omega)).trans c27) ((R6 (h.1 + 5) (by omega)).trans V5) ((R6 (h.1 + 6) (by omega)).trans V6) ((R6 (h.1 + 7) (by omega)).trans V7) (by rw [Fg]; rfl) (sl_len _ _ _) (sl_len _ _ _) (by rw [Fs]; exact sl_len _ _ _) Fwl.1 (by omega) (by omega) (by omega), rfl, fun _ => rfl⟩
  have R7 : ∀ y, y ≠ 25 → y ≠ 26 → y ≠ 27 → k7.2 y = k6.2 y := fun y a b c => by rw [B7, if_neg a, if_neg c, if_neg b]
  obtain ⟨k8, E8, A8, B8⟩ : ∃ k8, ss_pi k7 (some 16) 8 2 (nI 0) = some k8 ∧ k8.1 = k7.1 ∧ ∀ y, k8.2 y = if y = 16 then (8, [fo, x, nI 0], [], [some h.1, some 25, some 28, some 29, some 30]) else k7.2 y := ⟨_, pb_pi ((R7 16 (by omega) (by omega) (by omega)).trans d16) (by simp) (nI 0), rfl, fun _ => rfl⟩
  have R8 : ∀ y, y ≠ 16 → y ≠ 25 → y ≠ 26 → y ≠ 27 → k8.2 y = k5.2 y := fun y a b c d => by rw [B8, if_neg a, R7 y b c d, R6 y a]
  obtain ⟨k9, E9, A9, B9⟩ : ∃ k9, ss_pi k8 (some 32) 3 1 (nI 0) = some k9 ∧ k9.1 = k8.1 ∧ ∀ y, k9.2 y = if y = 32 then (3, [nI nx, nI 0], [], [some 33]) else k8.2 y := ⟨_, pb_pi ((R8 32 (by omega) (by omega) (by omega) (by omega)).trans c32) (by simp) (nI 0), rfl, fun _ => rfl⟩
  have R9 : ∀ y, y ≠ 16 → y ≠ 25 → y ≠ 26 → y ≠ 27 → y ≠ 32 → k9.2 y = k5.2 y := fun y a b c d e => by rw [B9, if_neg e, R8 y a b c d]
  have n9 : k9.1 = h.1 + 8 := by omega
  have G9 : ∀ p, p ≠ 1 → p ≠ 3 → p ≠ 16 → p ≠ 25 → p ≠ 26 → p ≠ 27 → p ≠ 32 → p < h.1 ∨ h.1 + 7 < p → k9.2 p = h.2 p := fun p p1 p3 p16 p25 p26 p27 p32 hp => by rw [R9 p p16 p25 p26 p27 p32, G5 p p1 p3 hp]
  have s1 : sl (sa_first (vB rd)) 14 8 = sl rd 46 8 := pv_ext (by rw [sl_len, sl_len]) (fun i hi => by
    rw [sl_len] at hi
    rw [sl_pv hi, sl_pv hi, vA_m (by omega)])
  have s2 : sl rd 54 8 = sl (sa_first (vB rd)) 22 8 := pv_ext (by rw [sl_len, sl_len]) (fun i hi => by
    rw [sl_len] at hi
    rw [sl_pv hi, sl_pv hi, show 22 + i = 14 + (8 + i) by omega, vA_m (by omega)]
    congr 1
    omega)
  have qx : qx_eq g k9.2 := fun p hp h99 => by
    have e1 : h.2 p = g p := by rw [eh, pk_out (by unfold pk_fr; omega)]
    rcases Nat.lt_or_ge p h.1 with c | c
    · rw [G9 p (by omega) (by omega) (by omega) (by omega) (by omega) (by omega) (by omega) (Or.inl c), e1]
    · have := hfr p c
      rw [e1] at this
      exact absurd this h99
  have a0 : pv (sa_first (vB rd)) 0 = pv rd 0 := vA_lo (by omega)
  refine ⟨k9, ?_, ?_, fun p hp => G9 p (by omega) (by omega) (by omega) (by omega) (by omega) (by omega) (by omega) (by omega), fun f p hp => ?_⟩
  · have i0 : ss_is h (some 0) 11 = true := pb_is C0
    have g1 : ss_gr h (some 0) 11 1 = some (some 3) := pb_gr C0 1
    have g2 : ss_gr k5 (some 0) 11 4 = some (some 16) := pb_gr c0 4
    have i16 : ss_is k5 (some 16) 8 = true := pb_is c16
    have g3 : ss_gr k6 (some 16) 8 1 = some (some 25) := pb_gr d16 1
    have g4 : ss_gr k6 (some h.1) 5 4 = some (some (h.1 + 5)) := pb_gr ((R6 h.1 (by omega)).trans V0) 4
    have g5 : ss_gr k8 (some 0) 11 6 = some (some 32) := pb_gr ((R8 0 (by omega) (by omega) (by omega) (by omega)).trans c0) 6
    have i32 : ss_is k8 (some 32) 3 = true := pb_is ((R8 32 (by omega) (by omega) (by omega) (by omega)).trans c32)
    have g6 : ss_gi k9 (some h.1) 5 3 = some (pv rd 2) := pb_gi ((R9 h.1 (by omega) (by omega) (by omega) (by omega) (by omega)).trans V0) 3
    unfold mm_S_valley mm_Wo_settle mm_A_forget
    simp only [pb_l2, pb_ll, nI_add, pb_mul, if_true, if_false, pb_bs, pb_b2n, pb_bz0, pb_bz1, pb_10, pb_01, i0, g1, rdv, e4, e5, Option.isSome_some, g2, i16, E6, g3, g4, E7, E8, g5, i32, E9, g6]
  · refine cl_gen (nx' := nx) (v' := h.1) (rl' := rl) (gw' := sl rd 54 8) eh F0 (by omega) ((R9 0 (by omega) (by omega) (by omega) (by omega) (by omega)).trans c0) ((R9 1 (by omega) (by omega) (by omega) (by omega) (by omega)).trans c1) ((R9 3 (by omega) (by omega) (by omega) (by omega) (by omega)).trans c3) ?_ ?_ ?_ ?_ ?_ ?_ ?_ ?_ ?_ ?_ (fun p hp h99 => ?_) (ct_nil Ft.2.2.1) Fr (ql_R_fx qx Fl) ?_ ⟨sl_len _ _ _, fun _ => s2⟩ ⟨Fno.1, Fno.2.1, Fno.2.2.1, fun q hq h123 i hi => ?_⟩ ?_
    · rw [G9 12 (by omega) (by omega) (by omega) (by omega) (by omega) (by omega) (by omega) (by omega), eh]; exact pk_c12
    · rw [G9 13 (by omega) (by omega) (by omega) (by omega) (by omega) (by omega) (by omega) (by omega), eh]; exact pk_c13
    · rw [G9 14 (by omega) (by omega) (by omega) (by omega) (by omega) (by omega) (by omega) (by omega), eh]; exact pk_c14
    · rw [G9 15 (by omega) (by omega) (by omega) (by omega) (by omega) (by omega) (by omega) (by omega), eh]; exact pk_c15
    · rw [B9, if_neg (by omega), B8, if_pos rfl, vA_z (by omega)]
    · rw [B9, if_neg (by omega), B8, if_neg (by omega), B7, if_pos rfl, vA_z (by omega), vA_z (by omega), vA_z (by omega), vA_z (by omega)]
    · rw [B9, if_neg (by omega), B8, if_neg (by omega), B7, if_neg (by omega), if_neg (by omega), if_pos rfl, s1]
    · rw [B9, if_neg (by omega), B8, if_neg (by omega), B7, if_neg (by omega), if_pos rfl]
    · rw [B9, if_pos rfl]; rfl
    · intro p hp p0 p1 p3 p12 p13 p14 p15 p16 p25 p26 p27 p32
      exact G9 p (by omega) (by omega) (by omega) (by omega) (by omega) (by omega) (by omega) (by omega)
    · refine G9 p (by omega) (by omega) (by omega) (by omega) (by omega) (by omega) (by omega) ?_
      rcases Nat.lt_or_ge p h.1 with c | c
      · exact Or.inl c
      · exact absurd (hfr p c) h99
    · have r9 : ∀ j, j < 8 → k9.2 (h.1 + j) = k5.2 (h.1 + j) := fun j hj => R9 _ (by omega) (by omega) (by omega) (by omega) (by omega)
      have r0 : k9.2 h.1 = k5.2 h.1 := r9 0 (by omega)
      refine ⟨⟨Or.inr hn, nI 1, nds, ?_, ?_, ?_, ?_, ?_⟩, ?_, ?_, ?_, ?_, sl rd 54 8, sl_len _ _ _, ?_, fun _ => ?_⟩
      · rw [r0, V0, a0, vA_lo (by omega), vA_lo (by omega), vA_lo (by omega)]
      · rw [r9 1 (by omega), V1, vA_hi (by omega) (by omega), vA_hi (by omega) (by omega), vA_hi (by omega) (by omega), vA_hi (by omega) (by omega)]
      · rw [r9 3 (by omega), V3, sl_of (b := sa_first (vB rd)) (a := rd) (fun i hi => vA_hi (by omega) (by omega))]
      · rw [r9 4 (by omega), V4]
      · exact vI_nd nR (fun d hd => vA_hi (by omega) (by omega))
      · rw [r0, V0]
        unfold sa_told
        rw [a0, f3, if_neg (nI_ge f1 (by omega))]
        rfl
      · rw [r9 2 (by omega), V2, vA_hi (by omega) (by omega), vA_hi (by omega) (by omega), vA_hi (by omega) (by omega), vA_hi (by omega) (by omega)]
      · rw [r9 5 (by omega), V5]
      · rw [r9 6 (by omega), V6, sl_of (b := sa_first (vB rd)) (a := rd) (fun i hi => vA_hi (by omega) (by omega))]
      · rw [r9 7 (by omega), V7]
      · exact (sl_of (b := sa_first (vB rd)) (a := rd) (fun i hi => vA_hi (by omega) (by omega))).symm
    · rw [vA_z (by omega)] at h123
      have := (nI_eq (by omega) (by omega)).mp h123
      omega
    · have hu : qu_R k9.2 nx US := qu_R_x (fun p p1 p2 => by rw [G9 p (by omega) (by omega) (by omega) (by omega) (by omega) (by omega) (by omega) (by omega), eh, pk_out (by unfold pk_fr; omega)]) Fu
      exact ⟨hu.1, hu.2.1, fun j hj => absurd hj (Nat.not_lt_zero j)⟩
  · rw [n9] at hp
    rw [G9 p (by omega) (by omega) (by omega) (by omega) (by omega) (by omega) (by omega) (by omega)]
    exact f p (by omega)
theorem jx_valley {N : Nat} {h h2 : ss_Hp} {T : List Nat} {a : List Int32} {fo x : Int32} {RS : List (List ru_C)} {US : List (List Int32)} {I : Nat → Option (List Int32 × Int32 × Int32)} (hc : cl_h h T a fo x RS US I) (hm : mo_h h2 T a fo x RS US I) (ha : as_ok T a fo x RS US I) (hN : 5000 < N) (hN2 : 100000 < N) (hfr : fr_h h) : jo (mm_S_valley N (some 0) h) (mm_M_valley N (some 110) h2) h h2 := by
  have hc0 := hc
  obtain ⟨n, g, rc, ti, tb, vt, ri, cd, sx, rl, wi, wv, gi, gs, gw, nd, ns, nw, il, ai, yv, yr, yi, ys, yw, yt, yh, yf, yo, yk, fr, fg, pl, pc, pg, eh, F⟩ := hc
  have F0 := F
  obtain ⟨Fn, Frc, Ft, Fr, Fl, ⟨Fw, ⟨vv, Fv, Fq⟩, Fg, Fs, Fwl, Fno⟩, Fi, ⟨nx, Fa, Fu⟩, Fy, Ff⟩ := F
  have hn : 134 ≤ h.1 := by rw [eh]; exact Fn
  obtain ⟨t0, t1, t2, t3, t4, ht5⟩ := list5 Ft.1
  have et0 : t0 = nI T.length := by have := Ft.2.1; rw [ht5] at this; exact this
  have C0 : h.2 0 = (11, [nI RS.length], [], [some 1, some 3, some 12, some 15, some 16, some 31, some 32, some 94, some 103, some 106]) := by rw [eh, ← Frc]; exact pk_c0
  have C1 : h.2 1 = (2, [nI T.length, t1, t2, t3, t4], [], [some 2]) := by rw [eh, ← et0, ← ht5]; exact pk_c1
  have C2 : h.2 2 = (20, tb, [], []) := by rw [eh]; exact pk_c2
  have C3 : h.2 3 = (6, [], [], [some 1, vt]) := by rw [eh]; exact pk_c3
  have ht := ct_tz ha.1 C2 Ft
  obtain ⟨n, f, mi, dx, tp, sg, lg, cl, cs, rd, op, sk, wd, sd, th, fa, ws, kp, li, pr, hb, fi, st, im, jf, jx, mk, eh2, ⟨Lmi, Ltp, Lsg, Llg, Lcl, Lcs, Lrd, Lop, Lsk, Lwd, Lth, Lfa⟩, ⟨Lws, Lkp, Lli, Lpr, Lhb, Lfi, Lst, Lim, Ljf, Ljx, Lmk⟩, ⟨Mt1, Mt2⟩, ⟨Mr1, Mr2⟩, ⟨M13, M14, Msd⟩, ⟨M15, Mws⟩, MI⟩ := hm
  obtain ⟨k0, m0', d0, Hsd, Hul, Hu⟩ := ha.2.1
  have Lsd : sd.length = 124 := by rw [Msd]; exact Hsd.1.1
  obtain ⟨m0, m1, m2, m3, m4, m5, m6, m7, m8, m9, m10, m11, m12, m13, m14, m15, emi⟩ := list16 Lmi
  subst emi
  have e0 : m0 = nI T.length := Mt1
  subst e0
  have hmz : mz tp T := ⟨ha.1.1, ha.1.2, Ltp, Mt2⟩
  subst eh2
  have V := ve_whole (N := N) (hc := hv0 h) (v := h.1) (T := T) (n := n) (f := f) (m1 := m1) (m4 := m4) (m6 := nI 0) (m7 := m7) (m9 := m9) (m10 := m10) (m11 := m11) (m12 := m12) (m13 := m13) (m14 := m14) (m15 := m15) (dx := dx) (sg := sg) (lg := lg.set 6 (nI 0)) (cl := cl) (cs := cs) (op := op) (sk := sk) (wd := wd) (sd := sd) (th := th) (fa := fa) (ws := ws) (kp := kp) (li := li) (pr := pr) (hb := hb) (fi := fi) (st := st) (im := im) (jf := jf) (jx := jx) (mk := mk) hmz (hv0_tz ht) hv0_3 hn (by omega)
  have hl1 : ∀ l : List Int32, l.length = 7 → (l.set 6 (nI 0)).length = 7 := fun l q => by rw [List.length_set]; exact q
  rcases V with ⟨p, rd2, nds, kk, mm, z2, z4, z8, z10, z11, v1, v2, v3, v4⟩ | ⟨q, w, J0, J1, J2, J3, J4, own, str, bes, nds, sn, wa, z2, z4, z8, z10, z11, rd2, v1, v2, v3, v4, v5⟩
  · refine ⟨pv rd2 2, [], sa_first (vB rd2), fo, x, RS, [], I, cv_ok hc0 ha hfr (by omega) v1 v2 v3, ⟨_, M_v1 Llg Lrd v2.1.1 Lsd (by omega) v4, ?_, rfl, fun p hp => ?_⟩, ?_⟩
    · refine ⟨n, f, _, dx, tp, sg, _, cl, cs, _, op, sk, wd, _, th, fa, ws, kp, li, pr, hb, fi, st, im, jf, jx, mk, rfl, ⟨rfl, Ltp, Lsg, hl1 _ Llg, Lcl, Lcs, v2.1.1, Lop, Lsk, Lwd, Lth, Lfa⟩, ⟨Lws, Lkp, Lli, Lpr, Lhb, Lfi, Lst, Lim, Ljf, Ljx, Lmk⟩, ⟨rfl, fun i hi => absurd hi (Nat.not_lt_zero i)⟩, ⟨Mr1, Mr2⟩, ⟨M13, M14, rfl⟩, ⟨rfl, fun j hj => absurd hj (Nat.not_lt_zero j)⟩, MI⟩
    · rw [pm_out2 hp, pm_out2 hp]
    · exact ⟨⟨Nat.zero_le _, fun i hi => absurd hi (Nat.not_lt_zero i)⟩, ⟨kk, mm, 0, vA_ok v2, Nat.zero_le _, fun j hj => absurd hj (Nat.not_lt_zero j)⟩, ha.2.2⟩
  · refine ⟨-nI 2 - nI (1 + 8 * blk T q + w), [], a, fo, x, RS, US, I, cv_bad hc0 ha hfr (by omega) v1 v2 v4, ⟨_, M_v0 Llg Lrd (by omega) v5, ?_, rfl, fun p hp => ?_⟩, ?_⟩
    · refine ⟨n, f, _, dx, tp, sg, _, cl, cs, _, op, sk, wd, _, th, fa, ws, kp, li, pr, hb, fi, st, im, jf, jx, mk, rfl, ⟨rfl, Ltp, Lsg, hl1 _ Llg, Lcl, Lcs, v3, Lop, Lsk, Lwd, Lth, Lfa⟩, ⟨Lws, Lkp, Lli, Lpr, Lhb, Lfi, Lst, Lim, Ljf, Ljx, Lmk⟩, ⟨rfl, fun i hi => absurd hi (Nat.not_lt_zero i)⟩, ⟨Mr1, Mr2⟩, ⟨M13, M14, Msd⟩, ⟨M15, Mws⟩, MI⟩
    · rw [pm_out2 hp, pm_out2 hp]
    · exact ⟨⟨Nat.zero_le _, fun i hi => absurd hi (Nat.not_lt_zero i)⟩, ha.2⟩
