/-! ===== image, back ===== -/
theorem pb_ur {h : ss_Hp} {a t ci i u : Nat} {I : List Int32} {L : List Int64} {R : List (Option Nat)} (e : h.2 a = (t, I, L, R)) (hi : i < 2 ^ 31) (hj : i < R.length) (hu : ss_is h (some u) ci = true) : ss_ur h (some a) t ci (nI i) (some u) = some (ss_hs h a (t, I, L, R.set i (some u))) := by
  simp [ss_ur, e, nI_pos hi, nI_clamp hi, hj, hu]
def iS (I : Nat → Option (List Int32 × Int32 × Int32)) (q : Nat) (v : List Int32 × Int32 × Int32) : Nat → Option (List Int32 × Int32 × Int32) := fun q' => if q' = q then some v else I q'
theorem iS_eq {I : Nat → Option (List Int32 × Int32 × Int32)} {q : Nat} {v : List Int32 × Int32 × Int32} : iS I q v q = some v := if_pos rfl
theorem iS_ne {I : Nat → Option (List Int32 × Int32 × Int32)} {q q' : Nat} {v : List Int32 × Int32 × Int32} (h : ¬ q' = q) : iS I q v q' = I q' := if_neg h
theorem cl_put {T : List Nat} {a : List Int32} {fo x : Int32} {RS : List (List ru_C)} {US : List (List Int32)} {I : Nat → Option (List Int32 × Int32 × Int32)} {n : Nat} {g : Nat → ss_Cl} {rc : Int32} {ti : List Int32} {tb : List Int32} {vt : Option Nat} {ri : List Int32} {cd : List Int32} {sx : List Int32} {rl : List (Option Nat)} {wi : List Int32} {wv : Option Nat} {gi : List Int32} {gs : List Int32} {gw : List Int32} {nd : List Int32} {ns : List Int32} {nw : List Int32} {il : List (Option Nat)} {ai : List Int32} {yv : Option Nat} {yr : Option Nat} {yi : List Int32} {ys : List Int32} {yw : List Int32} {yt : List Int32} {yh : List Int32} {yf : List Int32} {yo : List Int64} {yk : List Int64} {fr : List Int32} {fg : List Int32} {pl : List Int32} {pc : List Int32} {pg : List Int32} {h h4 : ss_Hp} {q w : Nat} {il' : List (Option Nat)} (eh : h = pk_C n g rc ti tb vt ri cd sx rl wi wv gi gs gw nd ns nw il ai yv yr yi ys yw yt yh yf yo yk fr fg pl pc pg) (F : cl_F n g rc ti tb vt ri cd sx rl wi wv gi gs gw nd ns nw il ai yv yr yi ys yw yt yh yf yo yk fr fg pl pc pg T a fo x RS US I) (hw : 142 ≤ w) (ht : tg h.2 w) (hq : q < 4) (hil : il' = il.set q (some w)) (hu : ∀ q', il[q']? = some (some w) → q' = q) (n4 : 142 ≤ h4.1) (e31 : h4.2 39 = (26, [], [], il')) (e1 : ∀ p, p < 142 → p ≠ 39 → h4.2 p = h.2 p) (e2 : ∀ p, 142 ≤ p → (p < w ∨ w + 15 ≤ p) → h4.2 p = h.2 p) (c0 : wq_R h4.2 w a fo x) : cl_h h4 T a fo x RS US (iS I q (a, fo, x)) := by
  obtain ⟨Fn, Frc, Ft, Fr, Fl, Fc, Fi, ⟨nx, Fa, Fu⟩, Fy, Ff⟩ := F
  have hg : ∀ p, (4 ≤ p ∧ p < 20) ∨ (25 ≤ p ∧ p < 33) ∨ (42 ≤ p ∧ p < 102) ∨ 142 ≤ p → h.2 p = g p := fun p hp => by rw [eh, pk_out (by unfold pk_fr; omega)]
  have q2 : qf2_eq g h.2 := fun p hp => hg p (by omega)
  have Fl := ql_R_f2 q2 Fl
  have Fi := qi_R_f2 q2 Fi
  have Fu : qu_R h4.2 nx US := qu_R_x (fun p p1 p2 => by rw [e1 p (by omega) (by omega)]; exact hg p (by omega)) Fu
  obtain ⟨Fw, ⟨v, Fv, Fq⟩, Fg, Fs, Fwl, Fno⟩ := Fc
  have ev : v = 25 := Option.some.inj (Fv.symm.trans Fr.2.2.2.2.2.1)
  subst ev
  have l4 : il.length = 4 := Fi.1
  have Fx : fx_R h4.2 vt wv yv := fx_R_of (fun p p1 p2 => by rw [e1 p (by omega) (by omega)]; exact hg p (by omega)) Fr.2.2.2.2
  have Cc : cn_R h4.2 wi wv gi gs gw nd ns nw a fo x := ⟨Fw, ⟨25, Fv, qv_R_x (fun j hj => by rw [e1 _ (by omega) (by omega)]; exact hg _ (by omega)) Fq⟩, Fg, Fs, Fwl, Fno⟩
  refine ⟨h4.1, h4.2, rc, ti, tb, vt, ri, cd, sx, rl, wi, wv, gi, gs, gw, nd, ns, nw, il', ai, yv, yr, yi, ys, yw, yt, yh, yf, yo, yk, fr, fg, pl, pc, pg, pk_re (n := n) (g := g) (fun p q => ?_), n4, Frc, Ft, ⟨Fr.1, Fr.2.1, Fr.2.2.1, Fr.2.2.2.1, Fx⟩, ?_, Cc, ?_, ⟨nx, Fa, Fu⟩, Fy, Ff⟩
  · have hp : p = 0 ∨ p = 1 ∨ p = 2 ∨ p = 3 ∨ p = 20 ∨ p = 21 ∨ p = 22 ∨ p = 23 ∨ p = 24 ∨ p = 33 ∨ p = 34 ∨ p = 35 ∨ p = 36 ∨ p = 37 ∨ p = 38 ∨ p = 39 ∨ p = 40 ∨ p = 41 ∨ p = 102 ∨ p = 103 ∨ p = 104 ∨ p = 105 ∨ p = 106 ∨ p = 107 ∨ p = 108 ∨ p = 109 ∨ p = 110 ∨ p = 111 ∨ p = 112 ∨ p = 113 ∨ p = 114 ∨ p = 115 ∨ p = 116 ∨ p = 117 := by
      unfold pk_fr at q
      omega
    by_cases c : p = 39
    · subst c
      rw [e31]
      rfl
    · rw [e1 p (by omega) c, eh]
      rcases hp with hp | hp | hp | hp | hp | hp | hp | hp | hp | hp | hp | hp | hp | hp | hp | hp | hp | hp | hp | hp | hp | hp | hp | hp | hp | hp | hp | hp | hp | hp | hp | hp | hp | hp <;> subst hp <;> first | exact absurd rfl c | rfl
  · refine ⟨Fl.1, fun r hr => ⟨fun h1 => ?_, (Fl.2 r hr).2⟩⟩
    obtain ⟨p, p1, p2⟩ := (Fl.2 r hr).1 h1
    have sep := tg_r ht p2
    have := p2.1
    exact ⟨p, p1, rc_R_x (fun j hj => e2 _ (by omega) (by omega)) p2⟩
  · refine ⟨by rw [hil, List.length_set]; exact l4, fun q' hq' => ?_, fun a1 a2 u b1 b2 => ?_⟩
    · by_cases c : q' = q
      · subst c
        rw [iS_eq]
        exact ⟨w, by rw [hil]; exact List.getElem?_set_self (by omega), hw, c0⟩
      · rw [iS_ne c]
        have := Fi.2.1 q' hq'
        have es : il'[q']? = il[q']? := by rw [hil]; exact List.getElem?_set_ne (fun e => c e.symm)
        rw [es]
        cases hI : I q' with
        | none => rw [hI] at this; exact this
        | some z =>
          obtain ⟨s, f, y⟩ := z
          rw [hI] at this
          obtain ⟨u, u1, u2⟩ := this
          have huw : u ≠ w := fun e => c (hu q' (by rw [← e]; exact u1))
          have sep := tg_w ht u2 huw
          have := u2.1
          exact ⟨u, u1, qw_R_x (fun j hj => e2 _ (by omega) (by omega)) u2⟩
    · rw [hil] at b1 b2
      by_cases k1 : a1 = q
      · by_cases k2 : a2 = q
        · rw [k1, k2]
        · rw [List.getElem?_set_ne (fun e => k2 e.symm)] at b2
          rw [k1, List.getElem?_set_self (by omega)] at b1
          have e := Option.some.inj (Option.some.inj b1)
          rw [← e] at b2
          exact absurd (hu a2 b2) k2
      · rw [List.getElem?_set_ne (fun e => k1 e.symm)] at b1
        by_cases k2 : a2 = q
        · rw [k2, List.getElem?_set_self (by omega)] at b2
          have e := Option.some.inj (Option.some.inj b2)
          rw [← e] at b1
          exact absurd (hu a1 b1) k1
        · rw [List.getElem?_set_ne (fun e => k2 e.symm)] at b2
          exact Fi.2.2 a1 a2 u b1 b2
theorem mb_image {N : Nat} {h0 h : ss_Hp} {T : List Nat} {a : List Int32} {fo x : Int32} {RS : List (List ru_C)} {US : List (List Int32)} {I : Nat → Option (List Int32 × Int32 × Int32)} {th2 fa2 kp2 : List Int32} {dx2 : Int64} {Z : Nat → List Int32} {q : Nat} (hc : mb_h h0 h T a fo x RS US I fo a th2 fa2 kp2 dx2 Z) (hl : a.length = 124) (hq : q < 4) (hN : 5000 < N) : ∃ h', mm_M_image N (some 118) (nI q) h = some (pv a 10, h') ∧ mb_h h0 h' T a fo x RS US (iS I q (a, fo, x)) fo a th2 fa2 kp2 dx2 Z := by
  obtain ⟨n, f, mi, dx, tp, sg, lg, cl, cs, rd, op, sk, wd, sd, th, fa, ws, kp, li, pr, hb, fi, st, im, jf, jx, mk, rfl, F, hfo, ⟨w1, w2, w3, w4, w5⟩, z, hn, hf⟩ := hc
  subst w1 w2 w3 w4 w5
  obtain ⟨⟨Lmi, Ltp, Lsg, Llg, Lcl, Lcs, Lrd, Lop, Lsk, Lwd, Lth, Lfa⟩, ⟨Lws, Lkp, Lli, Lpr, Lhb, Lfi, Lst, Lim, Ljf, Ljx, Lmk⟩, ⟨Mt1, Mt2⟩, ⟨Mr1, Mr2⟩, ⟨M13, M14, Ma⟩, ⟨M15, Mu⟩, Mim⟩ := id F
  rw [List.length_set] at Lmi
  rw [pv_ne (by omega)] at Mt1 Mr1 M14 M15
  have e2 : ss_lp (mm_M_image_b43 N (some 118) (nI q)) N (nI 0, (pm_M n f mi dx tp sg lg cl cs rd op sk wd sd th fa ws kp li pr hb fi st im (jf.set q fo) (jx.set q x) (mk.set q (nI 1)))) = some (pm_M n f mi dx tp sg lg cl cs rd op sk wd sd th fa ws kp li pr hb fi st (cpl im sd (124 * q) 0 124) (jf.set q fo) (jx.set q x) (mk.set q (nI 1))) := by
    refine pb_lp (fun i => (nI i, (pm_M n f mi dx tp sg lg cl cs rd op sk wd sd th fa ws kp li pr hb fi st (cpl im sd (124 * q) 0 i) (jf.set q fo) (jx.set q x) (mk.set q (nI 1))))) 124 (by omega) (fun i hi => ?_) ?_
    · unfold mm_M_image_b43
      have h6 : ¬ nI 124 ≤ nI i := nI_ge hi (by omega)
      have h7 : 124 * q + i < (cpl im sd (124 * q) 0 i).length := by rw [cpl_len]; omega
      simp (disch := ((try simp only [List.length_set]); omega)) only [pb_its, pb_l2, pb_ll, nI_add, pb_mul, if_true, if_false, pb_bs, pb_b2n, pb_bz0, pb_bz1, pb_10, pb_01, pb_i31, List.length_set, pn_is, pn_gi, pn_pi, pn_gl, pn_pl, pn_g0, pn_g1, pn_g2, pn_g3, pn_g4, pn_g5, pn_g6, pn_g7, pn_g8, pn_g9, pn_g10, pn_g11, pn_g12, pn_g13, pn_g14, pn_g15, pn_g16, pn_g17, pn_g18, pn_g19, pn_g20, pn_g21, pn_g22, pn_a0, pn_a1, pn_a2, pn_a3, pn_a4, pn_a5, pn_a6, pn_a7, pn_a8, pn_a9, pn_a10, pn_a11, pn_a12, pn_a13, pn_a14, pn_a15, pn_a16, pn_a17, pn_a18, pn_a19, pn_a20, pn_a21, pn_a22, pn_u0, pn_u1, pn_u2, pn_u3, pn_u4, pn_u5, pn_u6, pn_u7, pn_u8, pn_u9, pn_u10, pn_u11, pn_u12, pn_u13, pn_u14, pn_u15, pn_u16, pn_u17, pn_u18, pn_u19, pn_u20, pn_u21, pn_u22, h6]
      rw [cpl, Nat.zero_add]
    · unfold mm_M_image_b43
      simp (disch := ((try simp only [List.length_set]); omega)) only [pb_its, pb_l2, pb_ll, nI_add, pb_mul, if_true, if_false, pb_bs, pb_b2n, pb_bz0, pb_bz1, pb_10, pb_01, pb_i31, List.length_set, pn_is, pn_gi, pn_pi, pn_gl, pn_pl, pn_g0, pn_g1, pn_g2, pn_g3, pn_g4, pn_g5, pn_g6, pn_g7, pn_g8, pn_g9, pn_g10, pn_g11, pn_g12, pn_g13, pn_g14, pn_g15, pn_g16, pn_g17, pn_g18, pn_g19, pn_g20, pn_g21, pn_g22, pn_a0, pn_a1, pn_a2, pn_a3, pn_a4, pn_a5, pn_a6, pn_a7, pn_a8, pn_a9, pn_a10, pn_a11, pn_a12, pn_a13, pn_a14, pn_a15, pn_a16, pn_a17, pn_a18, pn_a19, pn_a20, pn_a21, pn_a22, pn_u0, pn_u1, pn_u2, pn_u3, pn_u4, pn_u5, pn_u6, pn_u7, pn_u8, pn_u9, pn_u10, pn_u11, pn_u12, pn_u13, pn_u14, pn_u15, pn_u16, pn_u17, pn_u18, pn_u19, pn_u20, pn_u21, pn_u22, nI_le (Nat.le_refl 124) (by omega : 124 < 2 ^ 31)]
  have si := sp_in_of (q := q) (lo := 0) (hi := 3) (by omega) (by omega) (by omega)
  refine ⟨(pm_M n f mi dx tp sg lg cl cs rd op sk wd sd th fa ws kp li pr hb fi st (cpl im sd (124 * q) 0 124) (jf.set q fo) (jx.set q x) (mk.set q (nI 1))), ?_, n, f, mi, dx, tp, sg, lg, cl, cs, rd, op, sk, wd, sd, th, fa, ws, kp, li, pr, hb, fi, st, _, _, _, _, rfl, ⟨⟨by rw [List.length_set]; exact Lmi, Ltp, Lsg, Llg, Lcl, Lcs, Lrd, Lop, Lsk, Lwd, Lth, Lfa⟩, ⟨Lws, Lkp, Lli, Lpr, Lhb, Lfi, Lst, by rw [cpl_len]; exact Lim, by rw [List.length_set]; exact Ljf, by rw [List.length_set]; exact Ljx, by rw [List.length_set]; exact Lmk⟩, ⟨by rw [pv_ne (by omega)]; exact Mt1, Mt2⟩, ⟨by rw [pv_ne (by omega)]; exact Mr1, Mr2⟩, ⟨pv_eq (by omega), by rw [pv_ne (by omega)]; exact M14, rfl⟩, ⟨by rw [pv_ne (by omega)]; exact M15, Mu⟩, fun q' hq' => ?_⟩, hfo, ⟨rfl, rfl, rfl, rfl, rfl⟩, z, hn, hf⟩
  · unfold mm_M_image
    simp (disch := ((try simp only [List.length_set]); omega)) only [pb_its, pb_l2, pb_ll, nI_add, pb_mul, if_true, if_false, pb_bs, pb_b2n, pb_bz0, pb_bz1, pb_10, pb_01, pb_i31, List.length_set, pn_is, pn_gi, pn_pi, pn_gl, pn_pl, pn_g0, pn_g1, pn_g2, pn_g3, pn_g4, pn_g5, pn_g6, pn_g7, pn_g8, pn_g9, pn_g10, pn_g11, pn_g12, pn_g13, pn_g14, pn_g15, pn_g16, pn_g17, pn_g18, pn_g19, pn_g20, pn_g21, pn_g22, pn_a0, pn_a1, pn_a2, pn_a3, pn_a4, pn_a5, pn_a6, pn_a7, pn_a8, pn_a9, pn_a10, pn_a11, pn_a12, pn_a13, pn_a14, pn_a15, pn_a16, pn_a17, pn_a18, pn_a19, pn_a20, pn_a21, pn_a22, pn_u0, pn_u1, pn_u2, pn_u3, pn_u4, pn_u5, pn_u6, pn_u7, pn_u8, pn_u9, pn_u10, pn_u11, pn_u12, pn_u13, pn_u14, pn_u15, pn_u16, pn_u17, pn_u18, pn_u19, pn_u20, pn_u21, pn_u22, po_inC, pb_ct si, vp_b1, hfo, M14, e2]
  · by_cases c : q' = q
    · subst c
      rw [iS_eq]
      refine ⟨pv_eq (by omega), pv_eq (by omega), pv_eq (by omega), fun i hi => ?_⟩
      rw [cpl_pv 124 (by omega), if_pos (by omega)]
      exact congrArg (pv sd) (by omega)
    · rw [iS_ne c]
      have := Mim q' hq'
      cases hI : I q' with
      | none => rw [hI] at this; show pv (mk.set q (nI 1)) q' = nI 0; rw [pv_ne c]; exact this
      | some zz =>
        obtain ⟨s, f', y⟩ := zz
        rw [hI] at this
        obtain ⟨u1, u2, u3, u4⟩ := this
        refine ⟨by rw [pv_ne c]; exact u1, by rw [pv_ne c]; exact u2, by rw [pv_ne c]; exact u3, fun i hi => ?_⟩
        rw [cpl_pv 124 (by omega), if_neg (by omega)]
        exact u4 i hi
theorem mb_back {N : Nat} {h0 h : ss_Hp} {T : List Nat} {a : List Int32} {fo x : Int32} {RS : List (List ru_C)} {US : List (List Int32)} {I : Nat → Option (List Int32 × Int32 × Int32)} {th2 fa2 kp2 : List Int32} {dx2 : Int64} {Z : Nat → List Int32} {q : Nat} {s : List Int32} {f0 y0 : Int32} (hc : mb_h h0 h T a fo x RS US I fo a th2 fa2 kp2 dx2 Z) (hl : a.length = 124) (hls : s.length = 124) (hq : q < 4) (hI : I q = some (s, f0, y0)) (hN : 5000 < N) : ∃ h', mm_M_back N (some 118) (nI q) h = some (pv s 10, h') ∧ mb_h h0 h' T s f0 y0 RS [] I f0 s th2 fa2 kp2 dx2 Z := by
  obtain ⟨n, f, mi, dx, tp, sg, lg, cl, cs, rd, op, sk, wd, sd, th, fa, ws, kp, li, pr, hb, fi, st, im, jf, jx, mk, rfl, F, hfo, ⟨w1, w2, w3, w4, w5⟩, z, hn, hf⟩ := hc
  subst w1 w2 w3 w4 w5
  obtain ⟨⟨Lmi, Ltp, Lsg, Llg, Lcl, Lcs, Lrd, Lop, Lsk, Lwd, Lth, Lfa⟩, ⟨Lws, Lkp, Lli, Lpr, Lhb, Lfi, Lst, Lim, Ljf, Ljx, Lmk⟩, ⟨Mt1, Mt2⟩, ⟨Mr1, Mr2⟩, ⟨M13, M14, Ma⟩, ⟨M15, Mu⟩, Mim⟩ := id F
  rw [List.length_set] at Lmi
  rw [pv_ne (by omega)] at Mt1 Mr1 M14 M15
  have mq := Mim q hq
  rw [hI] at mq
  obtain ⟨u1, u2, u3, u4⟩ := mq
  have es : cpl sd im 0 (124 * q) 124 = s := pv_ext (by rw [cpl_len, hl, hls]) (fun i hi => by
    rw [cpl_len] at hi
    rw [cpl_pv 124 (by omega), if_pos (by omega), Nat.sub_zero]
    exact u4 i (by omega))
  have e2 : ss_lp (mm_M_back_b50 N (some 118) (nI q)) N (nI 0, (pm_M n f (((mi.set 13 f0).set 14 y0).set 15 (nI 0)) dx tp sg lg cl cs rd op sk wd sd th fa ws kp li pr hb fi st im jf jx mk)) = some (pm_M n f (((mi.set 13 f0).set 14 y0).set 15 (nI 0)) dx tp sg lg cl cs rd op sk wd (cpl sd im 0 (124 * q) 124) th fa ws kp li pr hb fi st im jf jx mk) := by
    refine pb_lp (fun i => (nI i, (pm_M n f (((mi.set 13 f0).set 14 y0).set 15 (nI 0)) dx tp sg lg cl cs rd op sk wd (cpl sd im 0 (124 * q) i) th fa ws kp li pr hb fi st im jf jx mk))) 124 (by omega) (fun i hi => ?_) ?_
    · unfold mm_M_back_b50
      have h6 : ¬ nI 124 ≤ nI i := nI_ge hi (by omega)
      have h7 : i < (cpl sd im 0 (124 * q) i).length := by rw [cpl_len]; omega
      simp (disch := ((try simp only [List.length_set]); omega)) only [pb_its, pb_l2, pb_ll, nI_add, pb_mul, if_true, if_false, pb_bs, pb_b2n, pb_bz0, pb_bz1, pb_10, pb_01, pb_i31, List.length_set, pn_is, pn_gi, pn_pi, pn_gl, pn_pl, pn_g0, pn_g1, pn_g2, pn_g3, pn_g4, pn_g5, pn_g6, pn_g7, pn_g8, pn_g9, pn_g10, pn_g11, pn_g12, pn_g13, pn_g14, pn_g15, pn_g16, pn_g17, pn_g18, pn_g19, pn_g20, pn_g21, pn_g22, pn_a0, pn_a1, pn_a2, pn_a3, pn_a4, pn_a5, pn_a6, pn_a7, pn_a8, pn_a9, pn_a10, pn_a11, pn_a12, pn_a13, pn_a14, pn_a15, pn_a16, pn_a17, pn_a18, pn_a19, pn_a20, pn_a21, pn_a22, pn_u0, pn_u1, pn_u2, pn_u3, pn_u4, pn_u5, pn_u6, pn_u7, pn_u8, pn_u9, pn_u10, pn_u11, pn_u12, pn_u13, pn_u14, pn_u15, pn_u16, pn_u17, pn_u18, pn_u19, pn_u20, pn_u21, pn_u22, h6]
      rw [cpl, Nat.zero_add]
    · unfold mm_M_back_b50
      simp (disch := ((try simp only [List.length_set]); omega)) only [pb_its, pb_l2, pb_ll, nI_add, pb_mul, if_true, if_false, pb_bs, pb_b2n, pb_bz0, pb_bz1, pb_10, pb_01, pb_i31, List.length_set, pn_is, pn_gi, pn_pi, pn_gl, pn_pl, pn_g0, pn_g1, pn_g2, pn_g3, pn_g4, pn_g5, pn_g6, pn_g7, pn_g8, pn_g9, pn_g10, pn_g11, pn_g12, pn_g13, pn_g14, pn_g15, pn_g16, pn_g17, pn_g18, pn_g19, pn_g20, pn_g21, pn_g22, pn_a0, pn_a1, pn_a2, pn_a3, pn_a4, pn_a5, pn_a6, pn_a7, pn_a8, pn_a9, pn_a10, pn_a11, pn_a12, pn_a13, pn_a14, pn_a15, pn_a16, pn_a17, pn_a18, pn_a19, pn_a20, pn_a21, pn_a22, pn_u0, pn_u1, pn_u2, pn_u3, pn_u4, pn_u5, pn_u6, pn_u7, pn_u8, pn_u9, pn_u10, pn_u11, pn_u12, pn_u13, pn_u14, pn_u15, pn_u16, pn_u17, pn_u18, pn_u19, pn_u20, pn_u21, pn_u22, nI_le (Nat.le_refl 124) (by omega : 124 < 2 ^ 31)]
  rw [es] at e2
  have si := sp_in_of (q := q) (lo := 0) (hi := 3) (by omega) (by omega) (by omega)
  refine ⟨(pm_M n f (((mi.set 13 f0).set 14 y0).set 15 (nI 0)) dx tp sg lg cl cs rd op sk wd s th fa ws kp li pr hb fi st im jf jx mk), ?_, n, f, _, dx, tp, sg, lg, cl, cs, rd, op, sk, wd, _, th, fa, ws, kp, li, pr, hb, fi, st, im, jf, jx, mk, rfl, ⟨⟨by simp only [List.length_set]; exact Lmi, Ltp, Lsg, Llg, Lcl, Lcs, Lrd, Lop, Lsk, Lwd, Lth, Lfa⟩, ⟨Lws, Lkp, Lli, Lpr, Lhb, Lfi, Lst, Lim, Ljf, Ljx, Lmk⟩, ⟨by rw [pv_ne (by omega), pv_ne (by omega), pv_ne (by omega), pv_ne (by omega)]; exact Mt1, Mt2⟩, ⟨by rw [pv_ne (by omega), pv_ne (by omega), pv_ne (by omega), pv_ne (by omega)]; exact Mr1, Mr2⟩, ⟨pv_eq (by simp only [List.length_set]; omega), by rw [pv_ne (by omega), pv_ne (by omega)]; exact pv_eq (by rw [List.length_set]; omega), rfl⟩, ⟨by rw [pv_ne (by omega)]; exact pv_eq (by simp only [List.length_set]; omega), (fun j hj => absurd hj (Nat.not_lt_zero j))⟩, Mim⟩, by rw [pv_ne (by omega), pv_ne (by omega)]; exact pv_eq (by omega), ⟨rfl, rfl, rfl, rfl, rfl⟩, z, hn, hf⟩
  unfold mm_M_back
  simp (disch := ((try simp only [List.length_set]); omega)) only [pb_its, pb_l2, pb_ll, nI_add, pb_mul, if_true, if_false, pb_bs, pb_b2n, pb_bz0, pb_bz1, pb_10, pb_01, pb_i31, List.length_set, pn_is, pn_gi, pn_pi, pn_gl, pn_pl, pn_g0, pn_g1, pn_g2, pn_g3, pn_g4, pn_g5, pn_g6, pn_g7, pn_g8, pn_g9, pn_g10, pn_g11, pn_g12, pn_g13, pn_g14, pn_g15, pn_g16, pn_g17, pn_g18, pn_g19, pn_g20, pn_g21, pn_g22, pn_a0, pn_a1, pn_a2, pn_a3, pn_a4, pn_a5, pn_a6, pn_a7, pn_a8, pn_a9, pn_a10, pn_a11, pn_a12, pn_a13, pn_a14, pn_a15, pn_a16, pn_a17, pn_a18, pn_a19, pn_a20, pn_a21, pn_a22, pn_u0, pn_u1, pn_u2, pn_u3, pn_u4, pn_u5, pn_u6, pn_u7, pn_u8, pn_u9, pn_u10, pn_u11, pn_u12, pn_u13, pn_u14, pn_u15, pn_u16, pn_u17, pn_u18, pn_u19, pn_u20, pn_u21, pn_u22, po_inC, pb_ct si, u1, u2, u3, e2]
theorem jx_image {N : Nat} {h h2 : ss_Hp} {z : Int32} {T : List Nat} {a : List Int32} {fo x : Int32} {RS : List (List ru_C)} {US : List (List Int32)} {I : Nat → Option (List Int32 × Int32 × Int32)} (hc : cl_h h T a fo x RS US I) (hm : mo_h h2 T a fo x RS US I) (ha : as_ok T a fo x RS US I) (hN : 5000 < N) (hfr : fr_h h) : jo (mm_S_image N (some 0) z h) (mm_M_image N (some 118) z h2) h h2 := by
  have hc0 := hc
  obtain ⟨Z, hb⟩ := cb_of hc
  obtain ⟨v, ⟨⟨bV, bI, bT, bF, bD, bS, bH⟩, ⟨bR0, bR1, bR2, bR3, bR4⟩, ⟨bFo, bX, bNo⟩, ⟨bG0, bG1, bG2, bG3⟩, bOwn, bStr, bBes, bSn, bWl, bNd, bCl⟩⟩ := cb_r hb
  have hk := cb_ck hb
  obtain ⟨th, fa, kp, dx, Y, hm1⟩ := mb_of hm
  have hk2 := mb_mk hm1
  have ha0 := ha
  obtain ⟨⟨Ht1, Ht2⟩, ⟨k, m, d, Hsd, Hul, Hu⟩, HRS, Hfo, Hx, HI⟩ := ha
  have Hok := Hsd.1
  obtain ⟨Hl, ⟨Hk, H2⟩, ⟨Hm, H3⟩, ⟨Hd, H10⟩, Hwl, Hbe, How⟩ := Hok
  obtain ⟨n, g, rc, ti, tb, vt, ri, cd, sx, rl, wi, wv, gi, gs, gw, nd, ns, nw, il, ai, yv, yr, yi, ys, yw, yt, yh, yf, yo, yk, fr, fg, pl, pc, pg, eh, F⟩ := hc0
  have Fn := F.1
  have Fi := F.2.2.2.2.2.2.1
  obtain ⟨Fw, ⟨v', Fv, Fq⟩, Fg, Fs, Fwl, Fno⟩ := F.2.2.2.2.2.1
  have l4 : il.length = 4 := Fi.1
  have eN : h.1 = n := by rw [eh]; rfl
  have C0 : h.2 0 = (11, [rc], [], [some 1, some 3, some 20, some 23, some 24, some 39, some 40, some 102, some 111, some 114]) := by rw [eh]; exact pk_c0
  have C16 : h.2 24 = (8, wi, [], [wv, some 33, some 36, some 37, some 38]) := by rw [eh]; exact pk_c24
  have C25 : h.2 33 = (0, gi, [], [some 34, some 35]) := by rw [eh]; exact pk_c33
  have C26 : h.2 34 = (20, gs, [], []) := by rw [eh]; exact pk_c34
  have C27 : h.2 35 = (20, gw, [], []) := by rw [eh]; exact pk_c35
  have C28 : h.2 36 = (20, nd, [], []) := by rw [eh]; exact pk_c36
  have C29 : h.2 37 = (20, ns, [], []) := by rw [eh]; exact pk_c37
  have C30 : h.2 38 = (20, nw, [], []) := by rw [eh]; exact pk_c38
  have C31 : h.2 39 = (26, [], [], il) := by rw [eh]; exact pk_c39
  have len : ss_len h (some 39) 26 = some (nI 4) := by
    unfold ss_len
    simp only [C31]
    rw [← l4]
    rfl
  have i0 : ss_is h (some 0) 11 = true := pb_is C0
  have g05 : ss_gr h (some 0) 11 5 = some (some 39) := pb_gr C0 5
  rcases pk_ix z (n := 4) (by omega) with c | c | ⟨q, hq, rfl⟩
  · replace c : z < nI 0 := c
    have ns : ¬ sp_in z 0 3 := fun s => s.1 c
    refine jo_no hc hm ha0 (r := -nI 1) ?_ ?_
    · unfold mm_S_image mm_S_image_j13
      simp (disch := omega) only [pb_its, pb_l2, pb_ll, nI_add, pb_mul, if_true, if_false, pb_bs, pb_b2n, pb_bz0, pb_bz1, pb_10, pb_01, pb_i31, i0, c]
    · unfold mm_M_image
      simp (disch := omega) only [pb_its, pb_l2, pb_ll, nI_add, pb_mul, if_true, if_false, pb_bs, pb_b2n, pb_bz0, pb_bz1, pb_10, pb_01, pb_i31, mk_is hk2, mk_g0 hk2, mk_g1 hk2, mk_g2 hk2, mk_g3 hk2, mk_g4 hk2, mk_g5 hk2, mk_g6 hk2, mk_g7 hk2, mk_g8 hk2, mk_g9 hk2, mk_g10 hk2, mk_g11 hk2, mk_g12 hk2, mk_g13 hk2, mk_g14 hk2, mk_g15 hk2, mk_g16 hk2, mk_g17 hk2, mk_g18 hk2, mk_g19 hk2, mk_g20 hk2, mk_g21 hk2, mk_g22 hk2, po_inC, pb_cf ns]
  · have n0 : ¬ z < nI 0 := fun q => absurd (Int32.lt_of_le_of_lt c q) (nI_nlt (by omega) (by omega))
    have n1 : ¬ z < nI 4 := Int32.not_lt.mpr c
    have ns : ¬ sp_in z 0 3 := fun s => absurd (Int32.le_trans c (Int32.not_lt.mp s.2)) (nI_ge (by omega) (by omega))
    refine jo_no hc hm ha0 (r := -nI 1) ?_ ?_
    · unfold mm_S_image mm_S_image_j13
      simp (disch := omega) only [pb_its, pb_l2, pb_ll, nI_add, pb_mul, if_true, if_false, pb_bs, pb_b2n, pb_bz0, pb_bz1, pb_10, pb_01, pb_i31, i0, n0, g05, len, n1]
    · unfold mm_M_image
      simp (disch := omega) only [pb_its, pb_l2, pb_ll, nI_add, pb_mul, if_true, if_false, pb_bs, pb_b2n, pb_bz0, pb_bz1, pb_10, pb_01, pb_i31, mk_is hk2, mk_g0 hk2, mk_g1 hk2, mk_g2 hk2, mk_g3 hk2, mk_g4 hk2, mk_g5 hk2, mk_g6 hk2, mk_g7 hk2, mk_g8 hk2, mk_g9 hk2, mk_g10 hk2, mk_g11 hk2, mk_g12 hk2, mk_g13 hk2, mk_g14 hk2, mk_g15 hk2, mk_g16 hk2, mk_g17 hk2, mk_g18 hk2, mk_g19 hk2, mk_g20 hk2, mk_g21 hk2, mk_g22 hk2, po_inC, pb_cf ns]
  obtain ⟨g', f1, m1⟩ := mb_image (N := N) (q := q) hm1 Hl hq hN
  have n0 : ¬ nI q < nI 0 := nI_nlt (by omega) (by omega)
  have n1 : nI q < nI 4 := nI_lt hq (by omega)
  have hasN : as_ok T a fo x RS US (iS I q (a, fo, x)) := by
    refine ⟨⟨Ht1, Ht2⟩, ⟨k, m, d, Hsd, Hul, Hu⟩, HRS, Hfo, Hx, fun q' s f y hI => ?_⟩
    by_cases c : q' = q
    · rw [c, iS_eq] at hI
      cases hI
      exact ⟨⟨k, m, d, Hsd⟩, Hfo, Hx⟩
    · rw [iS_ne c] at hI
      exact HI q' s f y hI
  have arq : ∀ (h3 : ss_Hp) (l : List (Option Nat)), h3.2 39 = (26, [], [], l) → ss_ar h3 (some 39) 26 (nI q) = l[q]? := fun h3 l e => pb_ar e (by omega)
  have now := cl_now eh F
  -- behind the making
  have fin : ∀ (h3 : ss_Hp) (w : Nat), 142 ≤ w → tg h.2 w → (∀ q', il[q']? = some (some w) → q' = q) → 142 ≤ h3.1 → (∀ p, h3.1 ≤ p → h.1 ≤ p) → w + 15 ≤ h3.1 → h3.2 39 = (26, [], [], il.set q (some w)) → (∀ p, p < 142 → p ≠ 39 → h3.2 p = h.2 p) → (∀ p, 142 ≤ p → (p < w ∨ w + 15 ≤ p) → h3.2 p = h.2 p) → ws_R h3.2 w → ∃ h4, mm_S_image_j37 N (some 0) (nI q) h3 = some (pv a 10, h4) ∧ cl_h h4 T a fo x RS US (iS I q (a, fo, x)) ∧ (∀ p, 118 ≤ p ∧ p < 142 → h4.2 p = h.2 p) ∧ (fr_h h → fr_h h4) := by
    intro h3 w hw ht hu n3 nn3 nw3 e31 e1 e2 hs
    obtain ⟨h4, E4, A4, b0, B4⟩ := wo_copy (N := N) (p := w) (q := 24) (Or.inr hw) hs (wq_R_x (fun j hj => e1 _ (by omega) (by omega)) now) (by omega)
    have low : ∀ p, p < 142 → h4.2 p = h3.2 p := fun p hp => B4 p (by omega)
    refine ⟨h4, ?_, cl_put eh F hw ht hq rfl hu (by omega) (by rw [low 39 (by omega)]; exact e31) (fun p p1 p2 => by rw [low p p1]; exact e1 p p1 p2) (fun p p1 p2 => by rw [B4 p (by omega)]; exact e2 p p1 p2) b0, fun p hp => by rw [low p (by omega)]; exact e1 p (by omega) (by omega), fun f p hp => ?_⟩
    · have k0 : h3.2 0 = (11, [rc], [], [some 1, some 3, some 20, some 23, some 24, some 39, some 40, some 102, some 111, some 114]) := (e1 0 (by omega) (by omega)).trans C0
      have k1 : h4.2 0 = (11, [rc], [], [some 1, some 3, some 20, some 23, some 24, some 39, some 40, some 102, some 111, some 114]) := (low 0 (by omega)).trans k0
      have k2 := (low 24 (by omega)).trans ((e1 24 (by omega) (by omega)).trans C16)
      have k3 := (low 33 (by omega)).trans ((e1 33 (by omega) (by omega)).trans C25)
      rw [Fg] at k3
      have r1 : ss_gr h3 (some 0) 11 5 = some (some 39) := pb_gr k0 5
      have r2 : ss_ar h3 (some 39) 26 (nI q) = some (some w) := (arq h3 _ e31).trans (List.getElem?_set_self (by omega))
      have r3 : ss_gr h3 (some 0) 11 4 = some (some 24) := pb_gr k0 4
      have r4 : ss_gr h4 (some 0) 11 4 = some (some 24) := pb_gr k1 4
      have r5 : ss_gr h4 (some 24) 8 1 = some (some 33) := pb_gr k2 1
      have r6 : ss_gi h4 (some 33) 0 3 = some (pv a 10) := pb_gi k3 3
      unfold mm_S_image_j37
      simp (disch := omega) only [pb_its, pb_l2, pb_ll, nI_add, pb_mul, if_true, if_false, pb_bs, pb_b2n, pb_bz0, pb_bz1, pb_10, pb_01, pb_i31, r1, r2, r3, E4, r4, r5, r6]
    · rw [A4] at hp
      rw [B4 p (by omega), e2 p (by omega) (Or.inr (by omega))]
      exact f p (nn3 p hp)
  cases hI : I q with
  | none =>
    have iq := Fi.2.1 q hq
    rw [hI] at iq
    have iq : il[q]? = some none := iq
    have r13 : ss_ar h (some 39) 26 (nI q) = some none := (arq h il C31).trans iq
    obtain ⟨h17, E17, A17, B17⟩ : ∃ h17, ss_no h 8 3 0 5 = some (some h.1, h17) ∧ h17.1 = h.1 + 1 ∧ ∀ y, h17.2 y = if y = h.1 then (8, [nI 0, nI 0, nI 0], [], [none, none, none, none, none]) else h.2 y := ⟨_, rfl, rfl, fun _ => rfl⟩
    have R17 : ∀ y, y ≠ h.1 → h17.2 y = h.2 y := fun y hy => by rw [B17, if_neg hy]
    obtain ⟨h20, E20, A20, t20, d0, B20⟩ := wo_init (N := N) (h := h17) (w := h.1) (by rw [B17, if_pos rfl]) A17 (by omega)
    have R20 : ∀ y, y < h.1 ∨ h.1 + 15 ≤ y → h20.2 y = h.2 y := fun y hy => by rw [B20 y hy, R17 y (by omega)]
    have k31 := (R20 39 (by omega)).trans C31
    have is20 : ss_is h20 (some h.1) 8 = true := by
      obtain ⟨_, _, _, _, _, _, _, _, _, _, _, _, _, _, z, -⟩ := d0
      exact pb_is z.1
    have ur := pb_ur (u := h.1) (ci := 8) k31 (show q < 2 ^ 31 by omega) (show q < il.length by omega) is20
    have up : ∀ p, p ≠ 39 → (ss_hs h20 39 (26, [], [], il.set q (some h.1))).2 p = h20.2 p := fun p hp => if_neg hp
    have d1 : ws_R (ss_hs h20 39 (26, [], [], il.set q (some h.1))).2 h.1 := by
      obtain ⟨c1, c2, c3, c4, c5, c6, c7, c8, c9, c10, c11, c12, c13, c14, ⟨z1, z2, ⟨z3, z4, z5⟩, z6, z7, z8⟩, zl⟩ := d0
      exact ⟨c1, c2, c3, c4, c5, c6, c7, c8, c9, c10, c11, c12, c13, c14, ⟨(up _ (by omega)).trans z1, bv_R_fr (fun i hi => up _ (by omega)) z2, ⟨(up _ (by omega)).trans z3, (up _ (by omega)).trans z4, (up _ (by omega)).trans z5⟩, (up _ (by omega)).trans z6, (up _ (by omega)).trans z7, (up _ (by omega)).trans z8⟩, zl⟩
    obtain ⟨h4, E4, q1, q2, q3⟩ := fin (ss_hs h20 39 (26, [], [], il.set q (some h.1))) h.1 (by omega) (Or.inl (fun i hi => hfr _ (by omega))) (fun q' hq' => by
      have hq4 : q' < 4 := by
        have := (List.getElem?_eq_some_iff.mp hq').1
        omega
      have iq' := Fi.2.1 q' hq4
      cases hI' : I q' with
      | none =>
        rw [hI'] at iq'
        have iq' : il[q']? = some none := iq'
        rw [iq'] at hq'
        cases hq'
      | some zz =>
        obtain ⟨s, f, y⟩ := zz
        rw [hI'] at iq'
        obtain ⟨u, u1, u2⟩ := iq'
        rw [u1] at hq'
        have e := Option.some.inj (Option.some.inj hq')
        have tt := (qw_tags u2).1
        have t9 := hfr u (by omega)
        rw [eh, pk_out (by unfold pk_fr; omega), tt] at t9
        omega) (by show 142 ≤ h20.1; omega) (fun p hp => by have hp : h20.1 ≤ p := hp; omega) (by show h.1 + 15 ≤ h20.1; omega) (pb_hse h20 39 _) (fun p p1 p2 => by rw [up p p2]; exact R20 p (by omega)) (fun p p1 p2 => by rw [up p (by omega)]; exact R20 p p2) d1
    refine ⟨pv a 10, T, a, fo, x, RS, US, _, ⟨h4, ?_, q1, q2, q3⟩, ⟨g', f1, mb_mo m1⟩, hasN⟩
    unfold mm_S_image
    simp (disch := omega) only [pb_its, pb_l2, pb_ll, nI_add, pb_mul, if_true, if_false, pb_bs, pb_b2n, pb_bz0, pb_bz1, pb_10, pb_01, pb_i31, i0, n0, g05, len, n1, r13, Option.isSome, E17, E20, ur, E4]
    rfl
  | some zz =>
    obtain ⟨s, f, y⟩ := zz
    have iq := Fi.2.1 q hq
    rw [hI] at iq
    obtain ⟨w, w1, w2⟩ := iq
    have hw := w2.1
    have w3 : qw_R h.2 w s f y := qw_R_f2 (fun p hp => by rw [eh, pk_out (by unfold pk_fr; omega)]) w2
    have tt := qw_tags w3
    have r13 : ss_ar h (some 39) 26 (nI q) = some (some w) := (arq h il C31).trans w1
    have wn : w + 15 ≤ h.1 := by
      rcases Nat.lt_or_ge (w + 14) h.1 with c | c
      · omega
      · have t9 := hfr (w + 14) c
        have := tt.2 14 (by omega) (by omega)
        omega
    have ils : il.set q (some w) = il := by
      apply List.ext_getElem?
      intro i
      by_cases c : i = q
      · rw [c, List.getElem?_set_self (by omega), w1]
      · rw [List.getElem?_set_ne (fun e => c e.symm)]
    obtain ⟨h4, E4, q1, q2, q3⟩ := fin h w hw (Or.inr tt) (fun q' hq' => Fi.2.2 q' q w hq' w1) (by omega) (fun p hp => hp) wn (by rw [ils]; exact C31) (fun _ _ _ => rfl) (fun _ _ _ => rfl) (wq_ws w3.2)
    refine ⟨pv a 10, T, a, fo, x, RS, US, _, ⟨h4, ?_, q1, q2, q3⟩, ⟨g', f1, mb_mo m1⟩, hasN⟩
    unfold mm_S_image
    simp (disch := omega) only [pb_its, pb_l2, pb_ll, nI_add, pb_mul, if_true, if_false, pb_bs, pb_b2n, pb_bz0, pb_bz1, pb_10, pb_01, pb_i31, i0, n0, g05, len, n1, r13, Option.isSome, E4]
theorem jx_back {N : Nat} {h h2 : ss_Hp} {z : Int32} {T : List Nat} {a : List Int32} {fo x : Int32} {RS : List (List ru_C)} {US : List (List Int32)} {I : Nat → Option (List Int32 × Int32 × Int32)} (hc : cl_h h T a fo x RS US I) (hm : mo_h h2 T a fo x RS US I) (ha : as_ok T a fo x RS US I) (hN : 5000 < N) : jo (mm_S_back N (some 0) z h) (mm_M_back N (some 118) z h2) h h2 := by
  have hc0 := hc
  obtain ⟨Z, hb⟩ := cb_of hc
  obtain ⟨v, ⟨⟨bV, bI, bT, bF, bD, bS, bH⟩, ⟨bR0, bR1, bR2, bR3, bR4⟩, ⟨bFo, bX, bNo⟩, ⟨bG0, bG1, bG2, bG3⟩, bOwn, bStr, bBes, bSn, bWl, bNd, bCl⟩⟩ := cb_r hb
  have hk := cb_ck hb
  obtain ⟨th, fa, kp, dx, Y, hm1⟩ := mb_of hm
  have hk2 := mb_mk hm1
  have ha0 := ha
  obtain ⟨⟨Ht1, Ht2⟩, ⟨k, m, d, Hsd, Hul, Hu⟩, HRS, Hfo, Hx, HI⟩ := ha
  have Hok := Hsd.1
  obtain ⟨Hl, ⟨Hk, H2⟩, ⟨Hm, H3⟩, ⟨Hd, H10⟩, Hwl, Hbe, How⟩ := Hok
  obtain ⟨n, g, rc, ti, tb, vt, ri, cd, sx, rl, wi, wv, gi, gs, gw, nd, ns, nw, il, ai, yv, yr, yi, ys, yw, yt, yh, yf, yo, yk, fr, fg, pl, pc, pg, eh, F⟩ := hc0
  have Fn := F.1
  have Fi := F.2.2.2.2.2.2.1
  have l4 : il.length = 4 := Fi.1
  have eN : h.1 = n := by rw [eh]; rfl
  have C0 : h.2 0 = (11, [rc], [], [some 1, some 3, some 20, some 23, some 24, some 39, some 40, some 102, some 111, some 114]) := by rw [eh]; exact pk_c0
  have C31 : h.2 39 = (26, [], [], il) := by rw [eh]; exact pk_c39
  have len : ss_len h (some 39) 26 = some (nI 4) := by
    unfold ss_len
    simp only [C31]
    rw [← l4]
    rfl
  have i0 : ss_is h (some 0) 11 = true := pb_is C0
  have g05 : ss_gr h (some 0) 11 5 = some (some 39) := pb_gr C0 5
  have g04 : ss_gr h (some 0) 11 4 = some (some 24) := pb_gr C0 4
  rcases pk_ix z (n := 4) (by omega) with c | c | ⟨q, hq, rfl⟩
  · replace c : z < nI 0 := c
    have ns : ¬ sp_in z 0 3 := fun s => s.1 c
    refine jo_no hc hm ha0 (r := -nI 1) ?_ ?_
    · unfold mm_S_back mm_S_back_j22
      simp (disch := omega) only [pb_its, pb_l2, pb_ll, nI_add, pb_mul, if_true, if_false, pb_bs, pb_b2n, pb_bz0, pb_bz1, pb_10, pb_01, pb_i31, i0, c]
    · unfold mm_M_back mm_M_back_j21
      simp (disch := omega) only [pb_its, pb_l2, pb_ll, nI_add, pb_mul, if_true, if_false, pb_bs, pb_b2n, pb_bz0, pb_bz1, pb_10, pb_01, pb_i31, mk_is hk2, mk_g0 hk2, mk_g1 hk2, mk_g2 hk2, mk_g3 hk2, mk_g4 hk2, mk_g5 hk2, mk_g6 hk2, mk_g7 hk2, mk_g8 hk2, mk_g9 hk2, mk_g10 hk2, mk_g11 hk2, mk_g12 hk2, mk_g13 hk2, mk_g14 hk2, mk_g15 hk2, mk_g16 hk2, mk_g17 hk2, mk_g18 hk2, mk_g19 hk2, mk_g20 hk2, mk_g21 hk2, mk_g22 hk2, po_inC, pb_cf ns]
  · have n0 : ¬ z < nI 0 := fun q => absurd (Int32.lt_of_le_of_lt c q) (nI_nlt (by omega) (by omega))
    have ns : ¬ sp_in z 0 3 := fun s => absurd (Int32.le_trans c (Int32.not_lt.mp s.2)) (nI_ge (by omega) (by omega))
    refine jo_no hc hm ha0 (r := -nI 1) ?_ ?_
    · unfold mm_S_back mm_S_back_j22
      simp (disch := omega) only [pb_its, pb_l2, pb_ll, nI_add, pb_mul, if_true, if_false, pb_bs, pb_b2n, pb_bz0, pb_bz1, pb_10, pb_01, pb_i31, i0, n0, g05, len, c]
    · unfold mm_M_back mm_M_back_j21
      simp (disch := omega) only [pb_its, pb_l2, pb_ll, nI_add, pb_mul, if_true, if_false, pb_bs, pb_b2n, pb_bz0, pb_bz1, pb_10, pb_01, pb_i31, mk_is hk2, mk_g0 hk2, mk_g1 hk2, mk_g2 hk2, mk_g3 hk2, mk_g4 hk2, mk_g5 hk2, mk_g6 hk2, mk_g7 hk2, mk_g8 hk2, mk_g9 hk2, mk_g10 hk2, mk_g11 hk2, mk_g12 hk2, mk_g13 hk2, mk_g14 hk2, mk_g15 hk2, mk_g16 hk2, mk_g17 hk2, mk_g18 hk2, mk_g19 hk2, mk_g20 hk2, mk_g21 hk2, mk_g22 hk2, po_inC, pb_cf ns]
  have n0 : ¬ nI q < nI 0 := nI_nlt (by omega) (by omega)
  have n1 : ¬ nI 4 ≤ nI q := nI_ge hq (by omega)
  have arq : ss_ar h (some 39) 26 (nI q) = il[q]? := pb_ar C31 (by omega)
  have iq := Fi.2.1 q hq
  cases hI : I q with
  | none =>
    rw [hI] at iq
    have iq : il[q]? = some none := iq
    rw [iq] at arq
    have si := sp_in_of (q := q) (lo := 0) (hi := 3) (by omega) (by omega) (by omega)
    have mk0 : ss_ai h2 (some 141) 22 (nI q) = some (nI 0) := by
      obtain ⟨n, f, mi, dx, tp, sg, lg, cl, cs, rd, op, sk, wd, sd, th, fa, ws, kp, li, pr, hb, fi, st, im, jf, jx, mk, e, F2, -⟩ := hm1
      have mq := F2.2.2.2.2.2.2 q hq
      rw [hI] at mq
      have mq : pv mk q = nI 0 := mq
      rw [e, pn_a22 (by have := F2.2.1; omega) (by omega), mq]
    refine jo_no hc hm ha0 (r := -nI 1) ?_ ?_
    · unfold mm_S_back mm_S_back_j22
      simp (disch := omega) only [pb_its, pb_l2, pb_ll, nI_add, pb_mul, if_true, if_false, pb_bs, pb_b2n, pb_bz0, pb_bz1, pb_10, pb_01, pb_i31, i0, n0, g05, len, n1, arq, Option.isSome]
      rfl
    · unfold mm_M_back mm_M_back_j21
      simp (disch := omega) only [pb_its, pb_l2, pb_ll, nI_add, pb_mul, if_true, if_false, pb_bs, pb_b2n, pb_bz0, pb_bz1, pb_10, pb_01, pb_i31, mk_is hk2, mk_g0 hk2, mk_g1 hk2, mk_g2 hk2, mk_g3 hk2, mk_g4 hk2, mk_g5 hk2, mk_g6 hk2, mk_g7 hk2, mk_g8 hk2, mk_g9 hk2, mk_g10 hk2, mk_g11 hk2, mk_g12 hk2, mk_g13 hk2, mk_g14 hk2, mk_g15 hk2, mk_g16 hk2, mk_g17 hk2, mk_g18 hk2, mk_g19 hk2, mk_g20 hk2, mk_g21 hk2, mk_g22 hk2, po_inC, pb_ct si, mk0]
  | some zz =>
    obtain ⟨s, f, y⟩ := zz
    rw [hI] at iq
    obtain ⟨w, w1, w2⟩ := iq
    rw [w1] at arq
    obtain ⟨⟨ks, ms, ds, sds⟩, fok, yok⟩ := HI q s f y hI
    obtain ⟨g', f1, m1⟩ := mb_back (N := N) (q := q) hm1 Hl sds.1.1 hq hI hN
    have hw := w2.1
    have w3 : qw_R h.2 w s f y := qw_R_f2 (fun p hp => by rw [eh, pk_out (by unfold pk_fr; omega)]) w2
    have now := cl_now eh F
    obtain ⟨Frc, Ft, Fr, Fl, ⟨Fw, ⟨v', Fv, Fq⟩, Fg, Fs, Fwl, Fno⟩, -, ⟨nx, Fa, Fu⟩, Fy, Ff⟩ := F.2
    have ev : v' = 25 := Option.some.inj (Fv.symm.trans Fr.2.2.2.2.2.1)
    subst ev
    obtain ⟨h11, E11, A11, b0, B11⟩ := wo_copy (N := N) (h := h) (p := 24) (q := w) (Or.inl rfl) (wq_ws now) w3.2 (by omega)
    have k32 : h11.2 40 = (3, [nI nx, nI US.length], [], [some 41]) := by
      rw [B11 40 (by omega), eh, ← Fa]
      exact pk_c40
    obtain ⟨h13, E13, A13, B13⟩ : ∃ h13, ss_pi h11 (some 40) 3 1 (nI 0) = some h13 ∧ h13.1 = h11.1 ∧ ∀ y, h13.2 y = if y = 40 then (3, [nI nx, nI 0], [], [some 41]) else h11.2 y := ⟨_, pb_pi k32 (by simp) _, rfl, fun _ => rfl⟩
    have R13 : ∀ y, y ≠ 40 → h13.2 y = h11.2 y := fun y hy => by rw [B13, if_neg hy]
    have R : ∀ y, y < 24 ∨ 39 ≤ y → y ≠ 40 → h13.2 y = h.2 y := fun y a j => by rw [R13 y j, B11 y a]
    have hg : ∀ p, (4 ≤ p ∧ p < 20) ∨ (42 ≤ p ∧ p < 102) ∨ 142 ≤ p → h13.2 p = g p := fun p hp => by rw [R p (by omega) (by omega), eh, pk_out (by unfold pk_fr; omega)]
    have b0 : wq_R h13.2 24 s f y := wq_R_x (fun j hj => R13 _ (by omega)) b0
    obtain ⟨⟨b1, b2⟩, ⟨W, x1, ⟨x2, x3, x4⟩, x5⟩, nd', ns', nw', y1, y2, y3, y4⟩ := b0
    have Fl9 : ql_R h13.2 rl RS := ⟨Fl.1, fun r hr => ⟨fun h1 => (by
      obtain ⟨p, p1, p2⟩ := (Fl.2 r hr).1 h1
      have := p2.1
      exact ⟨p, p1, rc_R_x (fun j hj => hg _ (by omega)) p2⟩), (Fl.2 r hr).2⟩⟩
    have Fi9 : qi_R h13.2 il I := ⟨Fi.1, fun q' hq' => (by
      have := Fi.2.1 q' hq'
      cases hI' : I q' with
      | none => rw [hI'] at this; exact this
      | some zz' =>
        obtain ⟨s', f', y'⟩ := zz'
        rw [hI'] at this
        obtain ⟨u, u1, u2⟩ := this
        have := u2.1
        exact ⟨u, u1, qw_R_x (fun j hj => hg _ (by omega)) u2⟩), Fi.2.2⟩
    refine ⟨pv s 10, T, s, f, y, RS, [], I, ⟨h13, ?_, ⟨h13.1, h13.2, rc, ti, tb, vt, ri, cd, sx, rl, [f, y, pv s 123], some 25, [pv s 11, pv s 12, pv s 13, pv s 10], sl s 14 8, W, nd', ns', nw', il, [nI nx, nI 0], yv, yr, yi, ys, yw, yt, yh, yf, yo, yk, fr, fg, pl, pc, pg, pk_re (n := n) (g := g) (fun p q => ?_), by omega, Frc, Ft, ⟨Fr.1, Fr.2.1, Fr.2.2.1, Fr.2.2.2.1, Fv ▸ fx_R_of (fun p p1 p2 => hg p (by omega)) Fr.2.2.2.2⟩, Fl9, ⟨rfl, ⟨25, rfl, b2⟩, rfl, rfl, ⟨x1, x5⟩, y4⟩, Fi9, ⟨nx, rfl, (qu_R_x (fun p p1 p2 => hg p (by omega)) Fu).1, (qu_R_x (fun p p1 p2 => hg p (by omega)) Fu).2.1, (fun j hj => absurd hj (Nat.not_lt_zero j))⟩, Fy, Ff⟩, fun p hp => R p (by omega) (by omega), fun ff p hp => ?_⟩, ⟨g', f1, mb_mo m1⟩, ⟨⟨Ht1, Ht2⟩, ⟨ks, ms, ds, sds, Nat.zero_le _, (fun j hj => absurd hj (Nat.not_lt_zero j))⟩, HRS, fok, yok, HI⟩⟩
    · have k0 : h11.2 0 = (11, [rc], [], [some 1, some 3, some 20, some 23, some 24, some 39, some 40, some 102, some 111, some 114]) := (B11 0 (by omega)).trans C0
      have s1 : ss_gr h11 (some 0) 11 6 = some (some 40) := pb_gr k0 6
      have s2 : ss_is h11 (some 40) 3 = true := pb_is k32
      have s3 : ss_gr h13 (some 0) 11 4 = some (some 24) := pb_gr ((R13 0 (by omega)).trans k0) 4
      have s4 : ss_gr h13 (some 24) 8 1 = some (some 33) := pb_gr b1 1
      have s5 : ss_gi h13 (some 33) 0 3 = some (pv s 10) := pb_gi x2 3
      unfold mm_S_back mm_A_forget
      simp (disch := omega) only [pb_its, pb_l2, pb_ll, nI_add, pb_mul, if_true, if_false, pb_bs, pb_b2n, pb_bz0, pb_bz1, pb_10, pb_01, pb_i31, i0, n0, g05, len, n1, arq, Option.isSome, g04, E11, s1, s2, E13, s3, s4, s5]
    · have hp : p = 0 ∨ p = 1 ∨ p = 2 ∨ p = 3 ∨ p = 20 ∨ p = 21 ∨ p = 22 ∨ p = 23 ∨ p = 24 ∨ p = 33 ∨ p = 34 ∨ p = 35 ∨ p = 36 ∨ p = 37 ∨ p = 38 ∨ p = 39 ∨ p = 40 ∨ p = 41 ∨ p = 102 ∨ p = 103 ∨ p = 104 ∨ p = 105 ∨ p = 106 ∨ p = 107 ∨ p = 108 ∨ p = 109 ∨ p = 110 ∨ p = 111 ∨ p = 112 ∨ p = 113 ∨ p = 114 ∨ p = 115 ∨ p = 116 ∨ p = 117 := by
        unfold pk_fr at q
        omega
      rcases hp with hp | hp | hp | hp | hp | hp | hp | hp | hp | hp | hp | hp | hp | hp | hp | hp | hp | hp | hp | hp | hp | hp | hp | hp | hp | hp | hp | hp | hp | hp | hp | hp | hp | hp
      · subst hp
        rw [R 0 (by omega) (by omega), eh]
        rfl
      · subst hp
        rw [R 1 (by omega) (by omega), eh]
        rfl
      · subst hp
        rw [R 2 (by omega) (by omega), eh]
        rfl
      · subst hp
        rw [R 3 (by omega) (by omega), eh]
        rfl
      · subst hp
        rw [R 20 (by omega) (by omega), eh]
        rfl
      · subst hp
        rw [R 21 (by omega) (by omega), eh]
        rfl
      · subst hp
        rw [R 22 (by omega) (by omega), eh]
        rfl
      · subst hp
        rw [R 23 (by omega) (by omega), eh]
        rfl
      · subst hp
        exact b1
      · subst hp
        exact x2
      · subst hp
        exact x3
      · subst hp
        exact x4
      · subst hp
        exact y1
      · subst hp
        exact y2
      · subst hp
        exact y3
      · subst hp
        rw [R 39 (by omega) (by omega), eh]
        rfl
      · subst hp
        rw [B13, if_pos rfl]
        rfl
      · subst hp
        rw [R 41 (by omega) (by omega), eh]
        rfl
      · subst hp
        rw [R 102 (by omega) (by omega), eh]
        rfl
      · subst hp
        rw [R 103 (by omega) (by omega), eh]
        rfl
      · subst hp
        rw [R 104 (by omega) (by omega), eh]
        rfl
      · subst hp
        rw [R 105 (by omega) (by omega), eh]
        rfl
      · subst hp
        rw [R 106 (by omega) (by omega), eh]
        rfl
      · subst hp
        rw [R 107 (by omega) (by omega), eh]
        rfl
      · subst hp
        rw [R 108 (by omega) (by omega), eh]
        rfl
      · subst hp
        rw [R 109 (by omega) (by omega), eh]
        rfl
      · subst hp
        rw [R 110 (by omega) (by omega), eh]
        rfl
      · subst hp
        rw [R 111 (by omega) (by omega), eh]
        rfl
      · subst hp
        rw [R 112 (by omega) (by omega), eh]
        rfl
      · subst hp
        rw [R 113 (by omega) (by omega), eh]
        rfl
      · subst hp
        rw [R 114 (by omega) (by omega), eh]
        rfl
      · subst hp
        rw [R 115 (by omega) (by omega), eh]
        rfl
      · subst hp
        rw [R 116 (by omega) (by omega), eh]
        rfl
      · subst hp
        rw [R 117 (by omega) (by omega), eh]
        rfl
    · have hp : h13.1 ≤ p := hp
      rw [R p (by omega) (by omega)]
      exact ff p (by omega)
