/-! ===== the model, its heap not shown ===== -/
theorem mo_F_of {T : List Nat} {a : List Int32} {fo x : Int32} {RS : List (List ru_C)} {US : List (List Int32)} {I : Nat → Option (List Int32 × Int32 × Int32)} {n : Nat} {f : Nat → ss_Cl} {mi : List Int32} {dx : Int64} {tp : List Int32} {sg : List Int32} {lg : List Int32} {cl : List Int32} {cs : List Int32} {rd : List Int32} {op : List Int32} {sk : List Int64} {wd : List Int64} {sd : List Int32} {th : List Int32} {fa : List Int32} {ws : List Int32} {kp : List Int32} {li : List Int32} {pr : List Int32} {hb : List Int32} {fi : List Int32} {st : List Int32} {im : List Int32} {jf : List Int32} {jx : List Int32} {mk : List Int32} {n' : Nat} {f' : Nat → ss_Cl} {mi' : List Int32} {dx' : Int64} {sk' wd' : List Int64} {th' fa' kp' li' pr' hb' fi' st' : List Int32} (F : mo_F n f mi dx tp sg lg cl cs rd op sk wd sd th fa ws kp li pr hb fi st im jf jx mk T a fo x RS US I) (h1 : mi'.length = 16) (h2 : ∀ j, j = 0 ∨ j = 1 ∨ j = 13 ∨ j = 14 ∨ j = 15 → pv mi' j = pv mi j) (l1 : sk'.length = 64 ∧ wd'.length = 12 ∧ th'.length = 8 ∧ fa'.length = 8 ∧ kp'.length = 20) (l2 : li'.length = 488 ∧ pr'.length = 8 ∧ hb'.length = 64 ∧ fi'.length = 7 ∧ st'.length = 56) : mo_F n' f' mi' dx' tp sg lg cl cs rd op sk' wd' sd th' fa' ws kp' li' pr' hb' fi' st' im jf jx mk T a fo x RS US I := by
  obtain ⟨⟨Lmi, Ltp, Lsg, Llg, Lcl, Lcs, Lrd, Lop, Lsk, Lwd, Lth, Lfa⟩, ⟨Lws, Lkp, Lli, Lpr, Lhb, Lfi, Lst, Lim, Ljf, Ljx, Lmk⟩, ⟨Mt1, Mt2⟩, ⟨Mr1, Mr2⟩, ⟨M13, M14, Ma⟩, ⟨M15, Mu⟩, Mim⟩ := F
  obtain ⟨p1, p2, p3, p4, p5⟩ := l1
  obtain ⟨q1, q2, q3, q4, q5⟩ := l2
  exact ⟨⟨h1, Ltp, Lsg, Llg, Lcl, Lcs, Lrd, Lop, p1, p2, p3, p4⟩, ⟨Lws, p5, q1, q2, q3, q4, q5, Lim, Ljf, Ljx, Lmk⟩, ⟨by rw [h2 0 (by omega)]; exact Mt1, Mt2⟩, ⟨by rw [h2 1 (by omega)]; exact Mr1, Mr2⟩, ⟨by rw [h2 13 (by omega)]; exact M13, by rw [h2 14 (by omega)]; exact M14, Ma⟩, ⟨by rw [h2 15 (by omega)]; exact M15, Mu⟩, Mim⟩
def mb_h (h0 h : ss_Hp) (T : List Nat) (a : List Int32) (fo x : Int32) (RS : List (List ru_C)) (US : List (List Int32)) (I : Nat → Option (List Int32 × Int32 × Int32)) (fo2 : Int32) (b th2 fa2 kp2 : List Int32) (dx2 : Int64) (Z : Nat → List Int32) : Prop := ∃ n f mi dx tp sg lg cl cs rd op sk wd sd th fa ws kp li pr hb fi st im jf jx mk, h = pm_M n f mi dx tp sg lg cl cs rd op sk wd sd th fa ws kp li pr hb fi st im jf jx mk ∧ mo_F n f (mi.set 13 fo) dx tp sg lg cl cs rd op sk wd a th fa ws kp li pr hb fi st im jf jx mk T a fo x RS US I ∧ pv mi 13 = fo2 ∧ (sd = b ∧ th = th2 ∧ fa = fa2 ∧ kp = kp2 ∧ dx = dx2) ∧ (li = Z 0 ∧ pr = Z 1 ∧ hb = Z 2 ∧ fi = Z 3 ∧ st = Z 4) ∧ n = h0.1 ∧ ∀ p, p < 118 ∨ 142 ≤ p → f p = h0.2 p
theorem mb_of {h : ss_Hp} {T : List Nat} {a : List Int32} {fo x : Int32} {RS : List (List ru_C)} {US : List (List Int32)} {I : Nat → Option (List Int32 × Int32 × Int32)} (hm : mo_h h T a fo x RS US I) : ∃ th fa kp dx Z, mb_h h h T a fo x RS US I fo a th fa kp dx Z := by
  obtain ⟨n, f, mi, dx, tp, sg, lg, cl, cs, rd, op, sk, wd, sd, th, fa, ws, kp, li, pr, hb, fi, st, im, jf, jx, mk, e, F⟩ := hm
  have h13 := F.2.2.2.2.1.1
  have hsd := F.2.2.2.2.1.2.2
  subst hsd
  refine ⟨th, fa, kp, dx, (fun j => if j = 0 then li else if j = 1 then pr else if j = 2 then hb else if j = 3 then fi else st), n, f, mi, dx, tp, sg, lg, cl, cs, rd, op, sk, wd, sd, th, fa, ws, kp, li, pr, hb, fi, st, im, jf, jx, mk, e, ?_, h13, ⟨rfl, rfl, rfl, rfl, rfl⟩, ⟨rfl, rfl, rfl, rfl, rfl⟩, by rw [e]; rfl, fun p hp => by rw [e]; exact (pm_out2 hp).symm⟩
  rw [← h13, pb_self (by rw [F.1.1]; omega), h13]
  exact F
theorem mb_mo {h0 h : ss_Hp} {T : List Nat} {a : List Int32} {fo x : Int32} {RS : List (List ru_C)} {US : List (List Int32)} {I : Nat → Option (List Int32 × Int32 × Int32)} {th2 fa2 kp2 : List Int32} {dx2 : Int64} {Z : Nat → List Int32} (hc : mb_h h0 h T a fo x RS US I fo a th2 fa2 kp2 dx2 Z) : mo_h h T a fo x RS US I ∧ h.1 = h0.1 ∧ ∀ p, p < 118 ∨ 142 ≤ p → h.2 p = h0.2 p := by
  obtain ⟨n, f, mi, dx, tp, sg, lg, cl, cs, rd, op, sk, wd, sd, th, fa, ws, kp, li, pr, hb, fi, st, im, jf, jx, mk, e, F, hfo, ⟨w1, w2, w3, w4, w5⟩, z, hn, hf⟩ := hc
  subst w1 w2 w3 w4 w5
  have hl := F.1.1
  rw [List.length_set] at hl
  rw [← hfo, pb_self (by omega), hfo] at F
  refine ⟨⟨n, f, mi, dx, tp, sg, lg, cl, cs, rd, op, sk, wd, sd, th, fa, ws, kp, li, pr, hb, fi, st, im, jf, jx, mk, e, F⟩, by rw [e]; exact hn, fun p hp => by rw [e, pm_out2 hp]; exact hf p hp⟩
theorem mb_mk {h0 h : ss_Hp} {T : List Nat} {a : List Int32} {fo x : Int32} {RS : List (List ru_C)} {US : List (List Int32)} {I : Nat → Option (List Int32 × Int32 × Int32)} {fo2 : Int32} {b th2 fa2 kp2 : List Int32} {dx2 : Int64} {Z : Nat → List Int32} (hc : mb_h h0 h T a fo x RS US I fo2 b th2 fa2 kp2 dx2 Z) : mk_h h := by
  obtain ⟨n, f, mi, dx, tp, sg, lg, cl, cs, rd, op, sk, wd, sd, th, fa, ws, kp, li, pr, hb, fi, st, im, jf, jx, mk, e, -⟩ := hc
  exact ⟨n, f, mi, dx, tp, sg, lg, cl, cs, rd, op, sk, wd, sd, th, fa, ws, kp, li, pr, hb, fi, st, im, jf, jx, mk, e⟩
theorem mb_len {h0 h : ss_Hp} {T : List Nat} {a : List Int32} {fo x : Int32} {RS : List (List ru_C)} {US : List (List Int32)} {I : Nat → Option (List Int32 × Int32 × Int32)} {fo2 : Int32} {b th2 fa2 kp2 : List Int32} {dx2 : Int64} {Z : Nat → List Int32} (hc : mb_h h0 h T a fo x RS US I fo2 b th2 fa2 kp2 dx2 Z) : (th2.length = 8 ∧ fa2.length = 8 ∧ kp2.length = 20) ∧ (Z 0).length = 488 ∧ (Z 1).length = 8 ∧ (Z 2).length = 64 ∧ (Z 3).length = 7 ∧ (Z 4).length = 56 := by
  obtain ⟨n, f, mi, dx, tp, sg, lg, cl, cs, rd, op, sk, wd, sd, th, fa, ws, kp, li, pr, hb, fi, st, im, jf, jx, mk, rfl, F, hfo, ⟨w1, w2, w3, w4, w5⟩, z, hn, hf⟩ := hc
  subst w1 w2 w3 w4 w5
  obtain ⟨⟨Lmi, Ltp, Lsg, Llg, Lcl, Lcs, Lrd, Lop, Lsk, Lwd, Lth, Lfa⟩, ⟨Lws, Lkp, Lli, Lpr, Lhb, Lfi, Lst, Lim, Ljf, Ljx, Lmk⟩, ⟨Mt1, Mt2⟩, ⟨Mr1, Mr2⟩, ⟨M13, M14, Ma⟩, ⟨M15, Mu⟩, Mim⟩ := id F
  rw [List.length_set] at Lmi
  obtain ⟨z0, z1, z2, z3, z4⟩ := z
  rw [← z0, ← z1, ← z2, ← z3, ← z4]
  exact ⟨⟨Lth, Lfa, Lkp⟩, Lli, Lpr, Lhb, Lfi, Lst⟩
theorem mb_pass {N : Nat} {h0 h : ss_Hp} {T : List Nat} {a : List Int32} {fo x : Int32} {RS : List (List ru_C)} {US : List (List Int32)} {I : Nat → Option (List Int32 × Int32 × Int32)} {fo2 : Int32} {b th2 fa2 kp2 : List Int32} {dx2 : Int64} {Z : Nat → List Int32} {k m d : Nat} (hc : mb_h h0 h T a fo x RS US I fo2 b th2 fa2 kp2 dx2 Z) (hR : sa_R b k m d) (hu : fo2 = -nI 1 ∨ ∃ r, r < RS.length ∧ fo2 = nI r) (h6 : RS.length ≤ 6) (hN : 400 < N) : ∃ h', mm_M_passes N (some 118) h = some (pv (dB (ro_of fo2 RS) k m b) 11, h') ∧ mb_h h0 h' T a fo x RS US I fo2 (dA (ro_of fo2 RS) k m b) (dT (ro_of fo2 RS) k m b th2) (dF (ro_of fo2 RS) k m b fa2) kp2 dx2 Z := by
  obtain ⟨n, f, mi, dx, tp, sg, lg, cl, cs, rd, op, sk, wd, sd, th, fa, ws, kp, li, pr, hb, fi, st, im, jf, jx, mk, rfl, F, hfo, ⟨w1, w2, w3, w4, w5⟩, z, hn, hf⟩ := hc
  subst w1 w2 w3 w4 w5
  obtain ⟨⟨Lmi, Ltp, Lsg, Llg, Lcl, Lcs, Lrd, Lop, Lsk, Lwd, Lth, Lfa⟩, ⟨Lws, Lkp, Lli, Lpr, Lhb, Lfi, Lst, Lim, Ljf, Ljx, Lmk⟩, ⟨Mt1, Mt2⟩, ⟨Mr1, Mr2⟩, ⟨M13, M14, Ma⟩, ⟨M15, Mu⟩, Mim⟩ := id F
  rw [List.length_set] at Lmi
  have ed : (pv sd 10).toNatClampNeg = d := by rw [hR.1.2.2.2.1.2, nI_clamp (by have := hR.1.2.2.2.1.1; omega)]
  have hro : ro_M mi cl sg cs (ro_of fo2 RS) := by
    unfold ro_of
    rcases hu with e | ⟨r, hr, e⟩
    · rw [e, if_pos pb_m1]
      show pv mi 13 < nI 0
      rw [hfo, e]
      exact pb_m1
    · have n0 : ¬ nI r < nI 0 := nI_nlt (by omega) (by omega)
      rw [e, if_neg n0, nI_clamp (by omega), List.getElem?_eq_getElem hr]
      have q := Mr2 r hr
      rw [List.getD_eq_getElem?_getD, List.getElem?_eq_getElem hr] at q
      exact ⟨r, by omega, by rw [hfo, e], q⟩
  generalize ro_of fo2 RS = ro at hro ⊢
  obtain ⟨t, sk', wd', p1, p2, p3⟩ := po_passes (n := n) (f := f) (mi := mi) (dx := dx) (tp := tp) (sg := sg) (lg := lg) (cl := cl) (cs := cs) (rd := rd) (op := op) (sk := sk) (wd := wd) (sd := sd) (th := th) (fa := fa) (ws := ws) (kp := kp) (li := li) (pr := pr) (hb := hb) (fi := fi) (st := st) (im := im) (jf := jf) (jx := jx) (mk := mk) (N := N) (d := d) (k := k) (m := m) (ro := ro) ⟨Lmi, Lsg, Lcl, Lcs⟩ Lsk Lwd Lth Lfa hR.1 hro hN
  have e1 : (sa_pd sd th ro d k m).1 = dB ro k m sd := by unfold dB; rw [ed]; exact sa_pd_th _ _ _ _ _ _ _
  have e2 : sa_night (dB ro k m sd) fa k = dA ro k m sd := sa_night_fa _ _ _ _
  have e3 : (sa_pd sd th ro d k m).2 = dT ro k m sd th := by unfold dT; rw [ed]
  have e4 : sa_nightF (dB ro k m sd) fa k = dF ro k m sd fa := rfl
  rw [e1, e2, e3, e4] at p3
  refine ⟨_, p3, n, f, _, _, tp, sg, lg, cl, cs, rd, op, _, _, _, _, _, ws, _, _, _, _, _, _, im, jf, jx, mk, rfl, mo_F_of F (by rw [List.length_set, List.length_set]; exact Lmi) (fun j hj => ?_) ⟨p1, p2, (dT_len hR).trans Lth, dF_len.trans Lfa, Lkp⟩ ⟨Lli, Lpr, Lhb, Lfi, Lst⟩, ?_, ⟨rfl, rfl, rfl, rfl, rfl⟩, z, hn, hf⟩
  · rw [pv_set (by rw [List.length_set]; omega), pv_set (show 13 < mi.length by omega)]
    by_cases e : j = 13
    · rw [if_pos e, if_pos e]
    · rw [if_neg e, if_neg e, pv_ne (by omega)]
  · rw [pv_ne (by omega)]; exact hfo
theorem mb_takes {N : Nat} {h0 h : ss_Hp} {T : List Nat} {a : List Int32} {fo x : Int32} {RS : List (List ru_C)} {US : List (List Int32)} {I : Nat → Option (List Int32 × Int32 × Int32)} {fo2 : Int32} {b th2 fa2 kp2 : List Int32} {dx2 : Int64} {Z : Nat → List Int32} {k m d i s : Nat} (hc : mb_h h0 h T a fo x RS US I fo2 b th2 fa2 kp2 dx2 Z) (hR : sa_R b k m d) (hi : i < 4) (hs : s < k) : ∃ h', mm_M_takes N (some 118) (nI i) (nI s) h = some (sa_much b i s, h') ∧ mb_h h0 h' T a fo x RS US I fo2 (sa_take b i s) (sa_takeT b th2 i s) fa2 kp2 dx2 Z := by
  obtain ⟨n, f, mi, dx, tp, sg, lg, cl, cs, rd, op, sk, wd, sd, th, fa, ws, kp, li, pr, hb, fi, st, im, jf, jx, mk, rfl, F, hfo, ⟨w1, w2, w3, w4, w5⟩, z, hn, hf⟩ := hc
  subst w1 w2 w3 w4 w5
  obtain ⟨⟨Lmi, Ltp, Lsg, Llg, Lcl, Lcs, Lrd, Lop, Lsk, Lwd, Lth, Lfa⟩, ⟨Lws, Lkp, Lli, Lpr, Lhb, Lfi, Lst, Lim, Ljf, Ljx, Lmk⟩, ⟨Mt1, Mt2⟩, ⟨Mr1, Mr2⟩, ⟨M13, M14, Ma⟩, ⟨M15, Mu⟩, Mim⟩ := id F
  rw [List.length_set] at Lmi
  have hk := hR.1.2.1.1
  have hw : pv sd (22 + s) < nI 0 ∨ ∃ t, t < 8 ∧ pv sd (22 + s) = nI t := by
    rcases hR.1.2.2.2.2.1 s hs with q | ⟨t, q1, q2⟩
    · exact Or.inl q
    · exact Or.inr ⟨t, by omega, q2⟩
  exact ⟨_, po_takes hR.1.1 Lth hi (by omega) hw, n, f, _, _, tp, sg, lg, cl, cs, rd, op, _, _, _, _, _, ws, _, _, _, _, _, _, im, jf, jx, mk, rfl, mo_F_of F (by rw [List.length_set]; exact Lmi) (fun _ _ => rfl) ⟨Lsk, Lwd, (sa_takeT_len _ _ _ _).trans Lth, Lfa, Lkp⟩ ⟨Lli, Lpr, Lhb, Lfi, Lst⟩, hfo, ⟨rfl, rfl, rfl, rfl, rfl⟩, z, hn, hf⟩
theorem mb_snows {N : Nat} {h0 h : ss_Hp} {T : List Nat} {a : List Int32} {fo x : Int32} {RS : List (List ru_C)} {US : List (List Int32)} {I : Nat → Option (List Int32 × Int32 × Int32)} {fo2 : Int32} {b th2 fa2 kp2 : List Int32} {dx2 : Int64} {Z : Nat → List Int32} {k m d : Nat} (hc : mb_h h0 h T a fo x RS US I fo2 b th2 fa2 kp2 dx2 Z) (hR : sa_R b k m d) (hN : 8 < N) : ∃ h', mm_M_snows N (some 118) h = some (pv b 11, h') ∧ mb_h h0 h' T a fo x RS US I fo2 (sa_night b z8 k) th2 (sa_nightF b fa2 k) kp2 dx2 Z := by
  obtain ⟨n, f, mi, dx, tp, sg, lg, cl, cs, rd, op, sk, wd, sd, th, fa, ws, kp, li, pr, hb, fi, st, im, jf, jx, mk, rfl, F, hfo, ⟨w1, w2, w3, w4, w5⟩, z, hn, hf⟩ := hc
  subst w1 w2 w3 w4 w5
  obtain ⟨⟨Lmi, Ltp, Lsg, Llg, Lcl, Lcs, Lrd, Lop, Lsk, Lwd, Lth, Lfa⟩, ⟨Lws, Lkp, Lli, Lpr, Lhb, Lfi, Lst, Lim, Ljf, Ljx, Lmk⟩, ⟨Mt1, Mt2⟩, ⟨Mr1, Mr2⟩, ⟨M13, M14, Ma⟩, ⟨M15, Mu⟩, Mim⟩ := id F
  rw [List.length_set] at Lmi
  have p := po_snows (n := n) (f := f) (mi := mi) (dx := dx) (tp := tp) (sg := sg) (lg := lg) (cl := cl) (cs := cs) (rd := rd) (op := op) (sk := sk) (wd := wd) (sd := sd) (th := th) (fa := fa) (ws := ws) (kp := kp) (li := li) (pr := pr) (hb := hb) (fi := fi) (st := st) (im := im) (jf := jf) (jx := jx) (mk := mk) (N := N) (k := k) hR.1.1 Lfa hR.1.2.1.1 hR.1.2.1.2 hN
  rw [sa_night_fa sd fa z8] at p
  exact ⟨_, p, n, f, _, _, tp, sg, lg, cl, cs, rd, op, _, _, _, _, _, ws, _, _, _, _, _, _, im, jf, jx, mk, rfl, mo_F_of F (by rw [List.length_set]; exact Lmi) (fun _ _ => rfl) ⟨Lsk, Lwd, Lth, (sa_nt_len _ _ _ _).2.trans Lfa, Lkp⟩ ⟨Lli, Lpr, Lhb, Lfi, Lst⟩, hfo, ⟨rfl, rfl, rfl, rfl, rfl⟩, z, hn, hf⟩
theorem mb_closed {N : Nat} {h0 h : ss_Hp} {T : List Nat} {a : List Int32} {fo x : Int32} {RS : List (List ru_C)} {US : List (List Int32)} {I : Nat → Option (List Int32 × Int32 × Int32)} {fo2 : Int32} {b th2 fa2 kp2 : List Int32} {dx2 : Int64} {Z : Nat → List Int32} {k : Nat} (hc : mb_h h0 h T a fo x RS US I fo2 b th2 fa2 kp2 dx2 Z) (hl : b.length = 124) (hk : k ≤ 8) (h2 : pv b 2 = nI k) (hN : 8 < N) : mm_M_closed N (some 118) h = some (sa_clo b k) := by
  obtain ⟨n, f, mi, dx, tp, sg, lg, cl, cs, rd, op, sk, wd, sd, th, fa, ws, kp, li, pr, hb, fi, st, im, jf, jx, mk, rfl, F, hfo, ⟨w1, w2, w3, w4, w5⟩, z, hn, hf⟩ := hc
  subst w1 w2 w3 w4 w5
  obtain ⟨⟨Lmi, Ltp, Lsg, Llg, Lcl, Lcs, Lrd, Lop, Lsk, Lwd, Lth, Lfa⟩, ⟨Lws, Lkp, Lli, Lpr, Lhb, Lfi, Lst, Lim, Ljf, Ljx, Lmk⟩, ⟨Mt1, Mt2⟩, ⟨Mr1, Mr2⟩, ⟨M13, M14, Ma⟩, ⟨M15, Mu⟩, Mim⟩ := id F
  rw [List.length_set] at Lmi
  exact po_closed hl hk h2 hN
theorem mb_sum {N : Nat} {h0 h : ss_Hp} {T : List Nat} {a : List Int32} {fo x : Int32} {RS : List (List ru_C)} {US : List (List Int32)} {I : Nat → Option (List Int32 × Int32 × Int32)} {fo2 : Int32} {b th2 fa2 kp2 : List Int32} {dx2 : Int64} {Z : Nat → List Int32} {k : Nat} (hc : mb_h h0 h T a fo x RS US I fo2 b th2 fa2 kp2 dx2 Z) (hl : b.length = 124) (hk : k ≤ 8) (h2 : pv b 2 = nI k) (hN : 8 < N) : mm_M_snowAll N (some 118) h = some (sa_sum b k) := by
  obtain ⟨n, f, mi, dx, tp, sg, lg, cl, cs, rd, op, sk, wd, sd, th, fa, ws, kp, li, pr, hb, fi, st, im, jf, jx, mk, rfl, F, hfo, ⟨w1, w2, w3, w4, w5⟩, z, hn, hf⟩ := hc
  subst w1 w2 w3 w4 w5
  obtain ⟨⟨Lmi, Ltp, Lsg, Llg, Lcl, Lcs, Lrd, Lop, Lsk, Lwd, Lth, Lfa⟩, ⟨Lws, Lkp, Lli, Lpr, Lhb, Lfi, Lst, Lim, Ljf, Ljx, Lmk⟩, ⟨Mt1, Mt2⟩, ⟨Mr1, Mr2⟩, ⟨M13, M14, Ma⟩, ⟨M15, Mu⟩, Mim⟩ := id F
  rw [List.length_set] at Lmi
  exact po_snowAll hl hk h2 hN
theorem mb_isClosed {N : Nat} {h0 h : ss_Hp} {T : List Nat} {a : List Int32} {fo x : Int32} {RS : List (List ru_C)} {US : List (List Int32)} {I : Nat → Option (List Int32 × Int32 × Int32)} {fo2 : Int32} {b th2 fa2 kp2 : List Int32} {dx2 : Int64} {Z : Nat → List Int32} {s : Nat} (hc : mb_h h0 h T a fo x RS US I fo2 b th2 fa2 kp2 dx2 Z) (hl : b.length = 124) (hs : s < 8) : mm_M_isClosed N (some 118) (nI s) h = some (if pv b (14 + s) < pv b 1 then nI 0 else nI 1) := by
  obtain ⟨n, f, mi, dx, tp, sg, lg, cl, cs, rd, op, sk, wd, sd, th, fa, ws, kp, li, pr, hb, fi, st, im, jf, jx, mk, rfl, F, hfo, ⟨w1, w2, w3, w4, w5⟩, z, hn, hf⟩ := hc
  subst w1 w2 w3 w4 w5
  obtain ⟨⟨Lmi, Ltp, Lsg, Llg, Lcl, Lcs, Lrd, Lop, Lsk, Lwd, Lth, Lfa⟩, ⟨Lws, Lkp, Lli, Lpr, Lhb, Lfi, Lst, Lim, Ljf, Ljx, Lmk⟩, ⟨Mt1, Mt2⟩, ⟨Mr1, Mr2⟩, ⟨M13, M14, Ma⟩, ⟨M15, Mu⟩, Mim⟩ := id F
  rw [List.length_set] at Lmi
  exact po_isClosed hl hs
theorem mb_isStep {N : Nat} {h0 h : ss_Hp} {T : List Nat} {a : List Int32} {fo x : Int32} {RS : List (List ru_C)} {US : List (List Int32)} {I : Nat → Option (List Int32 × Int32 × Int32)} {fo2 : Int32} {b th2 fa2 kp2 : List Int32} {dx2 : Int64} {Z : Nat → List Int32} {y : Int32} {dd : Decidable (sp_st b y)} (hc : mb_h h0 h T a fo x RS US I fo2 b th2 fa2 kp2 dx2 Z) (hl : b.length = 124) : mm_M_isStep N (some 118) y h = some (if sp_st b y then nI 1 else nI 0) := by
  obtain ⟨n, f, mi, dx, tp, sg, lg, cl, cs, rd, op, sk, wd, sd, th, fa, ws, kp, li, pr, hb, fi, st, im, jf, jx, mk, rfl, F, hfo, ⟨w1, w2, w3, w4, w5⟩, z, hn, hf⟩ := hc
  subst w1 w2 w3 w4 w5
  obtain ⟨⟨Lmi, Ltp, Lsg, Llg, Lcl, Lcs, Lrd, Lop, Lsk, Lwd, Lth, Lfa⟩, ⟨Lws, Lkp, Lli, Lpr, Lhb, Lfi, Lst, Lim, Ljf, Ljx, Lmk⟩, ⟨Mt1, Mt2⟩, ⟨Mr1, Mr2⟩, ⟨M13, M14, Ma⟩, ⟨M15, Mu⟩, Mim⟩ := id F
  rw [List.length_set] at Lmi
  rw [po_isStep hl, pb_ite2]
  rfl
theorem mb_isHouse {N : Nat} {h0 h : ss_Hp} {T : List Nat} {a : List Int32} {fo x : Int32} {RS : List (List ru_C)} {US : List (List Int32)} {I : Nat → Option (List Int32 × Int32 × Int32)} {fo2 : Int32} {b th2 fa2 kp2 : List Int32} {dx2 : Int64} {Z : Nat → List Int32} {y : Int32} {dd : Decidable (sp_ho b y)} (hc : mb_h h0 h T a fo x RS US I fo2 b th2 fa2 kp2 dx2 Z) (hl : b.length = 124) : mm_M_isHouse N (some 118) y h = some (if sp_ho b y then nI 1 else nI 0) := by
  obtain ⟨n, f, mi, dx, tp, sg, lg, cl, cs, rd, op, sk, wd, sd, th, fa, ws, kp, li, pr, hb, fi, st, im, jf, jx, mk, rfl, F, hfo, ⟨w1, w2, w3, w4, w5⟩, z, hn, hf⟩ := hc
  subst w1 w2 w3 w4 w5
  obtain ⟨⟨Lmi, Ltp, Lsg, Llg, Lcl, Lcs, Lrd, Lop, Lsk, Lwd, Lth, Lfa⟩, ⟨Lws, Lkp, Lli, Lpr, Lhb, Lfi, Lst, Lim, Ljf, Ljx, Lmk⟩, ⟨Mt1, Mt2⟩, ⟨Mr1, Mr2⟩, ⟨M13, M14, Ma⟩, ⟨M15, Mu⟩, Mim⟩ := id F
  rw [List.length_set] at Lmi
  rw [po_isHouse hl, pb_ite2]
  rfl
theorem mb_isValley {N : Nat} {h0 h : ss_Hp} {T : List Nat} {a : List Int32} {fo x : Int32} {RS : List (List ru_C)} {US : List (List Int32)} {I : Nat → Option (List Int32 × Int32 × Int32)} {fo2 : Int32} {b th2 fa2 kp2 : List Int32} {dx2 : Int64} {Z : Nat → List Int32} (hc : mb_h h0 h T a fo x RS US I fo2 b th2 fa2 kp2 dx2 Z) (hl : b.length = 124) : mm_M_isValley N (some 118) h = some (sa_told b) := by
  obtain ⟨n, f, mi, dx, tp, sg, lg, cl, cs, rd, op, sk, wd, sd, th, fa, ws, kp, li, pr, hb, fi, st, im, jf, jx, mk, rfl, F, hfo, ⟨w1, w2, w3, w4, w5⟩, z, hn, hf⟩ := hc
  subst w1 w2 w3 w4 w5
  obtain ⟨⟨Lmi, Ltp, Lsg, Llg, Lcl, Lcs, Lrd, Lop, Lsk, Lwd, Lth, Lfa⟩, ⟨Lws, Lkp, Lli, Lpr, Lhb, Lfi, Lst, Lim, Ljf, Ljx, Lmk⟩, ⟨Mt1, Mt2⟩, ⟨Mr1, Mr2⟩, ⟨M13, M14, Ma⟩, ⟨M15, Mu⟩, Mim⟩ := id F
  rw [List.length_set] at Lmi
  rw [po_isValley hl]
  rfl
theorem mb_own {N : Nat} {h0 h : ss_Hp} {T : List Nat} {a : List Int32} {fo x : Int32} {RS : List (List ru_C)} {US : List (List Int32)} {I : Nat → Option (List Int32 × Int32 × Int32)} {fo2 : Int32} {b th2 fa2 kp2 : List Int32} {dx2 : Int64} {Z : Nat → List Int32} {i : Nat} (hc : mb_h h0 h T a fo x RS US I fo2 b th2 fa2 kp2 dx2 Z) (hl : b.length = 124) (hi : i < 4) : mm_M_ownOf N (some 118) (nI i) h = some (pv b (38 + 2 * i)) := by
  obtain ⟨n, f, mi, dx, tp, sg, lg, cl, cs, rd, op, sk, wd, sd, th, fa, ws, kp, li, pr, hb, fi, st, im, jf, jx, mk, rfl, F, hfo, ⟨w1, w2, w3, w4, w5⟩, z, hn, hf⟩ := hc
  subst w1 w2 w3 w4 w5
  obtain ⟨⟨Lmi, Ltp, Lsg, Llg, Lcl, Lcs, Lrd, Lop, Lsk, Lwd, Lth, Lfa⟩, ⟨Lws, Lkp, Lli, Lpr, Lhb, Lfi, Lst, Lim, Ljf, Ljx, Lmk⟩, ⟨Mt1, Mt2⟩, ⟨Mr1, Mr2⟩, ⟨M13, M14, Ma⟩, ⟨M15, Mu⟩, Mim⟩ := id F
  rw [List.length_set] at Lmi
  exact po_ownOf hl hi
theorem mb_str {N : Nat} {h0 h : ss_Hp} {T : List Nat} {a : List Int32} {fo x : Int32} {RS : List (List ru_C)} {US : List (List Int32)} {I : Nat → Option (List Int32 × Int32 × Int32)} {fo2 : Int32} {b th2 fa2 kp2 : List Int32} {dx2 : Int64} {Z : Nat → List Int32} {i : Nat} (hc : mb_h h0 h T a fo x RS US I fo2 b th2 fa2 kp2 dx2 Z) (hl : b.length = 124) (hi : i < 4) : mm_M_strengthOf N (some 118) (nI i) h = some (pv b (38 + 2 * i + 1)) := by
  obtain ⟨n, f, mi, dx, tp, sg, lg, cl, cs, rd, op, sk, wd, sd, th, fa, ws, kp, li, pr, hb, fi, st, im, jf, jx, mk, rfl, F, hfo, ⟨w1, w2, w3, w4, w5⟩, z, hn, hf⟩ := hc
  subst w1 w2 w3 w4 w5
  obtain ⟨⟨Lmi, Ltp, Lsg, Llg, Lcl, Lcs, Lrd, Lop, Lsk, Lwd, Lth, Lfa⟩, ⟨Lws, Lkp, Lli, Lpr, Lhb, Lfi, Lst, Lim, Ljf, Ljx, Lmk⟩, ⟨Mt1, Mt2⟩, ⟨Mr1, Mr2⟩, ⟨M13, M14, Ma⟩, ⟨M15, Mu⟩, Mim⟩ := id F
  rw [List.length_set] at Lmi
  exact po_strengthOf hl hi
theorem mb_need {N : Nat} {h0 h : ss_Hp} {T : List Nat} {a : List Int32} {fo x : Int32} {RS : List (List ru_C)} {US : List (List Int32)} {I : Nat → Option (List Int32 × Int32 × Int32)} {fo2 : Int32} {b th2 fa2 kp2 : List Int32} {dx2 : Int64} {Z : Nat → List Int32} {d : Nat} (hc : mb_h h0 h T a fo x RS US I fo2 b th2 fa2 kp2 dx2 Z) (hl : b.length = 124) (hd : d < 2 ^ 31) : mm_M_neededOn N (some 118) (nI d) h = some (sa_need b d) := by
  obtain ⟨n, f, mi, dx, tp, sg, lg, cl, cs, rd, op, sk, wd, sd, th, fa, ws, kp, li, pr, hb, fi, st, im, jf, jx, mk, rfl, F, hfo, ⟨w1, w2, w3, w4, w5⟩, z, hn, hf⟩ := hc
  subst w1 w2 w3 w4 w5
  obtain ⟨⟨Lmi, Ltp, Lsg, Llg, Lcl, Lcs, Lrd, Lop, Lsk, Lwd, Lth, Lfa⟩, ⟨Lws, Lkp, Lli, Lpr, Lhb, Lfi, Lst, Lim, Ljf, Ljx, Lmk⟩, ⟨Mt1, Mt2⟩, ⟨Mr1, Mr2⟩, ⟨M13, M14, Ma⟩, ⟨M15, Mu⟩, Mim⟩ := id F
  rw [List.length_set] at Lmi
  exact po_neededOn hl hd
theorem mb_said {h0 h : ss_Hp} {T : List Nat} {a : List Int32} {fo x : Int32} {RS : List (List ru_C)} {US : List (List Int32)} {I : Nat → Option (List Int32 × Int32 × Int32)} {fo2 : Int32} {b th2 fa2 kp2 : List Int32} {dx2 : Int64} {Z : Nat → List Int32} {i : Nat} (hc : mb_h h0 h T a fo x RS US I fo2 b th2 fa2 kp2 dx2 Z) (hl : b.length = 124) (hi : i < 124) : ss_ai h (some 128) 20 (nI i) = some (pv b i) := by
  obtain ⟨n, f, mi, dx, tp, sg, lg, cl, cs, rd, op, sk, wd, sd, th, fa, ws, kp, li, pr, hb, fi, st, im, jf, jx, mk, rfl, F, hfo, ⟨w1, w2, w3, w4, w5⟩, z, hn, hf⟩ := hc
  subst w1 w2 w3 w4 w5
  obtain ⟨⟨Lmi, Ltp, Lsg, Llg, Lcl, Lcs, Lrd, Lop, Lsk, Lwd, Lth, Lfa⟩, ⟨Lws, Lkp, Lli, Lpr, Lhb, Lfi, Lst, Lim, Ljf, Ljx, Lmk⟩, ⟨Mt1, Mt2⟩, ⟨Mr1, Mr2⟩, ⟨M13, M14, Ma⟩, ⟨M15, Mu⟩, Mim⟩ := id F
  rw [List.length_set] at Lmi
  exact pn_a9 (by omega) (by omega)
theorem mb_set {h0 h : ss_Hp} {T : List Nat} {a : List Int32} {fo x : Int32} {RS : List (List ru_C)} {US : List (List Int32)} {I : Nat → Option (List Int32 × Int32 × Int32)} {fo2 : Int32} {b th2 fa2 kp2 : List Int32} {dx2 : Int64} {Z : Nat → List Int32} {i : Nat} {y : Int32} (hc : mb_h h0 h T a fo x RS US I fo2 b th2 fa2 kp2 dx2 Z) (hl : b.length = 124) (hi : i < 124) : ∃ h', ss_ui h (some 128) 20 (nI i) y = some h' ∧ mb_h h0 h' T a fo x RS US I fo2 (b.set i y) th2 fa2 kp2 dx2 Z := by
  obtain ⟨n, f, mi, dx, tp, sg, lg, cl, cs, rd, op, sk, wd, sd, th, fa, ws, kp, li, pr, hb, fi, st, im, jf, jx, mk, rfl, F, hfo, ⟨w1, w2, w3, w4, w5⟩, z, hn, hf⟩ := hc
  subst w1 w2 w3 w4 w5
  obtain ⟨⟨Lmi, Ltp, Lsg, Llg, Lcl, Lcs, Lrd, Lop, Lsk, Lwd, Lth, Lfa⟩, ⟨Lws, Lkp, Lli, Lpr, Lhb, Lfi, Lst, Lim, Ljf, Ljx, Lmk⟩, ⟨Mt1, Mt2⟩, ⟨Mr1, Mr2⟩, ⟨M13, M14, Ma⟩, ⟨M15, Mu⟩, Mim⟩ := id F
  rw [List.length_set] at Lmi
  exact ⟨_, pn_u9 (by omega) (by omega) y, n, f, _, _, tp, sg, lg, cl, cs, rd, op, _, _, _, _, _, ws, _, _, _, _, _, _, im, jf, jx, mk, rfl, mo_F_of F (by rw [List.length_set]; exact Lmi) (fun _ _ => rfl) ⟨Lsk, Lwd, Lth, Lfa, Lkp⟩ ⟨Lli, Lpr, Lhb, Lfi, Lst⟩, hfo, ⟨rfl, rfl, rfl, rfl, rfl⟩, z, hn, hf⟩
theorem mb_thr {h0 h : ss_Hp} {T : List Nat} {a : List Int32} {fo x : Int32} {RS : List (List ru_C)} {US : List (List Int32)} {I : Nat → Option (List Int32 × Int32 × Int32)} {fo2 : Int32} {b th2 fa2 kp2 : List Int32} {dx2 : Int64} {Z : Nat → List Int32} {i : Nat} (hc : mb_h h0 h T a fo x RS US I fo2 b th2 fa2 kp2 dx2 Z) (hi : i < 8) : ss_ai h (some 129) 20 (nI i) = some (pv th2 i) := by
  obtain ⟨n, f, mi, dx, tp, sg, lg, cl, cs, rd, op, sk, wd, sd, th, fa, ws, kp, li, pr, hb, fi, st, im, jf, jx, mk, rfl, F, hfo, ⟨w1, w2, w3, w4, w5⟩, z, hn, hf⟩ := hc
  subst w1 w2 w3 w4 w5
  obtain ⟨⟨Lmi, Ltp, Lsg, Llg, Lcl, Lcs, Lrd, Lop, Lsk, Lwd, Lth, Lfa⟩, ⟨Lws, Lkp, Lli, Lpr, Lhb, Lfi, Lst, Lim, Ljf, Ljx, Lmk⟩, ⟨Mt1, Mt2⟩, ⟨Mr1, Mr2⟩, ⟨M13, M14, Ma⟩, ⟨M15, Mu⟩, Mim⟩ := id F
  rw [List.length_set] at Lmi
  exact pn_a10 (by omega) (by omega)
theorem mb_fal {h0 h : ss_Hp} {T : List Nat} {a : List Int32} {fo x : Int32} {RS : List (List ru_C)} {US : List (List Int32)} {I : Nat → Option (List Int32 × Int32 × Int32)} {fo2 : Int32} {b th2 fa2 kp2 : List Int32} {dx2 : Int64} {Z : Nat → List Int32} {i : Nat} (hc : mb_h h0 h T a fo x RS US I fo2 b th2 fa2 kp2 dx2 Z) (hi : i < 8) : ss_ai h (some 130) 20 (nI i) = some (pv fa2 i) := by
  obtain ⟨n, f, mi, dx, tp, sg, lg, cl, cs, rd, op, sk, wd, sd, th, fa, ws, kp, li, pr, hb, fi, st, im, jf, jx, mk, rfl, F, hfo, ⟨w1, w2, w3, w4, w5⟩, z, hn, hf⟩ := hc
  subst w1 w2 w3 w4 w5
  obtain ⟨⟨Lmi, Ltp, Lsg, Llg, Lcl, Lcs, Lrd, Lop, Lsk, Lwd, Lth, Lfa⟩, ⟨Lws, Lkp, Lli, Lpr, Lhb, Lfi, Lst, Lim, Ljf, Ljx, Lmk⟩, ⟨Mt1, Mt2⟩, ⟨Mr1, Mr2⟩, ⟨M13, M14, Ma⟩, ⟨M15, Mu⟩, Mim⟩ := id F
  rw [List.length_set] at Lmi
  exact pn_a11 (by omega) (by omega)
theorem mb_setthr {h0 h : ss_Hp} {T : List Nat} {a : List Int32} {fo x : Int32} {RS : List (List ru_C)} {US : List (List Int32)} {I : Nat → Option (List Int32 × Int32 × Int32)} {fo2 : Int32} {b th2 fa2 kp2 : List Int32} {dx2 : Int64} {Z : Nat → List Int32} {i : Nat} {y : Int32} (hc : mb_h h0 h T a fo x RS US I fo2 b th2 fa2 kp2 dx2 Z) (hi : i < 8) : ∃ h', ss_ui h (some 129) 20 (nI i) y = some h' ∧ mb_h h0 h' T a fo x RS US I fo2 b (th2.set i y) fa2 kp2 dx2 Z := by
  obtain ⟨n, f, mi, dx, tp, sg, lg, cl, cs, rd, op, sk, wd, sd, th, fa, ws, kp, li, pr, hb, fi, st, im, jf, jx, mk, rfl, F, hfo, ⟨w1, w2, w3, w4, w5⟩, z, hn, hf⟩ := hc
  subst w1 w2 w3 w4 w5
  obtain ⟨⟨Lmi, Ltp, Lsg, Llg, Lcl, Lcs, Lrd, Lop, Lsk, Lwd, Lth, Lfa⟩, ⟨Lws, Lkp, Lli, Lpr, Lhb, Lfi, Lst, Lim, Ljf, Ljx, Lmk⟩, ⟨Mt1, Mt2⟩, ⟨Mr1, Mr2⟩, ⟨M13, M14, Ma⟩, ⟨M15, Mu⟩, Mim⟩ := id F
  rw [List.length_set] at Lmi
  exact ⟨_, pn_u10 (by omega) (by omega) y, n, f, _, _, tp, sg, lg, cl, cs, rd, op, _, _, _, _, _, ws, _, _, _, _, _, _, im, jf, jx, mk, rfl, mo_F_of F (by rw [List.length_set]; exact Lmi) (fun _ _ => rfl) ⟨Lsk, Lwd, by rw [List.length_set]; exact Lth, Lfa, Lkp⟩ ⟨Lli, Lpr, Lhb, Lfi, Lst⟩, hfo, ⟨rfl, rfl, rfl, rfl, rfl⟩, z, hn, hf⟩
theorem mb_setfal {h0 h : ss_Hp} {T : List Nat} {a : List Int32} {fo x : Int32} {RS : List (List ru_C)} {US : List (List Int32)} {I : Nat → Option (List Int32 × Int32 × Int32)} {fo2 : Int32} {b th2 fa2 kp2 : List Int32} {dx2 : Int64} {Z : Nat → List Int32} {i : Nat} {y : Int32} (hc : mb_h h0 h T a fo x RS US I fo2 b th2 fa2 kp2 dx2 Z) (hi : i < 8) : ∃ h', ss_ui h (some 130) 20 (nI i) y = some h' ∧ mb_h h0 h' T a fo x RS US I fo2 b th2 (fa2.set i y) kp2 dx2 Z := by
  obtain ⟨n, f, mi, dx, tp, sg, lg, cl, cs, rd, op, sk, wd, sd, th, fa, ws, kp, li, pr, hb, fi, st, im, jf, jx, mk, rfl, F, hfo, ⟨w1, w2, w3, w4, w5⟩, z, hn, hf⟩ := hc
  subst w1 w2 w3 w4 w5
  obtain ⟨⟨Lmi, Ltp, Lsg, Llg, Lcl, Lcs, Lrd, Lop, Lsk, Lwd, Lth, Lfa⟩, ⟨Lws, Lkp, Lli, Lpr, Lhb, Lfi, Lst, Lim, Ljf, Ljx, Lmk⟩, ⟨Mt1, Mt2⟩, ⟨Mr1, Mr2⟩, ⟨M13, M14, Ma⟩, ⟨M15, Mu⟩, Mim⟩ := id F
  rw [List.length_set] at Lmi
  exact ⟨_, pn_u11 (by omega) (by omega) y, n, f, _, _, tp, sg, lg, cl, cs, rd, op, _, _, _, _, _, ws, _, _, _, _, _, _, im, jf, jx, mk, rfl, mo_F_of F (by rw [List.length_set]; exact Lmi) (fun _ _ => rfl) ⟨Lsk, Lwd, Lth, by rw [List.length_set]; exact Lfa, Lkp⟩ ⟨Lli, Lpr, Lhb, Lfi, Lst⟩, hfo, ⟨rfl, rfl, rfl, rfl, rfl⟩, z, hn, hf⟩
theorem mb_setfo {h0 h : ss_Hp} {T : List Nat} {a : List Int32} {fo x : Int32} {RS : List (List ru_C)} {US : List (List Int32)} {I : Nat → Option (List Int32 × Int32 × Int32)} {fo2 : Int32} {b th2 fa2 kp2 : List Int32} {dx2 : Int64} {Z : Nat → List Int32} {y : Int32} (hc : mb_h h0 h T a fo x RS US I fo2 b th2 fa2 kp2 dx2 Z) : ∃ h', ss_pi h (some 118) 12 13 y = some h' ∧ mb_h h0 h' T a fo x RS US I y b th2 fa2 kp2 dx2 Z := by
  obtain ⟨n, f, mi, dx, tp, sg, lg, cl, cs, rd, op, sk, wd, sd, th, fa, ws, kp, li, pr, hb, fi, st, im, jf, jx, mk, rfl, F, hfo, ⟨w1, w2, w3, w4, w5⟩, z, hn, hf⟩ := hc
  subst w1 w2 w3 w4 w5
  obtain ⟨⟨Lmi, Ltp, Lsg, Llg, Lcl, Lcs, Lrd, Lop, Lsk, Lwd, Lth, Lfa⟩, ⟨Lws, Lkp, Lli, Lpr, Lhb, Lfi, Lst, Lim, Ljf, Ljx, Lmk⟩, ⟨Mt1, Mt2⟩, ⟨Mr1, Mr2⟩, ⟨M13, M14, Ma⟩, ⟨M15, Mu⟩, Mim⟩ := id F
  rw [List.length_set] at Lmi
  refine ⟨_, pn_pi (by omega) y, n, f, _, _, tp, sg, lg, cl, cs, rd, op, _, _, _, _, _, ws, _, _, _, _, _, _, im, jf, jx, mk, rfl, mo_F_of F (by rw [List.length_set, List.length_set]; exact Lmi) (fun j hj => ?_) ⟨Lsk, Lwd, Lth, Lfa, Lkp⟩ ⟨Lli, Lpr, Lhb, Lfi, Lst⟩, pv_eq (by omega), ⟨rfl, rfl, rfl, rfl, rfl⟩, z, hn, hf⟩
  rw [List.set_set]
theorem mb_dx {h0 h : ss_Hp} {T : List Nat} {a : List Int32} {fo x : Int32} {RS : List (List ru_C)} {US : List (List Int32)} {I : Nat → Option (List Int32 × Int32 × Int32)} {fo2 : Int32} {b th2 fa2 kp2 : List Int32} {dx2 : Int64} {Z : Nat → List Int32} (hc : mb_h h0 h T a fo x RS US I fo2 b th2 fa2 kp2 dx2 Z) : ss_gl h (some 118) 12 0 = some dx2 := by
  obtain ⟨n, f, mi, dx, tp, sg, lg, cl, cs, rd, op, sk, wd, sd, th, fa, ws, kp, li, pr, hb, fi, st, im, jf, jx, mk, rfl, F, hfo, ⟨w1, w2, w3, w4, w5⟩, z, hn, hf⟩ := hc
  subst w1 w2 w3 w4 w5
  obtain ⟨⟨Lmi, Ltp, Lsg, Llg, Lcl, Lcs, Lrd, Lop, Lsk, Lwd, Lth, Lfa⟩, ⟨Lws, Lkp, Lli, Lpr, Lhb, Lfi, Lst, Lim, Ljf, Ljx, Lmk⟩, ⟨Mt1, Mt2⟩, ⟨Mr1, Mr2⟩, ⟨M13, M14, Ma⟩, ⟨M15, Mu⟩, Mim⟩ := id F
  rw [List.length_set] at Lmi
  exact pn_gl
theorem mb_setdx {h0 h : ss_Hp} {T : List Nat} {a : List Int32} {fo x : Int32} {RS : List (List ru_C)} {US : List (List Int32)} {I : Nat → Option (List Int32 × Int32 × Int32)} {fo2 : Int32} {b th2 fa2 kp2 : List Int32} {dx2 : Int64} {Z : Nat → List Int32} {y : Int64} (hc : mb_h h0 h T a fo x RS US I fo2 b th2 fa2 kp2 dx2 Z) : ∃ h', ss_pl h (some 118) 12 0 y = some h' ∧ mb_h h0 h' T a fo x RS US I fo2 b th2 fa2 kp2 y Z := by
  obtain ⟨n, f, mi, dx, tp, sg, lg, cl, cs, rd, op, sk, wd, sd, th, fa, ws, kp, li, pr, hb, fi, st, im, jf, jx, mk, rfl, F, hfo, ⟨w1, w2, w3, w4, w5⟩, z, hn, hf⟩ := hc
  subst w1 w2 w3 w4 w5
  obtain ⟨⟨Lmi, Ltp, Lsg, Llg, Lcl, Lcs, Lrd, Lop, Lsk, Lwd, Lth, Lfa⟩, ⟨Lws, Lkp, Lli, Lpr, Lhb, Lfi, Lst, Lim, Ljf, Ljx, Lmk⟩, ⟨Mt1, Mt2⟩, ⟨Mr1, Mr2⟩, ⟨M13, M14, Ma⟩, ⟨M15, Mu⟩, Mim⟩ := id F
  rw [List.length_set] at Lmi
  exact ⟨_, pn_pl y, n, f, _, _, tp, sg, lg, cl, cs, rd, op, _, _, _, _, _, ws, _, _, _, _, _, _, im, jf, jx, mk, rfl, mo_F_of F (by rw [List.length_set]; exact Lmi) (fun _ _ => rfl) ⟨Lsk, Lwd, Lth, Lfa, Lkp⟩ ⟨Lli, Lpr, Lhb, Lfi, Lst⟩, hfo, ⟨rfl, rfl, rfl, rfl, rfl⟩, z, hn, hf⟩
theorem mb_gi {h0 h : ss_Hp} {T : List Nat} {a : List Int32} {fo x : Int32} {RS : List (List ru_C)} {US : List (List Int32)} {I : Nat → Option (List Int32 × Int32 × Int32)} {fo2 : Int32} {b th2 fa2 kp2 : List Int32} {dx2 : Int64} {Z : Nat → List Int32} (hc : mb_h h0 h T a fo x RS US I fo2 b th2 fa2 kp2 dx2 Z) : ss_gi h (some 118) 12 0 = some (nI T.length) ∧ ss_gi h (some 118) 12 1 = some (nI RS.length) ∧ ss_gi h (some 118) 12 13 = some fo2 ∧ ss_gi h (some 118) 12 14 = some x ∧ ss_gi h (some 118) 12 15 = some (nI US.length) := by
  obtain ⟨n, f, mi, dx, tp, sg, lg, cl, cs, rd, op, sk, wd, sd, th, fa, ws, kp, li, pr, hb, fi, st, im, jf, jx, mk, rfl, F, hfo, ⟨w1, w2, w3, w4, w5⟩, z, hn, hf⟩ := hc
  subst w1 w2 w3 w4 w5
  obtain ⟨⟨Lmi, Ltp, Lsg, Llg, Lcl, Lcs, Lrd, Lop, Lsk, Lwd, Lth, Lfa⟩, ⟨Lws, Lkp, Lli, Lpr, Lhb, Lfi, Lst, Lim, Ljf, Ljx, Lmk⟩, ⟨Mt1, Mt2⟩, ⟨Mr1, Mr2⟩, ⟨M13, M14, Ma⟩, ⟨M15, Mu⟩, Mim⟩ := id F
  rw [List.length_set] at Lmi
  rw [pv_ne (by omega)] at Mt1 Mr1 M14 M15
  exact ⟨by rw [pn_gi (by omega), Mt1], by rw [pn_gi (by omega), Mr1], by rw [pn_gi (by omega), hfo], by rw [pn_gi (by omega), M14], by rw [pn_gi (by omega), M15]⟩
/-! rows copied -/
def cpl (l s : List Int32) (p q : Nat) : Nat → List Int32
  | 0 => l
  | i + 1 => (cpl l s p q i).set (p + i) (pv s (q + i))
theorem cpl_len (l s : List Int32) (p q n : Nat) : (cpl l s p q n).length = l.length := by
  induction n with
  | zero => rfl
  | succ n ih => rw [cpl, List.length_set, ih]
theorem cpl_pv {l s : List Int32} {p q j : Nat} : ∀ n, p + n ≤ l.length → pv (cpl l s p q n) j = if p ≤ j ∧ j < p + n then pv s (q + (j - p)) else pv l j := by
  intro n
  induction n with
  | zero => intro _; rw [if_neg (by omega)]; rfl
  | succ n ih =>
    intro h
    rw [cpl, pv_set (by rw [cpl_len]; omega), ih (by omega)]
    by_cases e : j = p + n
    · rw [if_pos e, if_pos (by omega)]
      congr 1
      omega
    · rw [if_neg e]
      by_cases c : p ≤ j ∧ j < p + n
      · rw [if_pos c, if_pos (by omega)]
      · rw [if_neg c, if_neg (by omega)]
theorem mb_keeps {N : Nat} {h0 h : ss_Hp} {T : List Nat} {a : List Int32} {fo x : Int32} {RS : List (List ru_C)} {US : List (List Int32)} {I : Nat → Option (List Int32 × Int32 × Int32)} {fo2 : Int32} {b th2 fa2 kp2 : List Int32} {dx2 : Int64} {Z : Nat → List Int32} (hc : mb_h h0 h T a fo x RS US I fo2 b th2 fa2 kp2 dx2 Z) (hl : b.length = 124) (hN : 20 < N) : ∃ h', mm_M_keeps N (some 118) h = some h' ∧ mb_h h0 h' T a fo x RS US I fo2 b th2 fa2 (sl b 10 20) dx2 Z := by
  obtain ⟨n, f, mi, dx, tp, sg, lg, cl, cs, rd, op, sk, wd, sd, th, fa, ws, kp, li, pr, hb, fi, st, im, jf, jx, mk, rfl, F, hfo, ⟨w1, w2, w3, w4, w5⟩, z, hn, hf⟩ := hc
  subst w1 w2 w3 w4 w5
  obtain ⟨⟨Lmi, Ltp, Lsg, Llg, Lcl, Lcs, Lrd, Lop, Lsk, Lwd, Lth, Lfa⟩, ⟨Lws, Lkp, Lli, Lpr, Lhb, Lfi, Lst, Lim, Ljf, Ljx, Lmk⟩, ⟨Mt1, Mt2⟩, ⟨Mr1, Mr2⟩, ⟨M13, M14, Ma⟩, ⟨M15, Mu⟩, Mim⟩ := id F
  rw [List.length_set] at Lmi
  have e : cpl kp sd 0 10 20 = sl sd 10 20 := pv_ext (by rw [cpl_len, sl_len, Lkp]) (fun i hi => by
    rw [cpl_len] at hi
    rw [cpl_pv 20 (by omega), if_pos (by omega), sl_pv (by omega)]
    congr 1)
  have e2 : ss_lp (mm_M_keeps_b2 N (some 118)) N (nI 0, (pm_M n f mi dx tp sg lg cl cs rd op sk wd sd th fa ws kp li pr hb fi st im jf jx mk)) = some (pm_M n f mi dx tp sg lg cl cs rd op sk wd sd th fa ws (cpl kp sd 0 10 20) li pr hb fi st im jf jx mk) := by
    refine pb_lp (fun i => (nI i, (pm_M n f mi dx tp sg lg cl cs rd op sk wd sd th fa ws (cpl kp sd 0 10 i) li pr hb fi st im jf jx mk))) 20 hN (fun i hi => ?_) ?_
    · unfold mm_M_keeps_b2
      have h6 : ¬ nI 20 ≤ nI i := nI_ge hi (by omega)
      have h7 : i < (cpl kp sd 0 10 i).length := by rw [cpl_len]; omega
      simp (disch := ((try simp only [List.length_set]); omega)) only [pb_its, pb_l2, pb_ll, nI_add, pb_mul, if_true, if_false, pb_bs, pb_b2n, pb_bz0, pb_bz1, pb_10, pb_01, pb_i31, List.length_set, pn_is, pn_gi, pn_pi, pn_gl, pn_pl, pn_g0, pn_g1, pn_g2, pn_g3, pn_g4, pn_g5, pn_g6, pn_g7, pn_g8, pn_g9, pn_g10, pn_g11, pn_g12, pn_g13, pn_g14, pn_g15, pn_g16, pn_g17, pn_g18, pn_g19, pn_g20, pn_g21, pn_g22, pn_a0, pn_a1, pn_a2, pn_a3, pn_a4, pn_a5, pn_a6, pn_a7, pn_a8, pn_a9, pn_a10, pn_a11, pn_a12, pn_a13, pn_a14, pn_a15, pn_a16, pn_a17, pn_a18, pn_a19, pn_a20, pn_a21, pn_a22, pn_u0, pn_u1, pn_u2, pn_u3, pn_u4, pn_u5, pn_u6, pn_u7, pn_u8, pn_u9, pn_u10, pn_u11, pn_u12, pn_u13, pn_u14, pn_u15, pn_u16, pn_u17, pn_u18, pn_u19, pn_u20, pn_u21, pn_u22, h6]
      rw [cpl, Nat.zero_add]
    · unfold mm_M_keeps_b2
      simp (disch := ((try simp only [List.length_set]); omega)) only [pb_its, pb_l2, pb_ll, nI_add, pb_mul, if_true, if_false, pb_bs, pb_b2n, pb_bz0, pb_bz1, pb_10, pb_01, pb_i31, List.length_set, pn_is, pn_gi, pn_pi, pn_gl, pn_pl, pn_g0, pn_g1, pn_g2, pn_g3, pn_g4, pn_g5, pn_g6, pn_g7, pn_g8, pn_g9, pn_g10, pn_g11, pn_g12, pn_g13, pn_g14, pn_g15, pn_g16, pn_g17, pn_g18, pn_g19, pn_g20, pn_g21, pn_g22, pn_a0, pn_a1, pn_a2, pn_a3, pn_a4, pn_a5, pn_a6, pn_a7, pn_a8, pn_a9, pn_a10, pn_a11, pn_a12, pn_a13, pn_a14, pn_a15, pn_a16, pn_a17, pn_a18, pn_a19, pn_a20, pn_a21, pn_a22, pn_u0, pn_u1, pn_u2, pn_u3, pn_u4, pn_u5, pn_u6, pn_u7, pn_u8, pn_u9, pn_u10, pn_u11, pn_u12, pn_u13, pn_u14, pn_u15, pn_u16, pn_u17, pn_u18, pn_u19, pn_u20, pn_u21, pn_u22, nI_le (Nat.le_refl 20) (by omega : 20 < 2 ^ 31)]
  refine ⟨(pm_M n f mi dx tp sg lg cl cs rd op sk wd sd th fa ws (cpl kp sd 0 10 20) li pr hb fi st im jf jx mk), ?_, n, f, _, _, tp, sg, lg, cl, cs, rd, op, _, _, _, _, _, ws, _, _, _, _, _, _, im, jf, jx, mk, rfl, mo_F_of F (by rw [List.length_set]; exact Lmi) (fun _ _ => rfl) ⟨Lsk, Lwd, Lth, Lfa, by rw [cpl_len]; exact Lkp⟩ ⟨Lli, Lpr, Lhb, Lfi, Lst⟩, hfo, ⟨rfl, rfl, rfl, e, rfl⟩, z, hn, hf⟩
  unfold mm_M_keeps
  simp (disch := ((try simp only [List.length_set]); omega)) only [pb_its, pb_l2, pb_ll, nI_add, pb_mul, if_true, if_false, pb_bs, pb_b2n, pb_bz0, pb_bz1, pb_10, pb_01, pb_i31, List.length_set, pn_is, pn_gi, pn_pi, pn_gl, pn_pl, pn_g0, pn_g1, pn_g2, pn_g3, pn_g4, pn_g5, pn_g6, pn_g7, pn_g8, pn_g9, pn_g10, pn_g11, pn_g12, pn_g13, pn_g14, pn_g15, pn_g16, pn_g17, pn_g18, pn_g19, pn_g20, pn_g21, pn_g22, pn_a0, pn_a1, pn_a2, pn_a3, pn_a4, pn_a5, pn_a6, pn_a7, pn_a8, pn_a9, pn_a10, pn_a11, pn_a12, pn_a13, pn_a14, pn_a15, pn_a16, pn_a17, pn_a18, pn_a19, pn_a20, pn_a21, pn_a22, pn_u0, pn_u1, pn_u2, pn_u3, pn_u4, pn_u5, pn_u6, pn_u7, pn_u8, pn_u9, pn_u10, pn_u11, pn_u12, pn_u13, pn_u14, pn_u15, pn_u16, pn_u17, pn_u18, pn_u19, pn_u20, pn_u21, pn_u22, e2]
theorem mb_lays {N : Nat} {h0 h : ss_Hp} {T : List Nat} {a : List Int32} {fo x : Int32} {RS : List (List ru_C)} {US : List (List Int32)} {I : Nat → Option (List Int32 × Int32 × Int32)} {fo2 : Int32} {b th2 fa2 kp2 : List Int32} {dx2 : Int64} {Z : Nat → List Int32} (hc : mb_h h0 h T a fo x RS US I fo2 b th2 fa2 kp2 dx2 Z) (hl : b.length = 124) (hN : 20 < N) : ∃ h', mm_M_laysBack N (some 118) h = some h' ∧ mb_h h0 h' T a fo x RS US I fo2 (sa_lay b kp2) th2 fa2 kp2 dx2 Z := by
  obtain ⟨n, f, mi, dx, tp, sg, lg, cl, cs, rd, op, sk, wd, sd, th, fa, ws, kp, li, pr, hb, fi, st, im, jf, jx, mk, rfl, F, hfo, ⟨w1, w2, w3, w4, w5⟩, z, hn, hf⟩ := hc
  subst w1 w2 w3 w4 w5
  obtain ⟨⟨Lmi, Ltp, Lsg, Llg, Lcl, Lcs, Lrd, Lop, Lsk, Lwd, Lth, Lfa⟩, ⟨Lws, Lkp, Lli, Lpr, Lhb, Lfi, Lst, Lim, Ljf, Ljx, Lmk⟩, ⟨Mt1, Mt2⟩, ⟨Mr1, Mr2⟩, ⟨M13, M14, Ma⟩, ⟨M15, Mu⟩, Mim⟩ := id F
  rw [List.length_set] at Lmi
  have e : cpl sd kp 10 0 20 = sa_lay sd kp := pv_ext (by rw [cpl_len, sa_lay_len hl Lkp, hl]) (fun i hi => by
    rw [cpl_pv 20 (by omega), sa_lay_pv hl Lkp]
    by_cases c : i < 10 ∨ 30 ≤ i
    · rw [if_pos c, if_neg (by omega)]
    · rw [if_neg c, if_pos (by omega), Nat.zero_add])
  have e2 : ss_lp (mm_M_laysBack_b2 N (some 118)) N (nI 0, (pm_M n f mi dx tp sg lg cl cs rd op sk wd sd th fa ws kp li pr hb fi st im jf jx mk)) = some (pm_M n f mi dx tp sg lg cl cs rd op sk wd (cpl sd kp 10 0 20) th fa ws kp li pr hb fi st im jf jx mk) := by
    refine pb_lp (fun i => (nI i, (pm_M n f mi dx tp sg lg cl cs rd op sk wd (cpl sd kp 10 0 i) th fa ws kp li pr hb fi st im jf jx mk))) 20 hN (fun i hi => ?_) ?_
    · unfold mm_M_laysBack_b2
      have h6 : ¬ nI 20 ≤ nI i := nI_ge hi (by omega)
      have h7 : 10 + i < (cpl sd kp 10 0 i).length := by rw [cpl_len]; omega
      simp (disch := ((try simp only [List.length_set]); omega)) only [pb_its, pb_l2, pb_ll, nI_add, pb_mul, if_true, if_false, pb_bs, pb_b2n, pb_bz0, pb_bz1, pb_10, pb_01, pb_i31, List.length_set, pn_is, pn_gi, pn_pi, pn_gl, pn_pl, pn_g0, pn_g1, pn_g2, pn_g3, pn_g4, pn_g5, pn_g6, pn_g7, pn_g8, pn_g9, pn_g10, pn_g11, pn_g12, pn_g13, pn_g14, pn_g15, pn_g16, pn_g17, pn_g18, pn_g19, pn_g20, pn_g21, pn_g22, pn_a0, pn_a1, pn_a2, pn_a3, pn_a4, pn_a5, pn_a6, pn_a7, pn_a8, pn_a9, pn_a10, pn_a11, pn_a12, pn_a13, pn_a14, pn_a15, pn_a16, pn_a17, pn_a18, pn_a19, pn_a20, pn_a21, pn_a22, pn_u0, pn_u1, pn_u2, pn_u3, pn_u4, pn_u5, pn_u6, pn_u7, pn_u8, pn_u9, pn_u10, pn_u11, pn_u12, pn_u13, pn_u14, pn_u15, pn_u16, pn_u17, pn_u18, pn_u19, pn_u20, pn_u21, pn_u22, h6]
      rw [cpl, Nat.zero_add]
    · unfold mm_M_laysBack_b2
      simp (disch := ((try simp only [List.length_set]); omega)) only [pb_its, pb_l2, pb_ll, nI_add, pb_mul, if_true, if_false, pb_bs, pb_b2n, pb_bz0, pb_bz1, pb_10, pb_01, pb_i31, List.length_set, pn_is, pn_gi, pn_pi, pn_gl, pn_pl, pn_g0, pn_g1, pn_g2, pn_g3, pn_g4, pn_g5, pn_g6, pn_g7, pn_g8, pn_g9, pn_g10, pn_g11, pn_g12, pn_g13, pn_g14, pn_g15, pn_g16, pn_g17, pn_g18, pn_g19, pn_g20, pn_g21, pn_g22, pn_a0, pn_a1, pn_a2, pn_a3, pn_a4, pn_a5, pn_a6, pn_a7, pn_a8, pn_a9, pn_a10, pn_a11, pn_a12, pn_a13, pn_a14, pn_a15, pn_a16, pn_a17, pn_a18, pn_a19, pn_a20, pn_a21, pn_a22, pn_u0, pn_u1, pn_u2, pn_u3, pn_u4, pn_u5, pn_u6, pn_u7, pn_u8, pn_u9, pn_u10, pn_u11, pn_u12, pn_u13, pn_u14, pn_u15, pn_u16, pn_u17, pn_u18, pn_u19, pn_u20, pn_u21, pn_u22, nI_le (Nat.le_refl 20) (by omega : 20 < 2 ^ 31)]
  refine ⟨(pm_M n f mi dx tp sg lg cl cs rd op sk wd (cpl sd kp 10 0 20) th fa ws kp li pr hb fi st im jf jx mk), ?_, n, f, _, _, tp, sg, lg, cl, cs, rd, op, _, _, _, _, _, ws, _, _, _, _, _, _, im, jf, jx, mk, rfl, mo_F_of F (by rw [List.length_set]; exact Lmi) (fun _ _ => rfl) ⟨Lsk, Lwd, Lth, Lfa, Lkp⟩ ⟨Lli, Lpr, Lhb, Lfi, Lst⟩, hfo, ⟨e, rfl, rfl, rfl, rfl⟩, z, hn, hf⟩
  unfold mm_M_laysBack
  simp (disch := ((try simp only [List.length_set]); omega)) only [pb_its, pb_l2, pb_ll, nI_add, pb_mul, if_true, if_false, pb_bs, pb_b2n, pb_bz0, pb_bz1, pb_10, pb_01, pb_i31, List.length_set, pn_is, pn_gi, pn_pi, pn_gl, pn_pl, pn_g0, pn_g1, pn_g2, pn_g3, pn_g4, pn_g5, pn_g6, pn_g7, pn_g8, pn_g9, pn_g10, pn_g11, pn_g12, pn_g13, pn_g14, pn_g15, pn_g16, pn_g17, pn_g18, pn_g19, pn_g20, pn_g21, pn_g22, pn_a0, pn_a1, pn_a2, pn_a3, pn_a4, pn_a5, pn_a6, pn_a7, pn_a8, pn_a9, pn_a10, pn_a11, pn_a12, pn_a13, pn_a14, pn_a15, pn_a16, pn_a17, pn_a18, pn_a19, pn_a20, pn_a21, pn_a22, pn_u0, pn_u1, pn_u2, pn_u3, pn_u4, pn_u5, pn_u6, pn_u7, pn_u8, pn_u9, pn_u10, pn_u11, pn_u12, pn_u13, pn_u14, pn_u15, pn_u16, pn_u17, pn_u18, pn_u19, pn_u20, pn_u21, pn_u22, e2]
theorem sa_back {a b : List Int32} (ha : a.length = 124) (hb : b.length = 124) (h : ∀ j, j < 10 ∨ 30 ≤ j → pv b j = pv a j) : sa_lay b (sl a 10 20) = a := pv_ext (by rw [sa_lay_len hb (sl_len _ _ _), ha]) (fun i hi => by
  rw [sa_lay_pv hb (sl_len _ _ _)]
  by_cases c : i < 10 ∨ 30 ≤ i
  · rw [if_pos c, h i c]
  · rw [if_neg c, sl_pv (by omega)]
    congr 1
    omega)
theorem mb_z0 {h0 h : ss_Hp} {T : List Nat} {a : List Int32} {fo x : Int32} {RS : List (List ru_C)} {US : List (List Int32)} {I : Nat → Option (List Int32 × Int32 × Int32)} {fo2 : Int32} {b th2 fa2 kp2 : List Int32} {dx2 : Int64} {Z : Nat → List Int32} {i : Nat} (hc : mb_h h0 h T a fo x RS US I fo2 b th2 fa2 kp2 dx2 Z) (hi : i < 488) : ss_ai h (some 133) 20 (nI i) = some (pv (Z 0) i) := by
  obtain ⟨n, f, mi, dx, tp, sg, lg, cl, cs, rd, op, sk, wd, sd, th, fa, ws, kp, li, pr, hb, fi, st, im, jf, jx, mk, rfl, F, hfo, ⟨w1, w2, w3, w4, w5⟩, z, hn, hf⟩ := hc
  subst w1 w2 w3 w4 w5
  obtain ⟨⟨Lmi, Ltp, Lsg, Llg, Lcl, Lcs, Lrd, Lop, Lsk, Lwd, Lth, Lfa⟩, ⟨Lws, Lkp, Lli, Lpr, Lhb, Lfi, Lst, Lim, Ljf, Ljx, Lmk⟩, ⟨Mt1, Mt2⟩, ⟨Mr1, Mr2⟩, ⟨M13, M14, Ma⟩, ⟨M15, Mu⟩, Mim⟩ := id F
  rw [List.length_set] at Lmi
  obtain ⟨z0, z1, z2, z3, z4⟩ := z
  rw [← z0]
  exact pn_a14 (by omega) (by omega)
theorem mb_y0 {h0 h : ss_Hp} {T : List Nat} {a : List Int32} {fo x : Int32} {RS : List (List ru_C)} {US : List (List Int32)} {I : Nat → Option (List Int32 × Int32 × Int32)} {fo2 : Int32} {b th2 fa2 kp2 : List Int32} {dx2 : Int64} {Z : Nat → List Int32} {i : Nat} {y : Int32} (hc : mb_h h0 h T a fo x RS US I fo2 b th2 fa2 kp2 dx2 Z) (hi : i < 488) : ∃ h', ss_ui h (some 133) 20 (nI i) y = some h' ∧ mb_h h0 h' T a fo x RS US I fo2 b th2 fa2 kp2 dx2 (zs Z 0 ((Z 0).set i y)) := by
  obtain ⟨n, f, mi, dx, tp, sg, lg, cl, cs, rd, op, sk, wd, sd, th, fa, ws, kp, li, pr, hb, fi, st, im, jf, jx, mk, rfl, F, hfo, ⟨w1, w2, w3, w4, w5⟩, z, hn, hf⟩ := hc
  subst w1 w2 w3 w4 w5
  obtain ⟨⟨Lmi, Ltp, Lsg, Llg, Lcl, Lcs, Lrd, Lop, Lsk, Lwd, Lth, Lfa⟩, ⟨Lws, Lkp, Lli, Lpr, Lhb, Lfi, Lst, Lim, Ljf, Ljx, Lmk⟩, ⟨Mt1, Mt2⟩, ⟨Mr1, Mr2⟩, ⟨M13, M14, Ma⟩, ⟨M15, Mu⟩, Mim⟩ := id F
  rw [List.length_set] at Lmi
  obtain ⟨z0, z1, z2, z3, z4⟩ := z
  refine ⟨_, pn_u14 (by omega) (by omega) y, n, f, _, _, tp, sg, lg, cl, cs, rd, op, _, _, _, _, _, ws, _, _, _, _, _, _, im, jf, jx, mk, rfl, mo_F_of F (by rw [List.length_set]; exact Lmi) (fun _ _ => rfl) ⟨Lsk, Lwd, Lth, Lfa, Lkp⟩ ⟨by rw [List.length_set]; exact Lli, Lpr, Lhb, Lfi, Lst⟩, hfo, ⟨rfl, rfl, rfl, rfl, rfl⟩, ⟨?_, z1.trans (zs_ne Z _ (show 1 ≠ 0 by omega)).symm, z2.trans (zs_ne Z _ (show 2 ≠ 0 by omega)).symm, z3.trans (zs_ne Z _ (show 3 ≠ 0 by omega)).symm, z4.trans (zs_ne Z _ (show 4 ≠ 0 by omega)).symm⟩, hn, hf⟩
  rw [zs_eq, z0]
theorem mb_z1 {h0 h : ss_Hp} {T : List Nat} {a : List Int32} {fo x : Int32} {RS : List (List ru_C)} {US : List (List Int32)} {I : Nat → Option (List Int32 × Int32 × Int32)} {fo2 : Int32} {b th2 fa2 kp2 : List Int32} {dx2 : Int64} {Z : Nat → List Int32} {i : Nat} (hc : mb_h h0 h T a fo x RS US I fo2 b th2 fa2 kp2 dx2 Z) (hi : i < 8) : ss_ai h (some 134) 20 (nI i) = some (pv (Z 1) i) := by
  obtain ⟨n, f, mi, dx, tp, sg, lg, cl, cs, rd, op, sk, wd, sd, th, fa, ws, kp, li, pr, hb, fi, st, im, jf, jx, mk, rfl, F, hfo, ⟨w1, w2, w3, w4, w5⟩, z, hn, hf⟩ := hc
  subst w1 w2 w3 w4 w5
  obtain ⟨⟨Lmi, Ltp, Lsg, Llg, Lcl, Lcs, Lrd, Lop, Lsk, Lwd, Lth, Lfa⟩, ⟨Lws, Lkp, Lli, Lpr, Lhb, Lfi, Lst, Lim, Ljf, Ljx, Lmk⟩, ⟨Mt1, Mt2⟩, ⟨Mr1, Mr2⟩, ⟨M13, M14, Ma⟩, ⟨M15, Mu⟩, Mim⟩ := id F
  rw [List.length_set] at Lmi
  obtain ⟨z0, z1, z2, z3, z4⟩ := z
  rw [← z1]
  exact pn_a15 (by omega) (by omega)
theorem mb_y1 {h0 h : ss_Hp} {T : List Nat} {a : List Int32} {fo x : Int32} {RS : List (List ru_C)} {US : List (List Int32)} {I : Nat → Option (List Int32 × Int32 × Int32)} {fo2 : Int32} {b th2 fa2 kp2 : List Int32} {dx2 : Int64} {Z : Nat → List Int32} {i : Nat} {y : Int32} (hc : mb_h h0 h T a fo x RS US I fo2 b th2 fa2 kp2 dx2 Z) (hi : i < 8) : ∃ h', ss_ui h (some 134) 20 (nI i) y = some h' ∧ mb_h h0 h' T a fo x RS US I fo2 b th2 fa2 kp2 dx2 (zs Z 1 ((Z 1).set i y)) := by
  obtain ⟨n, f, mi, dx, tp, sg, lg, cl, cs, rd, op, sk, wd, sd, th, fa, ws, kp, li, pr, hb, fi, st, im, jf, jx, mk, rfl, F, hfo, ⟨w1, w2, w3, w4, w5⟩, z, hn, hf⟩ := hc
  subst w1 w2 w3 w4 w5
  obtain ⟨⟨Lmi, Ltp, Lsg, Llg, Lcl, Lcs, Lrd, Lop, Lsk, Lwd, Lth, Lfa⟩, ⟨Lws, Lkp, Lli, Lpr, Lhb, Lfi, Lst, Lim, Ljf, Ljx, Lmk⟩, ⟨Mt1, Mt2⟩, ⟨Mr1, Mr2⟩, ⟨M13, M14, Ma⟩, ⟨M15, Mu⟩, Mim⟩ := id F
  rw [List.length_set] at Lmi
  obtain ⟨z0, z1, z2, z3, z4⟩ := z
  refine ⟨_, pn_u15 (by omega) (by omega) y, n, f, _, _, tp, sg, lg, cl, cs, rd, op, _, _, _, _, _, ws, _, _, _, _, _, _, im, jf, jx, mk, rfl, mo_F_of F (by rw [List.length_set]; exact Lmi) (fun _ _ => rfl) ⟨Lsk, Lwd, Lth, Lfa, Lkp⟩ ⟨Lli, by rw [List.length_set]; exact Lpr, Lhb, Lfi, Lst⟩, hfo, ⟨rfl, rfl, rfl, rfl, rfl⟩, ⟨z0.trans (zs_ne Z _ (show 0 ≠ 1 by omega)).symm, ?_, z2.trans (zs_ne Z _ (show 2 ≠ 1 by omega)).symm, z3.trans (zs_ne Z _ (show 3 ≠ 1 by omega)).symm, z4.trans (zs_ne Z _ (show 4 ≠ 1 by omega)).symm⟩, hn, hf⟩
  rw [zs_eq, z1]
theorem mb_z2 {h0 h : ss_Hp} {T : List Nat} {a : List Int32} {fo x : Int32} {RS : List (List ru_C)} {US : List (List Int32)} {I : Nat → Option (List Int32 × Int32 × Int32)} {fo2 : Int32} {b th2 fa2 kp2 : List Int32} {dx2 : Int64} {Z : Nat → List Int32} {i : Nat} (hc : mb_h h0 h T a fo x RS US I fo2 b th2 fa2 kp2 dx2 Z) (hi : i < 64) : ss_ai h (some 135) 20 (nI i) = some (pv (Z 2) i) := by
  obtain ⟨n, f, mi, dx, tp, sg, lg, cl, cs, rd, op, sk, wd, sd, th, fa, ws, kp, li, pr, hb, fi, st, im, jf, jx, mk, rfl, F, hfo, ⟨w1, w2, w3, w4, w5⟩, z, hn, hf⟩ := hc
  subst w1 w2 w3 w4 w5
  obtain ⟨⟨Lmi, Ltp, Lsg, Llg, Lcl, Lcs, Lrd, Lop, Lsk, Lwd, Lth, Lfa⟩, ⟨Lws, Lkp, Lli, Lpr, Lhb, Lfi, Lst, Lim, Ljf, Ljx, Lmk⟩, ⟨Mt1, Mt2⟩, ⟨Mr1, Mr2⟩, ⟨M13, M14, Ma⟩, ⟨M15, Mu⟩, Mim⟩ := id F
  rw [List.length_set] at Lmi
  obtain ⟨z0, z1, z2, z3, z4⟩ := z
  rw [← z2]
  exact pn_a16 (by omega) (by omega)
theorem mb_y2 {h0 h : ss_Hp} {T : List Nat} {a : List Int32} {fo x : Int32} {RS : List (List ru_C)} {US : List (List Int32)} {I : Nat → Option (List Int32 × Int32 × Int32)} {fo2 : Int32} {b th2 fa2 kp2 : List Int32} {dx2 : Int64} {Z : Nat → List Int32} {i : Nat} {y : Int32} (hc : mb_h h0 h T a fo x RS US I fo2 b th2 fa2 kp2 dx2 Z) (hi : i < 64) : ∃ h', ss_ui h (some 135) 20 (nI i) y = some h' ∧ mb_h h0 h' T a fo x RS US I fo2 b th2 fa2 kp2 dx2 (zs Z 2 ((Z 2).set i y)) := by
  obtain ⟨n, f, mi, dx, tp, sg, lg, cl, cs, rd, op, sk, wd, sd, th, fa, ws, kp, li, pr, hb, fi, st, im, jf, jx, mk, rfl, F, hfo, ⟨w1, w2, w3, w4, w5⟩, z, hn, hf⟩ := hc
  subst w1 w2 w3 w4 w5
  obtain ⟨⟨Lmi, Ltp, Lsg, Llg, Lcl, Lcs, Lrd, Lop, Lsk, Lwd, Lth, Lfa⟩, ⟨Lws, Lkp, Lli, Lpr, Lhb, Lfi, Lst, Lim, Ljf, Ljx, Lmk⟩, ⟨Mt1, Mt2⟩, ⟨Mr1, Mr2⟩, ⟨M13, M14, Ma⟩, ⟨M15, Mu⟩, Mim⟩ := id F
  rw [List.length_set] at Lmi
  obtain ⟨z0, z1, z2, z3, z4⟩ := z
  refine ⟨_, pn_u16 (by omega) (by omega) y, n, f, _, _, tp, sg, lg, cl, cs, rd, op, _, _, _, _, _, ws, _, _, _, _, _, _, im, jf, jx, mk, rfl, mo_F_of F (by rw [List.length_set]; exact Lmi) (fun _ _ => rfl) ⟨Lsk, Lwd, Lth, Lfa, Lkp⟩ ⟨Lli, Lpr, by rw [List.length_set]; exact Lhb, Lfi, Lst⟩, hfo, ⟨rfl, rfl, rfl, rfl, rfl⟩, ⟨z0.trans (zs_ne Z _ (show 0 ≠ 2 by omega)).symm, z1.trans (zs_ne Z _ (show 1 ≠ 2 by omega)).symm, ?_, z3.trans (zs_ne Z _ (show 3 ≠ 2 by omega)).symm, z4.trans (zs_ne Z _ (show 4 ≠ 2 by omega)).symm⟩, hn, hf⟩
  rw [zs_eq, z2]
theorem mb_z3 {h0 h : ss_Hp} {T : List Nat} {a : List Int32} {fo x : Int32} {RS : List (List ru_C)} {US : List (List Int32)} {I : Nat → Option (List Int32 × Int32 × Int32)} {fo2 : Int32} {b th2 fa2 kp2 : List Int32} {dx2 : Int64} {Z : Nat → List Int32} {i : Nat} (hc : mb_h h0 h T a fo x RS US I fo2 b th2 fa2 kp2 dx2 Z) (hi : i < 7) : ss_ai h (some 136) 22 (nI i) = some (pv (Z 3) i) := by
  obtain ⟨n, f, mi, dx, tp, sg, lg, cl, cs, rd, op, sk, wd, sd, th, fa, ws, kp, li, pr, hb, fi, st, im, jf, jx, mk, rfl, F, hfo, ⟨w1, w2, w3, w4, w5⟩, z, hn, hf⟩ := hc
  subst w1 w2 w3 w4 w5
  obtain ⟨⟨Lmi, Ltp, Lsg, Llg, Lcl, Lcs, Lrd, Lop, Lsk, Lwd, Lth, Lfa⟩, ⟨Lws, Lkp, Lli, Lpr, Lhb, Lfi, Lst, Lim, Ljf, Ljx, Lmk⟩, ⟨Mt1, Mt2⟩, ⟨Mr1, Mr2⟩, ⟨M13, M14, Ma⟩, ⟨M15, Mu⟩, Mim⟩ := id F
  rw [List.length_set] at Lmi
  obtain ⟨z0, z1, z2, z3, z4⟩ := z
  rw [← z3]
  exact pn_a17 (by omega) (by omega)
theorem mb_y3 {h0 h : ss_Hp} {T : List Nat} {a : List Int32} {fo x : Int32} {RS : List (List ru_C)} {US : List (List Int32)} {I : Nat → Option (List Int32 × Int32 × Int32)} {fo2 : Int32} {b th2 fa2 kp2 : List Int32} {dx2 : Int64} {Z : Nat → List Int32} {i : Nat} {y : Int32} (hc : mb_h h0 h T a fo x RS US I fo2 b th2 fa2 kp2 dx2 Z) (hi : i < 7) : ∃ h', ss_ui h (some 136) 22 (nI i) y = some h' ∧ mb_h h0 h' T a fo x RS US I fo2 b th2 fa2 kp2 dx2 (zs Z 3 ((Z 3).set i y)) := by
  obtain ⟨n, f, mi, dx, tp, sg, lg, cl, cs, rd, op, sk, wd, sd, th, fa, ws, kp, li, pr, hb, fi, st, im, jf, jx, mk, rfl, F, hfo, ⟨w1, w2, w3, w4, w5⟩, z, hn, hf⟩ := hc
  subst w1 w2 w3 w4 w5
  obtain ⟨⟨Lmi, Ltp, Lsg, Llg, Lcl, Lcs, Lrd, Lop, Lsk, Lwd, Lth, Lfa⟩, ⟨Lws, Lkp, Lli, Lpr, Lhb, Lfi, Lst, Lim, Ljf, Ljx, Lmk⟩, ⟨Mt1, Mt2⟩, ⟨Mr1, Mr2⟩, ⟨M13, M14, Ma⟩, ⟨M15, Mu⟩, Mim⟩ := id F
  rw [List.length_set] at Lmi
  obtain ⟨z0, z1, z2, z3, z4⟩ := z
  refine ⟨_, pn_u17 (by omega) (by omega) y, n, f, _, _, tp, sg, lg, cl, cs, rd, op, _, _, _, _, _, ws, _, _, _, _, _, _, im, jf, jx, mk, rfl, mo_F_of F (by rw [List.length_set]; exact Lmi) (fun _ _ => rfl) ⟨Lsk, Lwd, Lth, Lfa, Lkp⟩ ⟨Lli, Lpr, Lhb, by rw [List.length_set]; exact Lfi, Lst⟩, hfo, ⟨rfl, rfl, rfl, rfl, rfl⟩, ⟨z0.trans (zs_ne Z _ (show 0 ≠ 3 by omega)).symm, z1.trans (zs_ne Z _ (show 1 ≠ 3 by omega)).symm, z2.trans (zs_ne Z _ (show 2 ≠ 3 by omega)).symm, ?_, z4.trans (zs_ne Z _ (show 4 ≠ 3 by omega)).symm⟩, hn, hf⟩
  rw [zs_eq, z3]
theorem mb_z4 {h0 h : ss_Hp} {T : List Nat} {a : List Int32} {fo x : Int32} {RS : List (List ru_C)} {US : List (List Int32)} {I : Nat → Option (List Int32 × Int32 × Int32)} {fo2 : Int32} {b th2 fa2 kp2 : List Int32} {dx2 : Int64} {Z : Nat → List Int32} {i : Nat} (hc : mb_h h0 h T a fo x RS US I fo2 b th2 fa2 kp2 dx2 Z) (hi : i < 56) : ss_ai h (some 137) 20 (nI i) = some (pv (Z 4) i) := by
  obtain ⟨n, f, mi, dx, tp, sg, lg, cl, cs, rd, op, sk, wd, sd, th, fa, ws, kp, li, pr, hb, fi, st, im, jf, jx, mk, rfl, F, hfo, ⟨w1, w2, w3, w4, w5⟩, z, hn, hf⟩ := hc
  subst w1 w2 w3 w4 w5
  obtain ⟨⟨Lmi, Ltp, Lsg, Llg, Lcl, Lcs, Lrd, Lop, Lsk, Lwd, Lth, Lfa⟩, ⟨Lws, Lkp, Lli, Lpr, Lhb, Lfi, Lst, Lim, Ljf, Ljx, Lmk⟩, ⟨Mt1, Mt2⟩, ⟨Mr1, Mr2⟩, ⟨M13, M14, Ma⟩, ⟨M15, Mu⟩, Mim⟩ := id F
  rw [List.length_set] at Lmi
  obtain ⟨z0, z1, z2, z3, z4⟩ := z
  rw [← z4]
  exact pn_a18 (by omega) (by omega)
theorem mb_y4 {h0 h : ss_Hp} {T : List Nat} {a : List Int32} {fo x : Int32} {RS : List (List ru_C)} {US : List (List Int32)} {I : Nat → Option (List Int32 × Int32 × Int32)} {fo2 : Int32} {b th2 fa2 kp2 : List Int32} {dx2 : Int64} {Z : Nat → List Int32} {i : Nat} {y : Int32} (hc : mb_h h0 h T a fo x RS US I fo2 b th2 fa2 kp2 dx2 Z) (hi : i < 56) : ∃ h', ss_ui h (some 137) 20 (nI i) y = some h' ∧ mb_h h0 h' T a fo x RS US I fo2 b th2 fa2 kp2 dx2 (zs Z 4 ((Z 4).set i y)) := by
  obtain ⟨n, f, mi, dx, tp, sg, lg, cl, cs, rd, op, sk, wd, sd, th, fa, ws, kp, li, pr, hb, fi, st, im, jf, jx, mk, rfl, F, hfo, ⟨w1, w2, w3, w4, w5⟩, z, hn, hf⟩ := hc
  subst w1 w2 w3 w4 w5
  obtain ⟨⟨Lmi, Ltp, Lsg, Llg, Lcl, Lcs, Lrd, Lop, Lsk, Lwd, Lth, Lfa⟩, ⟨Lws, Lkp, Lli, Lpr, Lhb, Lfi, Lst, Lim, Ljf, Ljx, Lmk⟩, ⟨Mt1, Mt2⟩, ⟨Mr1, Mr2⟩, ⟨M13, M14, Ma⟩, ⟨M15, Mu⟩, Mim⟩ := id F
  rw [List.length_set] at Lmi
  obtain ⟨z0, z1, z2, z3, z4⟩ := z
  refine ⟨_, pn_u18 (by omega) (by omega) y, n, f, _, _, tp, sg, lg, cl, cs, rd, op, _, _, _, _, _, ws, _, _, _, _, _, _, im, jf, jx, mk, rfl, mo_F_of F (by rw [List.length_set]; exact Lmi) (fun _ _ => rfl) ⟨Lsk, Lwd, Lth, Lfa, Lkp⟩ ⟨Lli, Lpr, Lhb, Lfi, by rw [List.length_set]; exact Lst⟩, hfo, ⟨rfl, rfl, rfl, rfl, rfl⟩, ⟨z0.trans (zs_ne Z _ (show 0 ≠ 4 by omega)).symm, z1.trans (zs_ne Z _ (show 1 ≠ 4 by omega)).symm, z2.trans (zs_ne Z _ (show 2 ≠ 4 by omega)).symm, z3.trans (zs_ne Z _ (show 3 ≠ 4 by omega)).symm, ?_⟩, hn, hf⟩
  rw [zs_eq, z4]
