/-! ===== days of the winter ===== -/
theorem sa_pd_th (a th th' : List Int32) (ro : Option (List ru_C)) (d k : Nat) : ∀ i, (sa_pd a th ro d k i).1 = (sa_pd a th' ro d k i).1 := by
  intro i
  induction i with
  | zero => rfl
  | succ i ih =>
    rw [sa_pd, sa_pd, ← ih]
    split
    · exact ih
    · split
      · exact ih
      · rfl
theorem sa_nt_fa (a fa fa' : List Int32) (w : Int32) : ∀ k, (sa_nt a fa w k).1 = (sa_nt a fa' w k).1 := by
  intro k
  induction k with
  | zero => rfl
  | succ k ih =>
    rw [sa_nt, sa_nt, ← ih]
    split
    · rfl
    · exact ih
theorem sa_night_fa (a fa fa' : List Int32) (k : Nat) : sa_night a fa k = sa_night a fa' k := by
  unfold sa_night
  rw [sa_nt_fa a fa fa']
def dB (ro : Option (List ru_C)) (k m : Nat) (b : List Int32) : List Int32 := (sa_pd b z8 ro (pv b 10).toNatClampNeg k m).1
/-- the day behind b -/
def dA (ro : Option (List ru_C)) (k m : Nat) (b : List Int32) : List Int32 := sa_night (dB ro k m b) z8 k
def dT (ro : Option (List ru_C)) (k m : Nat) (b th : List Int32) : List Int32 := (sa_pd b th ro (pv b 10).toNatClampNeg k m).2
def dF (ro : Option (List ru_C)) (k m : Nat) (b fa : List Int32) : List Int32 := sa_nightF (dB ro k m b) fa k
theorem dB_R {ro : Option (List ru_C)} {k m d : Nat} {b : List Int32} (h : sa_R b k m d) : sa_R (dB ro k m b) k m d ∧ ∀ j, j ≠ 11 → (j < 14 ∨ 22 ≤ j) → pv (dB ro k m b) j = pv b j := by
  have e : (pv b 10).toNatClampNeg = d := by rw [h.1.2.2.2.1.2, nI_clamp (by have := h.1.2.2.2.1.1; omega)]
  obtain ⟨h1, -, h3⟩ := sa_pd_R (th := z8) (ro := ro) h m (Nat.le_refl m)
  unfold dB
  rw [e]
  exact ⟨h1, h3⟩
theorem dA_R {ro : Option (List ru_C)} {k m d : Nat} {b : List Int32} (h : sa_R b k m d) (hd : d + 1 < 100000) : sa_R (dA ro k m b) k m (d + 1) := sa_R_night (dB_R h).1 hd
theorem dA_pv {ro : Option (List ru_C)} {k m d j : Nat} {b : List Int32} (h : sa_R b k m d) (hj : j < 10 ∨ 22 ≤ j) : pv (dA ro k m b) j = pv b j := by
  unfold dA
  rw [sa_night_pv h.1.2.1.1 hj, (dB_R h).2 j (by omega) (by omega)]
theorem dT_len {ro : Option (List ru_C)} {k m d : Nat} {b th : List Int32} (h : sa_R b k m d) : (dT ro k m b th).length = th.length := by
  have e : (pv b 10).toNatClampNeg = d := by rw [h.1.2.2.2.1.2, nI_clamp (by have := h.1.2.2.2.1.1; omega)]
  unfold dT
  rw [e]
  exact (sa_pd_R (th := th) (ro := ro) h m (Nat.le_refl m)).2.1
theorem dF_len {ro : Option (List ru_C)} {k m : Nat} {b fa : List Int32} : (dF ro k m b fa).length = fa.length := (sa_nt_len _ _ _ _).2
def dN (ro : Option (List ru_C)) (k m : Nat) (b : List Int32) : Nat → List Int32
  | 0 => b
  | i + 1 => dA ro k m (dN ro k m b i)
theorem dN_R {ro : Option (List ru_C)} {k m d : Nat} {b : List Int32} (h : sa_R b k m d) : ∀ i, d + i < 100000 → sa_R (dN ro k m b i) k m (d + i) := by
  intro i
  induction i with
  | zero => intro _; exact h
  | succ i ih => intro hi; exact dA_R (ih (by omega)) (by omega)
theorem dN_pv {ro : Option (List ru_C)} {k m d j : Nat} {b : List Int32} (h : sa_R b k m d) (hj : j < 10 ∨ 22 ≤ j) : ∀ i, d + i < 100000 → pv (dN ro k m b i) j = pv b j := by
  intro i
  induction i with
  | zero => intro _; rfl
  | succ i ih => intro hi; rw [dN, dA_pv (dN_R h i (by omega)) hj]; exact ih (by omega)
/-! on the class's side -/
theorem cw_pass {N : Nat} {h0 h : ss_Hp} {T : List Nat} {a : List Int32} {fo x : Int32} {RS : List (List ru_C)} {US : List (List Int32)} {I : Nat → Option (List Int32 × Int32 × Int32)} {Z : Nat → List Int32} {ro : Option (List ru_C)} {b : List Int32} {bu : Int32} {th fa : List Int32} {k m d : Nat} (hc : cw_h h0 h T a fo x RS US I Z ro b bu th fa) (hbu : bu = pv b 13) (hR : sa_R b k m d) (hd : d + 1 < 100000) (hN : 400 < N) : ∃ h', mm_Wi_passDay N (some 102) h = some (pv (dB ro k m b) 11, h') ∧ cw_h h0 h' T a fo x RS US I Z ro (dA ro k m b) (pv (dA ro k m b) 13) (dT ro k m b th) (dF ro k m b fa) := by
  obtain ⟨n, g, rc, ti, tb, vt, ri, cd, sx, rl, wi, wv, gi, gs, gw, nd, ns, nw, il, ai, yv, yr, yi, ys, yw, yt, yh, yf, yo, yk, fr, fg, pl, pc, pg, rfl, F, hg, z, ⟨w1, w2, w3, w4, w5, w6⟩, ⟨v, hv, hwv, hq⟩, hr⟩ := hc
  subst w1 w2 w3 w4 w5 w6 hv hwv
  subst hbu
  obtain ⟨y1, y2, y3, y4, y5, y6, y7, y8⟩ := F.2.2.2.2.2.2.2.2.1
  have ed : (pv b 10).toNatClampNeg = d := by rw [hR.1.2.2.2.1.2, nI_clamp (by have := hR.1.2.2.2.1.1; omega)]
  obtain ⟨yo', yk', p1, p2, p3⟩ := pq_passDay (n := n) (g := g) (rc := rc) (ti := ti) (tb := tb) (vt := vt) (ri := ri) (cd := cd) (sx := sx) (rl := rl) (wi := wi) (gi := gi) (gs := gs) (gw := gw) (nd := nd) (ns := ns) (nw := nw) (il := il) (ai := ai) (yr := yr) (yh := yh) (yf := yf) (yo := yo) (yk := yk) (fr := fr) (fg := fg) (pl := pl) (pc := pc) (pg := pg) (N := N) (wv := some v) (v := v) (d := d) (k := k) (m := m) (a := b) (ro := ro) hq y7 y8 y5 y6 hR hr hN
  have e1 : (sa_pd b yh ro d k m).1 = dB ro k m b := by unfold dB; rw [ed]; exact sa_pd_th _ _ _ _ _ _ _
  have e2 : sa_night (dB ro k m b) yf k = dA ro k m b := sa_night_fa _ _ _ _
  have e3 : (sa_pd b yh ro d k m).2 = dT ro k m b yh := by unfold dT; rw [ed]
  have e4 : sa_nightF (dB ro k m b) yf k = dF ro k m b yf := rfl
  have e5 : pv (dA ro k m b) 13 = nI 0 := sa_night_13 (dB_R hR).1.1.1
  rw [e1, e2, e3, e4] at p3
  refine ⟨_, p3, n, g, rc, ti, tb, vt, ri, cd, sx, rl, _, _, _, _, _, nd, ns, nw, il, _, _, _, _, _, _, _, _, _, _, _, fr, fg, pl, pc, pg, rfl, cl_F_w F ⟨rfl, sl_len _ _ _, sl_len _ _ _, rfl, (dT_len hR).trans y5, dF_len.trans y6, p1, p2⟩, hg, z, ⟨by rw [e5], rfl, rfl, rfl, rfl, rfl⟩, ⟨v, rfl, rfl, qv_of hq (fun j hj => dA_pv hR (by omega))⟩, hr⟩
theorem cw_night {N : Nat} {h0 h : ss_Hp} {T : List Nat} {a : List Int32} {fo x : Int32} {RS : List (List ru_C)} {US : List (List Int32)} {I : Nat → Option (List Int32 × Int32 × Int32)} {Z : Nat → List Int32} {ro : Option (List ru_C)} {b : List Int32} {bu : Int32} {th fa : List Int32} {k m d : Nat} (hc : cw_h h0 h T a fo x RS US I Z ro b bu th fa) (hR : sa_R b k m d) (hN : 400 < N) : ∃ h', mm_Wi_passNight N (some 102) h = some (pv b 11, h') ∧ cw_h h0 h' T a fo x RS US I Z ro (sa_night b z8 k) (nI 0) th (sa_nightF b fa k) := by
  obtain ⟨n, g, rc, ti, tb, vt, ri, cd, sx, rl, wi, wv, gi, gs, gw, nd, ns, nw, il, ai, yv, yr, yi, ys, yw, yt, yh, yf, yo, yk, fr, fg, pl, pc, pg, rfl, F, hg, z, ⟨w1, w2, w3, w4, w5, w6⟩, ⟨v, hv, hwv, hq⟩, hr⟩ := hc
  subst w1 w2 w3 w4 w5 w6 hv hwv
  obtain ⟨y1, y2, y3, y4, y5, y6, y7, y8⟩ := F.2.2.2.2.2.2.2.2.1
  have p3 := pq_night (n := n) (g := g) (rc := rc) (ti := ti) (tb := tb) (vt := vt) (ri := ri) (cd := cd) (sx := sx) (rl := rl) (wi := wi) (gi := gi) (gs := gs) (gw := gw) (nd := nd) (ns := ns) (nw := nw) (il := il) (ai := ai) (yr := yr) (yh := yh) (yf := yf) (yo := yo) (yk := yk) (fr := fr) (fg := fg) (pl := pl) (pc := pc) (pg := pg) (N := N) (wv := some v) (v := v) (d := d) (k := k) (m := m) (a := b) (bu := bu) hq hR y6 (by omega)
  rw [sa_night_fa b yf z8] at p3
  refine ⟨_, p3, n, g, rc, ti, tb, vt, ri, cd, sx, rl, _, _, _, _, _, nd, ns, nw, il, _, _, _, _, _, _, _, _, _, _, _, fr, fg, pl, pc, pg, rfl, cl_F_w F ⟨rfl, sl_len _ _ _, sl_len _ _ _, rfl, y5, (sa_nt_len _ _ _ _).2.trans y6, y7, y8⟩, hg, z, ⟨rfl, rfl, rfl, rfl, rfl, rfl⟩, ⟨v, rfl, rfl, qv_of hq (fun j hj => sa_night_pv hR.1.2.1.1 (by omega))⟩, hr⟩
theorem cw_sweep {N : Nat} {h0 h : ss_Hp} {T : List Nat} {a : List Int32} {fo x : Int32} {RS : List (List ru_C)} {US : List (List Int32)} {I : Nat → Option (List Int32 × Int32 × Int32)} {Z : Nat → List Int32} {ro : Option (List ru_C)} {b : List Int32} {bu : Int32} {th fa : List Int32} {k m d i s : Nat} (hc : cw_h h0 h T a fo x RS US I Z ro b bu th fa) (hR : sa_R b k m d) (hi : i < m) (hs : s < k) (hn : ¬ pv b (14 + s) = nI 0) : ∃ h', mm_Wi_sweepBy N (some 102) (nI i) (nI s) h = some (sa_much b i s, h') ∧ cw_h h0 h' T a fo x RS US I Z ro (sa_take b i s) (bu ||| nI 1 <<< nI i) (sa_takeT b th i s) fa := by
  obtain ⟨n, g, rc, ti, tb, vt, ri, cd, sx, rl, wi, wv, gi, gs, gw, nd, ns, nw, il, ai, yv, yr, yi, ys, yw, yt, yh, yf, yo, yk, fr, fg, pl, pc, pg, rfl, F, hg, z, ⟨w1, w2, w3, w4, w5, w6⟩, ⟨v, hv, hwv, hq⟩, hr⟩ := hc
  subst w1 w2 w3 w4 w5 w6 hv hwv
  obtain ⟨y1, y2, y3, y4, y5, y6, y7, y8⟩ := F.2.2.2.2.2.2.2.2.1
  have p3 := pq_sweepBy (n := n) (g := g) (rc := rc) (ti := ti) (tb := tb) (vt := vt) (ri := ri) (cd := cd) (sx := sx) (rl := rl) (wi := wi) (gi := gi) (gs := gs) (gw := gw) (nd := nd) (ns := ns) (nw := nw) (il := il) (ai := ai) (yr := yr) (yh := yh) (yf := yf) (yo := yo) (yk := yk) (fr := fr) (fg := fg) (pl := pl) (pc := pc) (pg := pg) (yv := some v) (wv := some v) (N := N) (d := d) (k := k) (m := m) (a := b) (bu := bu) hR y5 hi hs hn
  have hok := sa_ok_take (i := i) hR.1 hs
  have hpv : ∀ j, j ≠ 11 → (j < 14 ∨ 22 ≤ j) → pv (sa_take b i s) j = pv b j := fun j h1 h2 => by
    have hk := hR.1.2.1.1
    rcases hR.1.2.2.2.2.1 s hs with hw | ⟨t, ht, hw⟩
    · exact sa_take_pv (t := 0) (by omega) (Or.inl hw) h1 h2
    · exact sa_take_pv (t := t) (by omega) (Or.inr ⟨by omega, hw⟩) h1 h2
  refine ⟨_, p3, n, g, rc, ti, tb, vt, ri, cd, sx, rl, _, _, _, _, _, nd, ns, nw, il, _, _, _, _, _, _, _, _, _, _, _, fr, fg, pl, pc, pg, rfl, cl_F_w F ⟨rfl, sl_len _ _ _, sl_len _ _ _, rfl, (sa_takeT_len _ _ _ _).trans y5, y6, y7, y8⟩, hg, z, ⟨rfl, rfl, rfl, rfl, rfl, rfl⟩, ⟨v, rfl, rfl, qv_take hq hpv⟩, hr⟩
theorem cw_closed {N : Nat} {h0 h : ss_Hp} {T : List Nat} {a : List Int32} {fo x : Int32} {RS : List (List ru_C)} {US : List (List Int32)} {I : Nat → Option (List Int32 × Int32 × Int32)} {Z : Nat → List Int32} {ro : Option (List ru_C)} {b : List Int32} {bu : Int32} {th fa : List Int32} {k : Nat} (hc : cw_h h0 h T a fo x RS US I Z ro b bu th fa) (hk : k ≤ 8) (h2 : pv b 2 = nI k) (hN : 8 < N) : mm_Wi_closedBits N (some 102) h = some (sa_clo b k) := by
  obtain ⟨n, g, rc, ti, tb, vt, ri, cd, sx, rl, wi, wv, gi, gs, gw, nd, ns, nw, il, ai, yv, yr, yi, ys, yw, yt, yh, yf, yo, yk, fr, fg, pl, pc, pg, rfl, F, hg, z, ⟨w1, w2, w3, w4, w5, w6⟩, ⟨v, hv, hwv, hq⟩, hr⟩ := hc
  subst w1 w2 w3 w4 w5 w6 hv hwv
  exact pq_Wclosed hq hk h2 hN
theorem cw_sum {N : Nat} {h0 h : ss_Hp} {T : List Nat} {a : List Int32} {fo x : Int32} {RS : List (List ru_C)} {US : List (List Int32)} {I : Nat → Option (List Int32 × Int32 × Int32)} {Z : Nat → List Int32} {ro : Option (List ru_C)} {b : List Int32} {bu : Int32} {th fa : List Int32} (hc : cw_h h0 h T a fo x RS US I Z ro b bu th fa) (hN : 8 < N) : mm_G_snowOfAll N (some 103) h = some (sa_sum b 8) := by
  obtain ⟨n, g, rc, ti, tb, vt, ri, cd, sx, rl, wi, wv, gi, gs, gw, nd, ns, nw, il, ai, yv, yr, yi, ys, yw, yt, yh, yf, yo, yk, fr, fg, pl, pc, pg, rfl, F, hg, z, ⟨w1, w2, w3, w4, w5, w6⟩, ⟨v, hv, hwv, hq⟩, hr⟩ := hc
  subst w1 w2 w3 w4 w5 w6 hv hwv
  exact pq_sumW hN
theorem cw_snow {h0 h : ss_Hp} {T : List Nat} {a : List Int32} {fo x : Int32} {RS : List (List ru_C)} {US : List (List Int32)} {I : Nat → Option (List Int32 × Int32 × Int32)} {Z : Nat → List Int32} {ro : Option (List ru_C)} {b : List Int32} {bu : Int32} {th fa : List Int32} {s : Nat} (hc : cw_h h0 h T a fo x RS US I Z ro b bu th fa) (hs : s < 8) : ss_ai h (some 104) 20 (nI s) = some (pv b (14 + s)) := by
  obtain ⟨n, g, rc, ti, tb, vt, ri, cd, sx, rl, wi, wv, gi, gs, gw, nd, ns, nw, il, ai, yv, yr, yi, ys, yw, yt, yh, yf, yo, yk, fr, fg, pl, pc, pg, rfl, F, hg, z, ⟨w1, w2, w3, w4, w5, w6⟩, ⟨v, hv, hwv, hq⟩, hr⟩ := hc
  subst w1 w2 w3 w4 w5 w6 hv hwv
  exact pk_x104 hs
theorem cw_day {h0 h : ss_Hp} {T : List Nat} {a : List Int32} {fo x : Int32} {RS : List (List ru_C)} {US : List (List Int32)} {I : Nat → Option (List Int32 × Int32 × Int32)} {Z : Nat → List Int32} {ro : Option (List ru_C)} {b : List Int32} {bu : Int32} {th fa : List Int32} (hc : cw_h h0 h T a fo x RS US I Z ro b bu th fa) : ss_gi h (some 103) 0 3 = some (pv b 10) := by
  obtain ⟨n, g, rc, ti, tb, vt, ri, cd, sx, rl, wi, wv, gi, gs, gw, nd, ns, nw, il, ai, yv, yr, yi, ys, yw, yt, yh, yf, yo, yk, fr, fg, pl, pc, pg, rfl, F, hg, z, ⟨w1, w2, w3, w4, w5, w6⟩, ⟨v, hv, hwv, hq⟩, hr⟩ := hc
  subst w1 w2 w3 w4 w5 w6 hv hwv
  exact pk_x103_3
theorem cw_thr {h0 h : ss_Hp} {T : List Nat} {a : List Int32} {fo x : Int32} {RS : List (List ru_C)} {US : List (List Int32)} {I : Nat → Option (List Int32 × Int32 × Int32)} {Z : Nat → List Int32} {ro : Option (List ru_C)} {b : List Int32} {bu : Int32} {th fa : List Int32} {s : Nat} (hc : cw_h h0 h T a fo x RS US I Z ro b bu th fa) (hs : s < 8) : ss_ai h (some 107) 20 (nI s) = some (pv th s) := by
  have hl := cw_len hc
  obtain ⟨n, g, rc, ti, tb, vt, ri, cd, sx, rl, wi, wv, gi, gs, gw, nd, ns, nw, il, ai, yv, yr, yi, ys, yw, yt, yh, yf, yo, yk, fr, fg, pl, pc, pg, rfl, F, hg, z, ⟨w1, w2, w3, w4, w5, w6⟩, ⟨v, hv, hwv, hq⟩, hr⟩ := hc
  subst w1 w2 w3 w4 w5 w6 hv hwv
  exact pk_a107 (by omega) (by omega)
theorem cw_fal {h0 h : ss_Hp} {T : List Nat} {a : List Int32} {fo x : Int32} {RS : List (List ru_C)} {US : List (List Int32)} {I : Nat → Option (List Int32 × Int32 × Int32)} {Z : Nat → List Int32} {ro : Option (List ru_C)} {b : List Int32} {bu : Int32} {th fa : List Int32} {s : Nat} (hc : cw_h h0 h T a fo x RS US I Z ro b bu th fa) (hs : s < 8) : ss_ai h (some 108) 20 (nI s) = some (pv fa s) := by
  have hl := cw_len hc
  obtain ⟨n, g, rc, ti, tb, vt, ri, cd, sx, rl, wi, wv, gi, gs, gw, nd, ns, nw, il, ai, yv, yr, yi, ys, yw, yt, yh, yf, yo, yk, fr, fg, pl, pc, pg, rfl, F, hg, z, ⟨w1, w2, w3, w4, w5, w6⟩, ⟨v, hv, hwv, hq⟩, hr⟩ := hc
  subst w1 w2 w3 w4 w5 w6 hv hwv
  exact pk_a108 (by omega) (by omega)
theorem cw_ck {h0 h : ss_Hp} {T : List Nat} {a : List Int32} {fo x : Int32} {RS : List (List ru_C)} {US : List (List Int32)} {I : Nat → Option (List Int32 × Int32 × Int32)} {Z : Nat → List Int32} {ro : Option (List ru_C)} {b : List Int32} {bu : Int32} {th fa : List Int32} (hc : cw_h h0 h T a fo x RS US I Z ro b bu th fa) : ck_h h := cb_ck (cw_cb hc)
theorem cw_c96 {h0 h : ss_Hp} {T : List Nat} {a : List Int32} {fo x : Int32} {RS : List (List ru_C)} {US : List (List Int32)} {I : Nat → Option (List Int32 × Int32 × Int32)} {Z : Nat → List Int32} {ro : Option (List ru_C)} {b : List Int32} {bu : Int32} {th fa : List Int32} (hc : cw_h h0 h T a fo x RS US I Z ro b bu th fa) : h.2 104 = (20, sl b 14 8, [], []) := by
  obtain ⟨n, g, rc, ti, tb, vt, ri, cd, sx, rl, wi, wv, gi, gs, gw, nd, ns, nw, il, ai, yv, yr, yi, ys, yw, yt, yh, yf, yo, yk, fr, fg, pl, pc, pg, rfl, F, hg, z, ⟨w1, w2, w3, w4, w5, w6⟩, ⟨v, hv, hwv, hq⟩, hr⟩ := hc
  subst w1 w2 w3 w4 w5 w6 hv hwv
  exact pk_c104
theorem cw_lay {N : Nat} {h0 h : ss_Hp} {T : List Nat} {a : List Int32} {fo x : Int32} {RS : List (List ru_C)} {US : List (List Int32)} {I : Nat → Option (List Int32 × Int32 × Int32)} {Z : Nat → List Int32} {ro : Option (List ru_C)} {b : List Int32} {bu : Int32} {th fa : List Int32} {s : Nat} {y : Int32} (hc : cw_h h0 h T a fo x RS US I Z ro b bu th fa) (hl : b.length = 124) (hs : s < 8) : ∃ h', mm_G_lay N (some 103) (nI s) y h = some h' ∧ cw_h h0 h' T a fo x RS US I Z ro (b.set (14 + s) (sa_held (pv b (14 + s) + y))) bu th fa := by
  obtain ⟨n, g, rc, ti, tb, vt, ri, cd, sx, rl, wi, wv, gi, gs, gw, nd, ns, nw, il, ai, yv, yr, yi, ys, yw, yt, yh, yf, yo, yk, fr, fg, pl, pc, pg, rfl, F, hg, z, ⟨w1, w2, w3, w4, w5, w6⟩, ⟨v, hv, hwv, hq⟩, hr⟩ := hc
  subst w1 w2 w3 w4 w5 w6 hv hwv
  obtain ⟨y1, y2, y3, y4, y5, y6, y7, y8⟩ := F.2.2.2.2.2.2.2.2.1
  refine ⟨_, pq_lay (by rw [sl_len]; exact hs) (sl_len _ _ _), n, g, rc, ti, tb, vt, ri, cd, sx, rl, _, _, _, _, _, nd, ns, nw, il, _, _, _, _, _, _, _, _, _, _, _, fr, fg, pl, pc, pg, rfl, cl_F_w F ⟨rfl, by rw [List.length_set, sl_len], sl_len _ _ _, rfl, y5, y6, y7, y8⟩, hg, z, ⟨?_, ?_, ?_, ?_, rfl, rfl⟩, ⟨v, rfl, rfl, qv_of hq (fun j hj => pv_ne (by omega))⟩, hr⟩
  · rw [pv_ne (by omega), pv_ne (by omega), pv_ne (by omega)]
  · rw [sl_pv hs]
    exact sl_set hs (by omega)
  · exact (sl_ne (by omega)).symm
  · rw [pv_ne (by omega), pv_ne (by omega), pv_ne (by omega), pv_ne (by omega)]
theorem pb_str4 {b : List Int32} {i : Nat} {y : Int32} (hl : b.length = 124) (hi : i < 4) : [pv b 39, pv b 41, pv b 43, pv b 45].set i y = [pv (b.set (38 + 2 * i + 1) y) 39, pv (b.set (38 + 2 * i + 1) y) 41, pv (b.set (38 + 2 * i + 1) y) 43, pv (b.set (38 + 2 * i + 1) y) 45] := by
  have hi' : i = 0 ∨ i = 1 ∨ i = 2 ∨ i = 3 := by omega
  rcases hi' with h | h | h | h <;> subst h <;> simp only [List.set_cons_zero, List.set_cons_succ, pv_set (show 39 < b.length by omega), pv_set (show 41 < b.length by omega), pv_set (show 43 < b.length by omega), pv_set (show 45 < b.length by omega), Nat.reduceMul, Nat.reduceAdd, if_true] <;> simp
theorem cw_setstr {h0 h : ss_Hp} {T : List Nat} {a : List Int32} {fo x : Int32} {RS : List (List ru_C)} {US : List (List Int32)} {I : Nat → Option (List Int32 × Int32 × Int32)} {Z : Nat → List Int32} {ro : Option (List ru_C)} {b : List Int32} {bu : Int32} {th fa : List Int32} {i : Nat} {y : Int32} (hc : cw_h h0 h T a fo x RS US I Z ro b bu th fa) (hl : b.length = 124) (hi : i < 4) : ∃ h', ss_ui h (some 106) 20 (nI i) y = some h' ∧ cw_h h0 h' T a fo x RS US I Z ro (b.set (38 + 2 * i + 1) y) bu th fa := by
  obtain ⟨n, g, rc, ti, tb, vt, ri, cd, sx, rl, wi, wv, gi, gs, gw, nd, ns, nw, il, ai, yv, yr, yi, ys, yw, yt, yh, yf, yo, yk, fr, fg, pl, pc, pg, rfl, F, hg, z, ⟨w1, w2, w3, w4, w5, w6⟩, ⟨v, hv, hwv, hq⟩, hr⟩ := hc
  subst w1 w2 w3 w4 w5 w6 hv hwv
  obtain ⟨y1, y2, y3, y4, y5, y6, y7, y8⟩ := F.2.2.2.2.2.2.2.2.1
  have hle : ∀ j, j ≤ 2 → True := fun _ _ => trivial
  refine ⟨_, pk_u106 (by show i < 4; exact hi) (by omega) y, n, g, rc, ti, tb, vt, ri, cd, sx, rl, _, _, _, _, _, nd, ns, nw, il, _, _, _, _, _, _, _, _, _, _, _, fr, fg, pl, pc, pg, rfl, cl_F_w F ⟨rfl, sl_len _ _ _, sl_len _ _ _, by rw [List.length_set]; rfl, y5, y6, y7, y8⟩, hg, z, ⟨?_, ?_, ?_, ?_, rfl, rfl⟩, ⟨v, rfl, rfl, qv_of hq (fun j hj => pv_ne (by omega))⟩, hr⟩
  · rw [pv_ne (by omega), pv_ne (by omega), pv_ne (by omega)]
  · exact (sl_ne (by omega)).symm
  · exact (sl_ne (by omega)).symm
  · exact pb_str4 hl hi
