/-! ===== what class and model hold, in one abstract state: tape, said ints, force, x, rules, undone acts, images ===== -/
def sa_told (a : List Int32) : Int32 := if pv a 0 ≤ nI 0 then nI 0 else nI 1
def sd_ok (a : List Int32) (k m d : Nat) : Prop := sa_ok a k m d ∧ (∀ s, s < 8 → ∃ q, q ≤ 999 ∧ pv a (14 + s) = nI q ∧ (k ≤ s → q = 0)) ∧ (∀ i, i < m → ∃ q, 0 < q ∧ q ≤ 99 ∧ pv a (38 + 2 * i + 1) = nI q) ∧ (∃ b, b < 16 ∧ pv a 13 = nI b) ∧ d ≤ 999 ∧ (∀ s, s < k → pv a (22 + s) < nI 0 → pv a (22 + s) = -nI 1) ∧ (∃ q, q ≤ 10 ∧ pv a 123 = nI q ∧ ∀ i, i < q → (∃ t, t ≤ 60 ∧ pv a (93 + 3 * i) = nI t) ∧ ∃ s, s < k ∧ pv a (94 + 3 * i) = nI s) ∧ ((∀ s, s < 8 → ∃ q, q ≤ 99 ∧ pv a (46 + s) = nI q ∧ (k ≤ s → q = 0)) ∧ ∀ s, s < k → pv a (54 + s) = -nI 1 ∨ ∃ t, t < k ∧ pv a (54 + s) = nI t) ∧ (∀ e, e < 31 → ∃ b, b < 2 ^ k ∧ pv a (62 + e) = nI b) ∧ ((∃ q, 0 < q ∧ q ≤ 9 ∧ pv a 0 = nI q) ∧ (∃ q, 0 < q ∧ q ≤ 30 ∧ pv a 1 = nI q) ∨ pv a 0 = nI 0 ∧ k = 0 ∧ m = 0)
theorem sd_told {a : List Int32} {k m d : Nat} (h : sd_ok a k m d) (ht : ¬ pv a 0 ≤ nI 0) : sa_R a k m d := by
  obtain ⟨h1, h2, h3, h4, h5, h6, h7, h8, h9, h10⟩ := h
  rcases h10 with ⟨q1, q2⟩ | ⟨q1, -, -⟩
  · exact ⟨h1, h2, h3, q1, q2, h4⟩
  · rw [q1] at ht
    exact absurd (Int32.le_refl _) ht
theorem sd_step {a : List Int32} {k m d : Nat} (h : sd_ok a k m d) (hk : 0 < k ∨ 0 < m) : ¬ pv a 0 ≤ nI 0 := by
  obtain ⟨h1, h2, h3, h4, h5, h6, h7, h8, h9, h10⟩ := h
  rcases h10 with ⟨⟨q, q1, q2, q3⟩, -⟩ | ⟨-, h, h'⟩
  · rw [q3]; exact nI_ge q1 (by omega)
  · omega
/-- the ints 10 to 29 laid over -/
def sa_lay (a u : List Int32) : List Int32 := a.take 10 ++ (u ++ a.drop 30)
theorem sa_lay_len {a u : List Int32} (ha : a.length = 124) (hu : u.length = 20) : (sa_lay a u).length = 124 := by
  simp [sa_lay, ha, hu]
theorem sa_lay_pv {a u : List Int32} {j : Nat} (ha : a.length = 124) (hu : u.length = 20) : pv (sa_lay a u) j = if j < 10 ∨ 30 ≤ j then pv a j else pv u (j - 10) := by
  unfold sa_lay pv
  simp only [List.getD_eq_getElem?_getD]
  by_cases c1 : j < 10
  · rw [List.getElem?_append_left (by simp [ha]; omega), if_pos (Or.inl c1), List.getElem?_take_of_lt c1]
  · rw [List.getElem?_append_right (by simp [ha]; omega)]
    have e : (List.take 10 a).length = 10 := by simp [ha]
    rw [e]
    by_cases c2 : j < 30
    · rw [List.getElem?_append_left (by omega), if_neg (by omega)]
    · rw [List.getElem?_append_right (by omega), if_pos (by omega), hu, List.getElem?_drop]
      congr 2
      omega
def as_ok (T : List Nat) (a : List Int32) (fo x : Int32) (RS : List (List ru_C)) (US : List (List Int32)) (I : Nat → Option (List Int32 × Int32 × Int32)) : Prop := (T.length ≤ 400 ∧ ∀ i, i < T.length → T.getD i 0 < 256) ∧ (∃ k m d, sd_ok a k m d ∧ US.length ≤ 20 ∧ ∀ j, j < US.length → (US.getD j []).length = 20 ∧ ¬ pv a 0 ≤ nI 0 ∧ ∃ d', sd_ok (sa_lay a (US.getD j [])) k m d') ∧ RS.length ≤ 6 ∧ (fo = -nI 1 ∨ ∃ r, r < RS.length ∧ fo = nI r) ∧ (∃ q, q < 2 ^ 31 ∧ x = nI q) ∧ ∀ q s f y, I q = some (s, f, y) → (∃ k m d, sd_ok s k m d) ∧ (f = -nI 1 ∨ ∃ r, r < RS.length ∧ f = nI r) ∧ ∃ q, q < 2 ^ 31 ∧ y = nI q
/-! the class -/
def qv_R (g : Nat → ss_Cl) (v : Nat) (a : List Int32) : Prop := qv_S g v a ∧ (g v).2.1[0]? = some (sa_told a) ∧ g (v + 2) = (20, [pv a 39, pv a 41, pv a 43, pv a 45], [], []) ∧ g (v + 5) = (0, [nI 0, nI 0, nI 0, nI 0], [], [some (v + 6), some (v + 7)]) ∧ g (v + 6) = (20, sl a 46 8, [], []) ∧ ∃ w, w.length = 8 ∧ g (v + 7) = (20, w, [], []) ∧ (¬ pv a 0 ≤ nI 0 → w = sl a 54 8)
def note_R (nd ns nw a : List Int32) : Prop := nd.length = 10 ∧ ns.length = 10 ∧ nw.length = 10 ∧ ∀ q, q ≤ 10 → pv a 123 = nI q → ∀ i, i < q → pv nd i = pv a (93 + 3 * i) ∧ pv ns i = pv a (94 + 3 * i) ∧ pv nw i = pv a (95 + 3 * i)
def qg_R (g : Nat → ss_Cl) (p : Nat) (J S W : List Int32) : Prop := g p = (0, J, [], [some (p + 1), some (p + 2)]) ∧ g (p + 1) = (20, S, [], []) ∧ g (p + 2) = (20, W, [], [])
def wq_R (g : Nat → ss_Cl) (w : Nat) (a : List Int32) (fo x : Int32) : Prop := (g w = (8, [fo, x, pv a 123], [], [some (w + 1), some (w + 9), some (w + 12), some (w + 13), some (w + 14)]) ∧ qv_R g (w + 1) a) ∧ (∃ W, W.length = 8 ∧ qg_R g (w + 9) [pv a 11, pv a 12, pv a 13, pv a 10] (sl a 14 8) W ∧ (¬ pv a 0 ≤ nI 0 → W = sl a 22 8)) ∧ ∃ nd ns nw, g (w + 12) = (20, nd, [], []) ∧ g (w + 13) = (20, ns, [], []) ∧ g (w + 14) = (20, nw, [], []) ∧ note_R nd ns nw a
def qw_R (g : Nat → ss_Cl) (w : Nat) (a : List Int32) (fo x : Int32) : Prop := 142 ≤ w ∧ wq_R g w a fo x
def ql_R (g : Nat → ss_Cl) (rl : List (Option Nat)) (RS : List (List ru_C)) : Prop := rl.length = 6 ∧ ∀ r, r < 6 → (r < RS.length → ∃ p, rl[r]? = some (some p) ∧ rc_R g p (RS.getD r [])) ∧ (RS.length ≤ r → rl[r]? = some none)
def qi_R (g : Nat → ss_Cl) (il : List (Option Nat)) (I : Nat → Option (List Int32 × Int32 × Int32)) : Prop := il.length = 4 ∧ (∀ q, q < 4 → match I q with
  | none => il[q]? = some none
  | some (s, f, y) => ∃ w, il[q]? = some (some w) ∧ qw_R g w s f y) ∧ ∀ (q q' w : Nat), il[q]? = some (some w) → il[q']? = some (some w) → q = q'
def qu_R (g : Nat → ss_Cl) (nx : Nat) (US : List (List Int32)) : Prop := nx < 20 ∧ (∀ i, i < 20 → ∃ J S W, J.length = 4 ∧ S.length = 8 ∧ W.length = 8 ∧ qg_R g (42 + 3 * i) J S W) ∧ ∀ j, j < US.length → qg_R g (42 + 3 * ((nx + 19 - j) % 20)) [pv (US.getD j []) 1, pv (US.getD j []) 2, pv (US.getD j []) 3, pv (US.getD j []) 0] (sl (US.getD j []) 4 8) (sl (US.getD j []) 12 8)
def cn_R (g : Nat → ss_Cl) (wi : List Int32) (wv : Option Nat) (gi gs gw nd ns nw a : List Int32) (fo x : Int32) : Prop := wi = [fo, x, pv a 123] ∧ (∃ v, wv = some v ∧ qv_R g v a) ∧ gi = [pv a 11, pv a 12, pv a 13, pv a 10] ∧ gs = sl a 14 8 ∧ (gw.length = 8 ∧ (¬ pv a 0 ≤ nI 0 → gw = sl a 22 8)) ∧ note_R nd ns nw a
def bz8 : List Int32 := List.replicate 8 (nI 0)
def bm8 : List Int32 := List.replicate 8 (-nI 1)
/-- a Valley's cells at v, whatever it tells -/
def bv_R (g : Nat → ss_Cl) (v : Nat) (j own str bes nds sn wa : List Int32) : Prop := g v = (5, j, [], [some (v + 1), some (v + 2), some (v + 3), some (v + 4), some (v + 5)]) ∧ g (v + 1) = (20, own, [], []) ∧ g (v + 2) = (20, str, [], []) ∧ g (v + 3) = (20, bes, [], []) ∧ g (v + 4) = (20, nds, [], []) ∧ g (v + 5) = (0, [nI 0, nI 0, nI 0, nI 0], [], [some (v + 6), some (v + 7)]) ∧ g (v + 6) = (20, sn, [], []) ∧ g (v + 7) = (20, wa, [], [])
def bl_L (j own str bes nds sn wa : List Int32) : Prop := j.length = 5 ∧ own.length = 4 ∧ str.length = 4 ∧ bes.length = 8 ∧ nds.length = 8 ∧ sn.length = 8 ∧ wa.length = 8
/-- what never changes: the blank Valley, where the told one and the present one lie -/
def fx_R (g : Nat → ss_Cl) (vt wv yv : Option Nat) : Prop := vt = some 12 ∧ wv = some 25 ∧ yv = some 25 ∧ bv_R g 4 [nI 0, nI 0, nI 0, nI 0, nI 0] [nI 0, nI 0, nI 0, nI 0] [nI 0, nI 0, nI 0, nI 0] bz8 bz8 bz8 bm8 ∧ ∃ j own str bes nds sn wa, bl_L j own str bes nds sn wa ∧ bv_R g 12 j own str bes nds sn wa
def ct_R (ti tb : List Int32) (T : List Nat) : Prop := ti.length = 5 ∧ pv ti 0 = nI T.length ∧ tb.length = 400 ∧ ∀ i, i < T.length → pv tb i = nI (T.getD i 0)
def cw_L (yi ys yw yt yh yf : List Int32) (yo yk : List Int64) : Prop := yi.length = 4 ∧ ys.length = 8 ∧ yw.length = 8 ∧ yt.length = 4 ∧ yh.length = 8 ∧ yf.length = 8 ∧ yo.length = 12 ∧ yk.length = 32
def cf_L (fr fg pl pc pg : List Int32) : Prop := fr.length = 488 ∧ fg.length = 7 ∧ pl.length = 8 ∧ pc.length = 8 ∧ pg.length = 64
def cl_F (n : Nat) (g : Nat → ss_Cl) (rc : Int32) (ti : List Int32) (tb : List Int32) (vt : Option Nat) (ri : List Int32) (cd : List Int32) (sx : List Int32) (rl : List (Option Nat)) (wi : List Int32) (wv : Option Nat) (gi : List Int32) (gs : List Int32) (gw : List Int32) (nd : List Int32) (ns : List Int32) (nw : List Int32) (il : List (Option Nat)) (ai : List Int32) (yv : Option Nat) (yr : Option Nat) (yi : List Int32) (ys : List Int32) (yw : List Int32) (yt : List Int32) (yh : List Int32) (yf : List Int32) (yo : List Int64) (yk : List Int64) (fr : List Int32) (fg : List Int32) (pl : List Int32) (pc : List Int32) (pg : List Int32) (T : List Nat) (a : List Int32) (fo x : Int32) (RS : List (List ru_C)) (US : List (List Int32)) (I : Nat → Option (List Int32 × Int32 × Int32)) : Prop := 142 ≤ n ∧ rc = nI RS.length ∧ ct_R ti tb T ∧ (ri.length = 3 ∧ cd.length = 400 ∧ sx.length = 25 ∧ pv sx 0 = nI 0 ∧ fx_R g vt wv yv) ∧ ql_R g rl RS ∧ cn_R g wi wv gi gs gw nd ns nw a fo x ∧ qi_R g il I ∧ (∃ nx, ai = [nI nx, nI US.length] ∧ qu_R g nx US) ∧ cw_L yi ys yw yt yh yf yo yk ∧ cf_L fr fg pl pc pg
def cl_h (h : ss_Hp) (T : List Nat) (a : List Int32) (fo x : Int32) (RS : List (List ru_C)) (US : List (List Int32)) (I : Nat → Option (List Int32 × Int32 × Int32)) : Prop := ∃ n g rc ti tb vt ri cd sx rl wi wv gi gs gw nd ns nw il ai yv yr yi ys yw yt yh yf yo yk fr fg pl pc pg, h = pk_C n g rc ti tb vt ri cd sx rl wi wv gi gs gw nd ns nw il ai yv yr yi ys yw yt yh yf yo yk fr fg pl pc pg ∧ cl_F n g rc ti tb vt ri cd sx rl wi wv gi gs gw nd ns nw il ai yv yr yi ys yw yt yh yf yo yk fr fg pl pc pg T a fo x RS US I
/-! the model -/
def mb_8 (b : Nat) : Int32 := if b < 128 then nI b else nI b - nI 256
def mo_F (n : Nat) (f : Nat → ss_Cl) (mi : List Int32) (dx : Int64) (tp : List Int32) (sg : List Int32) (lg : List Int32) (cl : List Int32) (cs : List Int32) (rd : List Int32) (op : List Int32) (sk : List Int64) (wd : List Int64) (sd : List Int32) (th : List Int32) (fa : List Int32) (ws : List Int32) (kp : List Int32) (li : List Int32) (pr : List Int32) (hb : List Int32) (fi : List Int32) (st : List Int32) (im : List Int32) (jf : List Int32) (jx : List Int32) (mk : List Int32) (T : List Nat) (a : List Int32) (fo x : Int32) (RS : List (List ru_C)) (US : List (List Int32)) (I : Nat → Option (List Int32 × Int32 × Int32)) : Prop := (mi.length = 16 ∧ tp.length = 400 ∧ sg.length = 2400 ∧ lg.length = 7 ∧ cl.length = 288 ∧ cs.length = 6 ∧ rd.length = 93 ∧ op.length = 400 ∧ sk.length = 64 ∧ wd.length = 12 ∧ th.length = 8 ∧ fa.length = 8) ∧ (ws.length = 400 ∧ kp.length = 20 ∧ li.length = 488 ∧ pr.length = 8 ∧ hb.length = 64 ∧ fi.length = 7 ∧ st.length = 56 ∧ im.length = 496 ∧ jf.length = 4 ∧ jx.length = 4 ∧ mk.length = 4) ∧ (pv mi 0 = nI T.length ∧ ∀ i, i < T.length → pv tp i = mb_8 (T.getD i 0)) ∧ (pv mi 1 = nI RS.length ∧ ∀ r, r < RS.length → ru_M cl sg cs r (RS.getD r [])) ∧ (pv mi 13 = fo ∧ pv mi 14 = x ∧ sd = a) ∧ (pv mi 15 = nI US.length ∧ ∀ j, j < US.length → ∀ i, i < 20 → pv ws (20 * (US.length - 1 - j) + i) = pv (US.getD j []) i) ∧ ∀ q, q < 4 → match I q with
  | none => pv mk q = nI 0
  | some (s, f, y) => pv mk q = nI 1 ∧ pv jf q = f ∧ pv jx q = y ∧ ∀ i, i < 124 → pv im (124 * q + i) = pv s i
def mo_h (h : ss_Hp) (T : List Nat) (a : List Int32) (fo x : Int32) (RS : List (List ru_C)) (US : List (List Int32)) (I : Nat → Option (List Int32 × Int32 × Int32)) : Prop := ∃ n f mi dx tp sg lg cl cs rd op sk wd sd th fa ws kp li pr hb fi st im jf jx mk, h = pm_M n f mi dx tp sg lg cl cs rd op sk wd sd th fa ws kp li pr hb fi st im jf jx mk ∧ mo_F n f mi dx tp sg lg cl cs rd op sk wd sd th fa ws kp li pr hb fi st im jf jx mk T a fo x RS US I
/-! frames -/
def qf_eq (g g' : Nat → ss_Cl) : Prop := ∀ p, (4 ≤ p ∧ p < 20) ∨ (25 ≤ p ∧ p < 33) ∨ (42 ≤ p ∧ p < 102) ∨ 142 ≤ p → g' p = g p
theorem qv_S_fr {g g' : Nat → ss_Cl} (e : qf_eq g g') {v : Nat} {a : List Int32} (h : qv_S g v a) : qv_S g' v a := by
  obtain ⟨h0, tl, nds, g0, g1, g3, g4, gn⟩ := h
  exact ⟨h0, tl, nds, by rw [e v (by omega), g0], by rw [e (v + 1) (by omega), g1], by rw [e (v + 3) (by omega), g3], by rw [e (v + 4) (by omega), g4], gn⟩
theorem qv_R_fr {g g' : Nat → ss_Cl} (e : qf_eq g g') {v : Nat} {a : List Int32} (h : qv_R g v a) : qv_R g' v a := by
  obtain ⟨h0, h1, h2, h3, h4, w, h5, h6, h7⟩ := h
  have hv := h0.1
  exact ⟨qv_S_fr e h0, by rw [e v (by omega)]; exact h1, by rw [e (v + 2) (by omega)]; exact h2, by rw [e (v + 5) (by omega)]; exact h3, by rw [e (v + 6) (by omega)]; exact h4, w, h5, by rw [e (v + 7) (by omega)]; exact h6, h7⟩
theorem rc_R_fr {g g' : Nat → ss_Cl} (e : qf_eq g g') {r : Nat} {R : List ru_C} (h : rc_R g r R) : rc_R g' r R := by
  obtain ⟨h0, h1, code, starts, h2, h3, h4, h5⟩ := h
  exact ⟨h0, h1, code, starts, by rw [e r (by omega)]; exact h2, by rw [e (r + 1) (by omega)]; exact h3, by rw [e (r + 2) (by omega)]; exact h4, h5⟩
theorem qg_R_fr {g g' : Nat → ss_Cl} {p : Nat} {J S W : List Int32} (e : ∀ j, j < 3 → g' (p + j) = g (p + j)) (h : qg_R g p J S W) : qg_R g' p J S W := by
  obtain ⟨h0, h1, h2⟩ := h
  exact ⟨by rw [← h0]; exact e 0 (by omega), by rw [e 1 (by omega)]; exact h1, by rw [e 2 (by omega)]; exact h2⟩
theorem qw_R_fr {g g' : Nat → ss_Cl} (e : qf_eq g g') {w : Nat} {a : List Int32} {fo x : Int32} (h : qw_R g w a fo x) : qw_R g' w a fo x := by
  obtain ⟨h0, ⟨h1, h2⟩, ⟨W, h3, h4, h5⟩, nd, ns, nw, h6, h7, h8, h9⟩ := h
  exact ⟨h0, ⟨by rw [e w (by omega)]; exact h1, qv_R_fr e h2⟩, ⟨W, h3, qg_R_fr (fun j hj => e _ (by omega)) h4, h5⟩, nd, ns, nw, by rw [e _ (by omega)]; exact h6, by rw [e _ (by omega)]; exact h7, by rw [e _ (by omega)]; exact h8, h9⟩
theorem bv_R_fr {g g' : Nat → ss_Cl} {v : Nat} {j own str bes nds sn wa : List Int32} (e : ∀ i, i < 8 → g' (v + i) = g (v + i)) (h : bv_R g v j own str bes nds sn wa) : bv_R g' v j own str bes nds sn wa := by
  obtain ⟨h0, h1, h2, h3, h4, h5, h6, h7⟩ := h
  exact ⟨(e 0 (by omega)).trans h0, (e 1 (by omega)).trans h1, (e 2 (by omega)).trans h2, (e 3 (by omega)).trans h3, (e 4 (by omega)).trans h4, (e 5 (by omega)).trans h5, (e 6 (by omega)).trans h6, (e 7 (by omega)).trans h7⟩
theorem fx_R_of {g g' : Nat → ss_Cl} {vt wv yv : Option Nat} (e : ∀ p, 4 ≤ p → p < 20 → g' p = g p) (h : fx_R g vt wv yv) : fx_R g' vt wv yv := by
  obtain ⟨h0, h1, h2, h3, j, own, str, bes, nds, sn, wa, h4, h5⟩ := h
  exact ⟨h0, h1, h2, bv_R_fr (fun i hi => e _ (by omega) (by omega)) h3, j, own, str, bes, nds, sn, wa, h4, bv_R_fr (fun i hi => e _ (by omega) (by omega)) h5⟩
theorem fx_R_fr {g g' : Nat → ss_Cl} (e : qf_eq g g') {vt wv yv : Option Nat} (h : fx_R g vt wv yv) : fx_R g' vt wv yv := fx_R_of (fun p h1 h2 => e p (by omega)) h
theorem ql_R_fr {g g' : Nat → ss_Cl} (e : qf_eq g g') {rl : List (Option Nat)} {RS : List (List ru_C)} (h : ql_R g rl RS) : ql_R g' rl RS := by
  refine ⟨h.1, fun r hr => ⟨fun h1 => ?_, (h.2 r hr).2⟩⟩
  obtain ⟨p, p1, p2⟩ := (h.2 r hr).1 h1
  exact ⟨p, p1, rc_R_fr e p2⟩
theorem qi_R_fr {g g' : Nat → ss_Cl} (e : qf_eq g g') {il : List (Option Nat)} {I : Nat → Option (List Int32 × Int32 × Int32)} (h : qi_R g il I) : qi_R g' il I := by
  refine ⟨h.1, fun q hq => ?_, h.2.2⟩
  have := h.2.1 q hq
  cases hI : I q with
  | none => rw [hI] at this; exact this
  | some z =>
    obtain ⟨s, f, y⟩ := z
    rw [hI] at this
    obtain ⟨w, w1, w2⟩ := this
    exact ⟨w, w1, qw_R_fr e w2⟩
theorem qu_R_fr {g g' : Nat → ss_Cl} (e : qf_eq g g') {nx : Nat} {US : List (List Int32)} (h : qu_R g nx US) : qu_R g' nx US := by
  refine ⟨h.1, fun i hi => ?_, fun j hj => qg_R_fr (fun i hi => e _ (by have := Nat.mod_lt (nx + 19 - j) (show 0 < 20 by omega); omega)) (h.2.2 j hj)⟩
  obtain ⟨J, S, W, h1, h2, h3, h4⟩ := h.2.1 i hi
  exact ⟨J, S, W, h1, h2, h3, qg_R_fr (fun i hi => e _ (by omega)) h4⟩
theorem cn_R_fr {g g' : Nat → ss_Cl} (e : qf_eq g g') {wi : List Int32} {wv : Option Nat} {gi gs gw nd ns nw a : List Int32} {fo x : Int32} (h : cn_R g wi wv gi gs gw nd ns nw a fo x) : cn_R g' wi wv gi gs gw nd ns nw a fo x := by
  obtain ⟨h1, ⟨v, h2, h3⟩, h4⟩ := h
  exact ⟨h1, ⟨v, h2, qv_R_fr e h3⟩, h4⟩
theorem pk_inn {n : Nat} {g : Nat → ss_Cl} {rc : Int32} {ti : List Int32} {tb : List Int32} {vt : Option Nat} {ri : List Int32} {cd : List Int32} {sx : List Int32} {rl : List (Option Nat)} {wi : List Int32} {wv : Option Nat} {gi : List Int32} {gs : List Int32} {gw : List Int32} {nd : List Int32} {ns : List Int32} {nw : List Int32} {il : List (Option Nat)} {ai : List Int32} {yv : Option Nat} {yr : Option Nat} {yi : List Int32} {ys : List Int32} {yw : List Int32} {yt : List Int32} {yh : List Int32} {yf : List Int32} {yo : List Int64} {yk : List Int64} {fr : List Int32} {fg : List Int32} {pl : List Int32} {pc : List Int32} {pg : List Int32} {g' : Nat → ss_Cl} {p : Nat} (q : ¬ pk_fr p) : (pk_C n g rc ti tb vt ri cd sx rl wi wv gi gs gw nd ns nw il ai yv yr yi ys yw yt yh yf yo yk fr fg pl pc pg).2 p = (pk_C n g' rc ti tb vt ri cd sx rl wi wv gi gs gw nd ns nw il ai yv yr yi ys yw yt yh yf yo yk fr fg pl pc pg).2 p := by
  unfold pk_fr at q
  by_cases h1 : p < 42
  · have h2 : p = 0 ∨ p = 1 ∨ p = 2 ∨ p = 3 ∨ p = 20 ∨ p = 21 ∨ p = 22 ∨ p = 23 ∨ p = 24 ∨ p = 33 ∨ p = 34 ∨ p = 35 ∨ p = 36 ∨ p = 37 ∨ p = 38 ∨ p = 39 ∨ p = 40 ∨ p = 41 := by omega
    rcases h2 with h | h | h | h | h | h | h | h | h | h | h | h | h | h | h | h | h | h <;> subst h <;> rfl
  · have h2 : p = 102 ∨ p = 103 ∨ p = 104 ∨ p = 105 ∨ p = 106 ∨ p = 107 ∨ p = 108 ∨ p = 109 ∨ p = 110 ∨ p = 111 ∨ p = 112 ∨ p = 113 ∨ p = 114 ∨ p = 115 ∨ p = 116 ∨ p = 117 := by omega
    rcases h2 with h | h | h | h | h | h | h | h | h | h | h | h | h | h | h | h <;> subst h <;> rfl
theorem cl_frame {h h' : ss_Hp} {T : List Nat} {a : List Int32} {fo x : Int32} {RS : List (List ru_C)} {US : List (List Int32)} {I : Nat → Option (List Int32 × Int32 × Int32)} (hh : cl_h h T a fo x RS US I) (h1 : h'.1 = h.1) (h2 : ∀ p, p < 118 ∨ 142 ≤ p → h'.2 p = h.2 p) : cl_h h' T a fo x RS US I := by
  obtain ⟨n, g, rc, ti, tb, vt, ri, cd, sx, rl, wi, wv, gi, gs, gw, nd, ns, nw, il, ai, yv, yr, yi, ys, yw, yt, yh, yf, yo, yk, fr, fg, pl, pc, pg, rfl, F⟩ := hh
  obtain ⟨f1, f2, f3, ⟨f4a, f4b, f4c, f4d, f4e⟩, f5, f6, f7, ⟨nx, f8, f8'⟩, f9, f10⟩ := F
  have e : qf_eq g h'.2 := fun p hp => by rw [h2 p (by omega), pk_out (by unfold pk_fr; omega)]
  refine ⟨n, h'.2, rc, ti, tb, vt, ri, cd, sx, rl, wi, wv, gi, gs, gw, nd, ns, nw, il, ai, yv, yr, yi, ys, yw, yt, yh, yf, yo, yk, fr, fg, pl, pc, pg, ?_, f1, f2, f3, ⟨f4a, f4b, f4c, f4d, fx_R_fr e f4e⟩, ql_R_fr e f5, cn_R_fr e f6, qi_R_fr e f7, ⟨nx, f8, qu_R_fr e f8'⟩, f9, f10⟩
  refine Prod.ext h1 (funext fun p => ?_)
  by_cases q : pk_fr p
  · rw [pk_out q]
  · rw [h2 p (by unfold pk_fr at q; omega)]
    exact pk_inn q
theorem pm_out2 {n : Nat} {f : Nat → ss_Cl} {mi : List Int32} {dx : Int64} {tp : List Int32} {sg : List Int32} {lg : List Int32} {cl : List Int32} {cs : List Int32} {rd : List Int32} {op : List Int32} {sk : List Int64} {wd : List Int64} {sd : List Int32} {th : List Int32} {fa : List Int32} {ws : List Int32} {kp : List Int32} {li : List Int32} {pr : List Int32} {hb : List Int32} {fi : List Int32} {st : List Int32} {im : List Int32} {jf : List Int32} {jx : List Int32} {mk : List Int32} {p : Nat} (h : p < 118 ∨ 142 ≤ p) : (pm_M n f mi dx tp sg lg cl cs rd op sk wd sd th fa ws kp li pr hb fi st im jf jx mk).2 p = f p := pm_out h
theorem pm_in {n : Nat} {f : Nat → ss_Cl} {mi : List Int32} {dx : Int64} {tp : List Int32} {sg : List Int32} {lg : List Int32} {cl : List Int32} {cs : List Int32} {rd : List Int32} {op : List Int32} {sk : List Int64} {wd : List Int64} {sd : List Int32} {th : List Int32} {fa : List Int32} {ws : List Int32} {kp : List Int32} {li : List Int32} {pr : List Int32} {hb : List Int32} {fi : List Int32} {st : List Int32} {im : List Int32} {jf : List Int32} {jx : List Int32} {mk : List Int32} {f' : Nat → ss_Cl} {n' p : Nat} (h : 118 ≤ p ∧ p < 142) : (pm_M n f mi dx tp sg lg cl cs rd op sk wd sd th fa ws kp li pr hb fi st im jf jx mk).2 p = (pm_M n' f' mi dx tp sg lg cl cs rd op sk wd sd th fa ws kp li pr hb fi st im jf jx mk).2 p := by
  have h2 : p = 118 ∨ p = 119 ∨ p = 120 ∨ p = 121 ∨ p = 122 ∨ p = 123 ∨ p = 124 ∨ p = 125 ∨ p = 126 ∨ p = 127 ∨ p = 128 ∨ p = 129 ∨ p = 130 ∨ p = 131 ∨ p = 132 ∨ p = 133 ∨ p = 134 ∨ p = 135 ∨ p = 136 ∨ p = 137 ∨ p = 138 ∨ p = 139 ∨ p = 140 ∨ p = 141 := by omega
  rcases h2 with h | h | h | h | h | h | h | h | h | h | h | h | h | h | h | h | h | h | h | h | h | h | h | h <;> subst h <;> rfl
theorem mo_frame {h h' : ss_Hp} {T : List Nat} {a : List Int32} {fo x : Int32} {RS : List (List ru_C)} {US : List (List Int32)} {I : Nat → Option (List Int32 × Int32 × Int32)} (hh : mo_h h T a fo x RS US I) (h2 : ∀ p, 118 ≤ p ∧ p < 142 → h'.2 p = h.2 p) : mo_h h' T a fo x RS US I := by
  obtain ⟨n, f, mi, dx, tp, sg, lg, cl, cs, rd, op, sk, wd, sd, th, fa, ws, kp, li, pr, hb, fi, st, im, jf, jx, mk, rfl, F⟩ := hh
  refine ⟨h'.1, h'.2, mi, dx, tp, sg, lg, cl, cs, rd, op, sk, wd, sd, th, fa, ws, kp, li, pr, hb, fi, st, im, jf, jx, mk, ?_, F⟩
  refine Prod.ext rfl (funext fun p => ?_)
  by_cases q : p < 118 ∨ 142 ≤ p
  · rw [pm_out2 q]
  · rw [h2 p (by omega)]
    exact pm_in (by omega)
