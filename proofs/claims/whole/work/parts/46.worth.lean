/-! ===== a rule's worth ===== -/
abbrev ru_C : Type := List (Nat × Nat) × Option (List (Nat × Nat))
def ev_val (w : Nat → Int64) (ts : List (Nat × Nat)) : Int64 := match ev_run w ts [] with
  | some [v] => v
  | _ => 0
def ru_okc (x : ru_C) : Prop := ∀ w, (∃ v, ev_run w x.1 [] = some [v]) ∧ ∀ t, x.2 = some t → ∃ v, (v = 0 ∨ v = 1) ∧ ev_run w t [] = some [v]
def ev_rule (w : Nat → Int64) : List ru_C → Int64
  | [] => 0
  | (su, none) :: _ => ev_val w su
  | (su, some t) :: R => if ev_val w t = 1 then ev_val w su else ev_rule w R
def cl_at (cl sg : List Int32) (r c : Nat) (x : ru_C) : Prop := ∃ b, pv cl (48 * r + 4 * c) = nI b ∧ pv cl (48 * r + 4 * c + 1) = nI (b + x.1.length) ∧ tk_at sg (400 * r + b) x.1 ∧ b + x.1.length ≤ 400 ∧
  (match x.2 with
  | none => pv cl (48 * r + 4 * c + 2) < nI 0
  | some t => pv cl (48 * r + 4 * c + 2) = nI (b + x.1.length) ∧ pv cl (48 * r + 4 * c + 3) = nI (b + x.1.length + t.length) ∧ tk_at sg (400 * r + (b + x.1.length)) t ∧ b + x.1.length + t.length ≤ 400)
theorem ev_val_of {w : Nat → Int64} {ts : List (Nat × Nat)} {v : Int64} (h : ev_run w ts [] = some [v]) : ev_val w ts = v := by simp [ev_val, h]
def sb_fin (N : Nat) (this : Option Nat) (a1 : Int32) (e_2 : ss_Hp ⊕ (Int32 × ss_Hp)) : Option (Int64 × ss_Hp) :=
    match e_2 with
    | (.inl h_2_84) =>
      some ((0 : Int64), h_2_84)
    | (.inr (y3_2_58, h_2_58)) =>
      (ss_gr h_2_58 this 12 3).bind fun r1 =>
      (ss_ai h_2_58 r1 20 y3_2_58).bind fun v2 =>
      (ss_gr h_2_58 this 12 3).bind fun r3 =>
      (ss_ai h_2_58 r3 20 (y3_2_58 + (1 : Int32))).bind fun v4 =>
      ss_b2 (mm_M_reckons N this a1 v2 v4 h_2_58) fun v5 h6 =>
      some (v5, h6)
section PS
variable {n : Nat} {f : Nat → ss_Cl} {mi : List Int32} {dx : Int64} {tp : List Int32} {sg : List Int32} {lg : List Int32} {cl : List Int32} {cs : List Int32} {rd : List Int32} {op : List Int32} {sk : List Int64} {wd : List Int64} {sd : List Int32} {th : List Int32} {fa : List Int32} {ws : List Int32} {kp : List Int32} {li : List Int32} {pr : List Int32} {hb : List Int32} {fi : List Int32} {st : List Int32} {im : List Int32} {jf : List Int32} {jx : List Int32} {mk : List Int32} {N : Nat}
theorem po_sbL {w : Nat → Int64} {r nc : Nat} (hmi : mi.length = 16) (hsg : sg.length = 2400) (hcl : cl.length = 288) (hcs : cs.length = 6) (hwd : wd.length = 12) (hw : ∀ k, k < 12 → pvl wd k = w k) (hr : r < 6) (hnc : nc ≤ 12) (hc : pv cs r = nI nc) (hN : 400 < N) :
    ∀ (R : List ru_C) (c : Nat) (t0 : Int32) (sk : List Int64) (L : Nat), sk.length = 64 → c + R.length = nc → (∀ j, j < R.length → cl_at cl sg r (c + j) (R.getD j ([], none)) ∧ ru_okc (R.getD j ([], none))) → R.length < L → ∃ t1 sk', sk'.length = 64 ∧ (ss_lp (mm_M_summedBy_b2 N (some 118) (nI r)) L (nI c, (pm_M n f (mi.set 12 t0) dx tp sg lg cl cs rd op sk wd sd th fa ws kp li pr hb fi st im jf jx mk))).bind (sb_fin N (some 118) (nI r)) = some (ev_rule w R, (pm_M n f (mi.set 12 t1) dx tp sg lg cl cs rd op sk' wd sd th fa ws kp li pr hb fi st im jf jx mk)) := by
  intro R
  induction R with
  | nil =>
    intro c t0 sk L hsk hcn _ hL
    obtain ⟨L, rfl⟩ : ∃ L', L = L' + 1 := ⟨L - 1, by simp at hL; omega⟩
    have hcq : c = nc := by simpa using hcn
    subst hcq
    refine ⟨t0, sk, hsk, ?_⟩
    rw [pb_stop (e := .inl (pm_M n f (mi.set 12 t0) dx tp sg lg cl cs rd op sk wd sd th fa ws kp li pr hb fi st im jf jx mk))]
    · rfl
    · unfold mm_M_summedBy_b2
      simp (disch := ((try simp only [List.length_set]); omega)) only [pb_its, pb_lit, nI_add, pb_mul, if_true, if_false, Option.bind_some, pb_b2, pb_bz0, pb_bz1, pb_10, pb_01, pb_i31, List.length_set, pn_is, pn_gi, pn_pi, pn_gl, pn_pl, pn_g0, pn_g1, pn_g2, pn_g3, pn_g4, pn_g5, pn_g6, pn_g7, pn_g8, pn_g9, pn_g10, pn_g11, pn_g12, pn_g13, pn_g14, pn_g15, pn_g16, pn_g17, pn_g18, pn_g19, pn_g20, pn_g21, pn_g22, pn_a0, pn_a1, pn_a2, pn_a3, pn_a4, pn_a5, pn_a6, pn_a7, pn_a8, pn_a9, pn_a10, pn_a11, pn_a12, pn_a13, pn_a14, pn_a15, pn_a16, pn_a17, pn_a18, pn_a19, pn_a20, pn_a21, pn_a22, pn_u0, pn_u1, pn_u2, pn_u3, pn_u4, pn_u5, pn_u6, pn_u7, pn_u8, pn_u9, pn_u10, pn_u11, pn_u12, pn_u13, pn_u14, pn_u15, pn_u16, pn_u17, pn_u18, pn_u19, pn_u20, pn_u21, pn_u22, hc, nI_le (Nat.le_refl c) (by omega : c < 2 ^ 31)]
  | cons x R ih =>
    intro c t0 sk L hsk hcn hat hL
    obtain ⟨L, rfl⟩ : ∃ L', L = L' + 1 := ⟨L - 1, by simp at hL; omega⟩
    have hcn2 : c + 1 + R.length = nc := by simp at hcn; omega
    have hL2 : R.length < L := by simp at hL; omega
    have h0 := hat 0 (by simp)
    rw [Nat.add_zero, List.getD_cons_zero] at h0
    have hat2 : ∀ j, j < R.length → cl_at cl sg r (c + 1 + j) (R.getD j ([], none)) ∧ ru_okc (R.getD j ([], none)) := fun j hj => by
      have h1 := hat (j + 1) (by simp; omega)
      rw [show c + (j + 1) = c + 1 + j by omega, List.getD_cons_succ] at h1
      exact h1
    obtain ⟨⟨b, hb1, hb2, htk, hb3, hte⟩, hok⟩ := h0
    have h3 : ¬ nI nc ≤ nI c := nI_ge (by omega) (by omega)
    obtain ⟨su, te⟩ := x
    obtain ⟨⟨v, hv⟩, hokt⟩ := hok w
    simp only at hb1 hb2 htk hb3 hte hv hokt
    have hmi2 : ∀ t, (mi.set 12 t).length = 16 := fun t => by simpa using hmi
    have fin : ∀ (t2 : Int32) (sk2 : List Int64), sk2.length = 64 → ∃ t1 sk', sk'.length = 64 ∧ sb_fin N (some 118) (nI r) (.inr (nI (48 * r + 4 * c), (pm_M n f (mi.set 12 t2) dx tp sg lg cl cs rd op sk2 wd sd th fa ws kp li pr hb fi st im jf jx mk))) = some (ev_val w su, (pm_M n f (mi.set 12 t1) dx tp sg lg cl cs rd op sk' wd sd th fa ws kp li pr hb fi st im jf jx mk)) := by
      intro t2 sk2 hsk2
      obtain ⟨sk', g1, g2⟩ := po_reckons (n := n) (f := f) (dx := dx) (tp := tp) (sg := sg) (lg := lg) (cl := cl) (cs := cs) (rd := rd) (op := op) (wd := wd) (sd := sd) (th := th) (fa := fa) (ws := ws) (kp := kp) (li := li) (pr := pr) (hb := hb) (fi := fi) (st := st) (im := im) (jf := jf) (jx := jx) (mk := mk) (N := N) (mi := mi.set 12 t2) (sk := sk2) (r := r) (b0 := b) (ts := su) (v := v) (hmi2 t2) hsg hwd hsk2 hw hr hb3 htk hv hN
      refine ⟨nI 0, sk', g1, ?_⟩
      unfold sb_fin
      simp (disch := ((try simp only [List.length_set]); omega)) only [pb_its, pb_lit, nI_add, pb_mul, if_true, if_false, Option.bind_some, pb_b2, pb_bz0, pb_bz1, pb_10, pb_01, pb_i31, List.length_set, pn_is, pn_gi, pn_pi, pn_gl, pn_pl, pn_g0, pn_g1, pn_g2, pn_g3, pn_g4, pn_g5, pn_g6, pn_g7, pn_g8, pn_g9, pn_g10, pn_g11, pn_g12, pn_g13, pn_g14, pn_g15, pn_g16, pn_g17, pn_g18, pn_g19, pn_g20, pn_g21, pn_g22, pn_a0, pn_a1, pn_a2, pn_a3, pn_a4, pn_a5, pn_a6, pn_a7, pn_a8, pn_a9, pn_a10, pn_a11, pn_a12, pn_a13, pn_a14, pn_a15, pn_a16, pn_a17, pn_a18, pn_a19, pn_a20, pn_a21, pn_a22, pn_u0, pn_u1, pn_u2, pn_u3, pn_u4, pn_u5, pn_u6, pn_u7, pn_u8, pn_u9, pn_u10, pn_u11, pn_u12, pn_u13, pn_u14, pn_u15, pn_u16, pn_u17, pn_u18, pn_u19, pn_u20, pn_u21, pn_u22, hb1, hb2, g2, List.set_set, ev_val_of hv]
    cases te with
    | none =>
      simp only at hte
      obtain ⟨t1, sk', g1, g2⟩ := fin t0 sk hsk
      refine ⟨t1, sk', g1, ?_⟩
      rw [pb_stop (e := .inr (nI (48 * r + 4 * c), (pm_M n f (mi.set 12 t0) dx tp sg lg cl cs rd op sk wd sd th fa ws kp li pr hb fi st im jf jx mk)))]
      · exact g2
      · unfold mm_M_summedBy_b2
        simp (disch := ((try simp only [List.length_set]); omega)) only [pb_its, pb_lit, nI_add, pb_mul, if_true, if_false, Option.bind_some, pb_b2, pb_bz0, pb_bz1, pb_10, pb_01, pb_i31, List.length_set, pn_is, pn_gi, pn_pi, pn_gl, pn_pl, pn_g0, pn_g1, pn_g2, pn_g3, pn_g4, pn_g5, pn_g6, pn_g7, pn_g8, pn_g9, pn_g10, pn_g11, pn_g12, pn_g13, pn_g14, pn_g15, pn_g16, pn_g17, pn_g18, pn_g19, pn_g20, pn_g21, pn_g22, pn_a0, pn_a1, pn_a2, pn_a3, pn_a4, pn_a5, pn_a6, pn_a7, pn_a8, pn_a9, pn_a10, pn_a11, pn_a12, pn_a13, pn_a14, pn_a15, pn_a16, pn_a17, pn_a18, pn_a19, pn_a20, pn_a21, pn_a22, pn_u0, pn_u1, pn_u2, pn_u3, pn_u4, pn_u5, pn_u6, pn_u7, pn_u8, pn_u9, pn_u10, pn_u11, pn_u12, pn_u13, pn_u14, pn_u15, pn_u16, pn_u17, pn_u18, pn_u19, pn_u20, pn_u21, pn_u22, hc, h3, hte]
    | some t =>
      simp only at hte
      obtain ⟨hd1, hd2, htk2, hd3⟩ := hte
      obtain ⟨u, hu, hev⟩ := hokt t rfl
      obtain ⟨sk2, g1, g2⟩ := po_reckons (n := n) (f := f) (dx := dx) (tp := tp) (sg := sg) (lg := lg) (cl := cl) (cs := cs) (rd := rd) (op := op) (wd := wd) (sd := sd) (th := th) (fa := fa) (ws := ws) (kp := kp) (li := li) (pr := pr) (hb := hb) (fi := fi) (st := st) (im := im) (jf := jf) (jx := jx) (mk := mk) (N := N) (mi := mi.set 12 t0) (sk := sk) (r := r) (b0 := b + su.length) (ts := t) (v := u) (hmi2 t0) hsg hwd hsk hw hr hd3 htk2 hev hN
      rw [List.set_set] at g2
      have hn : ¬ nI (b + su.length) < nI 0 := nI_nlt (by omega) (by omega)
      by_cases cu : u = 1
      · obtain ⟨t1, sk', k1, k2⟩ := fin (nI 0) sk2 g1
        refine ⟨t1, sk', k1, ?_⟩
        rw [pb_stop (e := .inr (nI (48 * r + 4 * c), (pm_M n f (mi.set 12 (nI 0)) dx tp sg lg cl cs rd op sk2 wd sd th fa ws kp li pr hb fi st im jf jx mk)))]
        · rw [ev_rule, ev_val_of hev, if_pos cu]
          exact k2
        · unfold mm_M_summedBy_b2
          simp (disch := ((try simp only [List.length_set]); omega)) only [pb_its, pb_lit, nI_add, pb_mul, if_true, if_false, Option.bind_some, pb_b2, pb_bz0, pb_bz1, pb_10, pb_01, pb_i31, List.length_set, pn_is, pn_gi, pn_pi, pn_gl, pn_pl, pn_g0, pn_g1, pn_g2, pn_g3, pn_g4, pn_g5, pn_g6, pn_g7, pn_g8, pn_g9, pn_g10, pn_g11, pn_g12, pn_g13, pn_g14, pn_g15, pn_g16, pn_g17, pn_g18, pn_g19, pn_g20, pn_g21, pn_g22, pn_a0, pn_a1, pn_a2, pn_a3, pn_a4, pn_a5, pn_a6, pn_a7, pn_a8, pn_a9, pn_a10, pn_a11, pn_a12, pn_a13, pn_a14, pn_a15, pn_a16, pn_a17, pn_a18, pn_a19, pn_a20, pn_a21, pn_a22, pn_u0, pn_u1, pn_u2, pn_u3, pn_u4, pn_u5, pn_u6, pn_u7, pn_u8, pn_u9, pn_u10, pn_u11, pn_u12, pn_u13, pn_u14, pn_u15, pn_u16, pn_u17, pn_u18, pn_u19, pn_u20, pn_u21, pn_u22, hc, h3, hd1, hd2, hn, g2, pl_eq, cu]
      · obtain ⟨t1, sk', k1, k2⟩ := ih (c + 1) (nI 0) sk2 L g1 hcn2 hat2 hL2
        refine ⟨t1, sk', k1, ?_⟩
        rw [ev_rule, ev_val_of hev, if_neg cu, ← k2]
        rw [ss_lp]
        have e : mm_M_summedBy_b2 N (some 118) (nI r) (nI c, (pm_M n f (mi.set 12 t0) dx tp sg lg cl cs rd op sk wd sd th fa ws kp li pr hb fi st im jf jx mk)) = some (.inl (nI (c + 1), (pm_M n f (mi.set 12 (nI 0)) dx tp sg lg cl cs rd op sk2 wd sd th fa ws kp li pr hb fi st im jf jx mk))) := by
          unfold mm_M_summedBy_b2
          simp (disch := ((try simp only [List.length_set]); omega)) only [pb_its, pb_lit, nI_add, pb_mul, if_true, if_false, Option.bind_some, pb_b2, pb_bz0, pb_bz1, pb_10, pb_01, pb_i31, List.length_set, pn_is, pn_gi, pn_pi, pn_gl, pn_pl, pn_g0, pn_g1, pn_g2, pn_g3, pn_g4, pn_g5, pn_g6, pn_g7, pn_g8, pn_g9, pn_g10, pn_g11, pn_g12, pn_g13, pn_g14, pn_g15, pn_g16, pn_g17, pn_g18, pn_g19, pn_g20, pn_g21, pn_g22, pn_a0, pn_a1, pn_a2, pn_a3, pn_a4, pn_a5, pn_a6, pn_a7, pn_a8, pn_a9, pn_a10, pn_a11, pn_a12, pn_a13, pn_a14, pn_a15, pn_a16, pn_a17, pn_a18, pn_a19, pn_a20, pn_a21, pn_a22, pn_u0, pn_u1, pn_u2, pn_u3, pn_u4, pn_u5, pn_u6, pn_u7, pn_u8, pn_u9, pn_u10, pn_u11, pn_u12, pn_u13, pn_u14, pn_u15, pn_u16, pn_u17, pn_u18, pn_u19, pn_u20, pn_u21, pn_u22, hc, h3, hd1, hd2, hn, g2, pl_eq, cu]
        rw [e]
/-- rule r is R, as the model keeps it -/
def ru_M (cl sg cs : List Int32) (r : Nat) (R : List ru_C) : Prop := R.length ≤ 12 ∧ pv cs r = nI R.length ∧ ∀ j, j < R.length → cl_at cl sg r j (R.getD j ([], none)) ∧ ru_okc (R.getD j ([], none))
theorem po_summedBy {w : Nat → Int64} {r : Nat} {R : List ru_C} (hmi : mi.length = 16) (hsg : sg.length = 2400) (hcl : cl.length = 288) (hcs : cs.length = 6) (hwd : wd.length = 12) (hsk : sk.length = 64) (hw : ∀ k, k < 12 → pvl wd k = w k) (hr : r < 6) (hR : ru_M cl sg cs r R) (hN : 400 < N) : ∃ t1 sk', sk'.length = 64 ∧ mm_M_summedBy N (some 118) (nI r) (pm_M n f mi dx tp sg lg cl cs rd op sk wd sd th fa ws kp li pr hb fi st im jf jx mk) = some (ev_rule w R, (pm_M n f (mi.set 12 t1) dx tp sg lg cl cs rd op sk' wd sd th fa ws kp li pr hb fi st im jf jx mk)) := by
  obtain ⟨h1, h2, h3⟩ := hR
  obtain ⟨t1, sk', g1, g2⟩ := po_sbL (n := n) (f := f) (dx := dx) (tp := tp) (sg := sg) (lg := lg) (cl := cl) (cs := cs) (rd := rd) (op := op) (wd := wd) (sd := sd) (th := th) (fa := fa) (ws := ws) (kp := kp) (li := li) (pr := pr) (hb := hb) (fi := fi) (st := st) (im := im) (jf := jf) (jx := jx) (mk := mk) (N := N) (mi := mi) (r := r) (nc := R.length) hmi hsg hcl hcs hwd hw hr h1 h2 hN R 0 (pv mi 12) sk N hsk (by omega) (fun j hj => by rw [Nat.zero_add]; exact h3 j hj) (by omega)
  refine ⟨t1, sk', g1, ?_⟩
  have e : mi.set 12 (pv mi 12) = mi := by
    apply List.ext_getElem?
    intro i
    by_cases c : i = 12
    · subst c
      rw [List.getElem?_set_self (by omega), pv_get (by omega)]
    · rw [List.getElem?_set_ne (fun z => c z.symm)]
  rw [e] at g2
  rw [← g2]
  unfold mm_M_summedBy
  rw [if_pos pn_is]
  rfl
end PS
