/-! ===== choice and day of the model ===== -/
theorem pb_m1 : -nI 1 < nI 0 := by decide
theorem pb_self {l : List Int32} {i : Nat} (h : i < l.length) : l.set i (pv l i) = l := by
  apply List.ext_getElem?
  intro j
  by_cases c : j = i
  · subst c
    rw [List.getElem?_set_self h, pv_get h]
  · rw [List.getElem?_set_ne (fun z => c z.symm)]
/-- what a day needs of the said ints: k steps, m houses, day d -/
def sa_ok (a : List Int32) (k m d : Nat) : Prop := a.length = 124 ∧ (k ≤ 8 ∧ pv a 2 = nI k) ∧ (m ≤ 4 ∧ pv a 3 = nI m) ∧ (d < 100000 ∧ pv a 10 = nI d) ∧ (∀ s, s < k → pv a (22 + s) < nI 0 ∨ ∃ t, t < k ∧ pv a (22 + s) = nI t) ∧ (∀ s, s < 8 → ∃ b, b < 256 ∧ pv a (30 + s) = nI b) ∧ ∀ i, i < m → ∃ o, o < k ∧ pv a (38 + 2 * i) = nI o
theorem sa_ok_of {a b : List Int32} {k m d : Nat} (h : sa_ok a k m d) (hl : b.length = a.length) (he : ∀ j, j ≠ 11 → (j < 14 ∨ 22 ≤ j) → pv b j = pv a j) : sa_ok b k m d := by
  obtain ⟨h1, h2, h3, h4, h5, h6, h7⟩ := h
  refine ⟨hl.trans h1, ⟨h2.1, (he 2 (by omega) (by omega)).trans h2.2⟩, ⟨h3.1, (he 3 (by omega) (by omega)).trans h3.2⟩, ⟨h4.1, (he 10 (by omega) (by omega)).trans h4.2⟩, fun s hs => ?_, fun s hs => ?_, fun i hi => ?_⟩
  · rw [he (22 + s) (by omega) (by omega)]; exact h5 s hs
  · rw [he (30 + s) (by omega) (by omega)]; exact h6 s hs
  · rw [he (38 + 2 * i) (by omega) (by omega)]; exact h7 i hi
theorem sa_take1_pv {a : List Int32} {i s j : Nat} (hs : s < 8) (h1 : j ≠ 11) (h2 : j < 14 ∨ 22 ≤ j) : pv (sa_take1 a i s) j = pv a j := by
  unfold sa_take1
  split
  · rw [pv_ne (by omega)]
  · rw [pv_ne (by omega), pv_ne (by omega)]
theorem sa_take_pv {a : List Int32} {i s j t : Nat} (hs : s < 8) (hw : pv a (22 + s) < nI 0 ∨ (t < 8 ∧ pv a (22 + s) = nI t)) (h1 : j ≠ 11) (h2 : j < 14 ∨ 22 ≤ j) : pv (sa_take a i s) j = pv a j := by
  unfold sa_take
  rcases hw with hw | ⟨ht, hw⟩
  · rw [if_pos hw]; exact sa_take1_pv hs h1 h2
  · have hn : ¬ nI t < nI 0 := nI_nlt (by omega) (by omega)
    have hc : sa_wall a s = t := by unfold sa_wall; rw [hw]; exact nI_clamp (by omega)
    rw [hw, if_neg hn, hc, pv_ne (by omega)]
    exact sa_take1_pv hs h1 h2
theorem sa_ok_take {a : List Int32} {k m d i s : Nat} (h : sa_ok a k m d) (hs : s < k) : sa_ok (sa_take a i s) k m d := by
  have hk := h.2.1.1
  refine sa_ok_of h (sa_take_len a i s) (fun j h1 h2 => ?_)
  rcases h.2.2.2.2.1 s hs with hw | ⟨t, ht, hw⟩
  · exact sa_take_pv (t := 0) (by omega) (Or.inl hw) h1 h2
  · exact sa_take_pv (t := t) (by omega) (Or.inr ⟨by omega, hw⟩) h1 h2
def sa_ch (a : List Int32) (i d k : Nat) (R : List ru_C) : Nat → Int32 × Int64
  | 0 => (-nI 1, 0)
  | s + 1 => if pv a (14 + s) = nI 0 then sa_ch a i d k R s else if (sa_ch a i d k R s).2 < ev_rule (sa_w a i s d k) R then (nI s, ev_rule (sa_w a i s d k) R) else sa_ch a i d k R s
def sa_own (a : List Int32) (i : Nat) : Nat := (pv a (38 + 2 * i)).toNatClampNeg
def sa_choice (a : List Int32) (ro : Option (List ru_C)) (i d k : Nat) : Int32 := match ro with
  | none => if pv a (14 + sa_own a i) < pv a 1 then -nI 1 else pv a (38 + 2 * i)
  | some R => (sa_ch a i d k R k).1
/-- the rule in force, as the model keeps it -/
def ro_M (mi cl sg cs : List Int32) (ro : Option (List ru_C)) : Prop := match ro with
  | none => pv mi 13 < nI 0
  | some R => ∃ r, r < 6 ∧ pv mi 13 = nI r ∧ ru_M cl sg cs r R
def ml_ok (mi sg cl cs : List Int32) : Prop := mi.length = 16 ∧ sg.length = 2400 ∧ cl.length = 288 ∧ cs.length = 6
theorem sa_ch_cases (a : List Int32) (i d k : Nat) (R : List ru_C) : ∀ s, (sa_ch a i d k R s).1 = -nI 1 ∨ ∃ t, t < s ∧ (sa_ch a i d k R s).1 = nI t ∧ ¬ pv a (14 + t) = nI 0 := by
  intro s
  induction s with
  | zero => exact Or.inl rfl
  | succ s ih =>
    have up : (sa_ch a i d k R s).1 = -nI 1 ∨ ∃ t, t < s + 1 ∧ (sa_ch a i d k R s).1 = nI t ∧ ¬ pv a (14 + t) = nI 0 := by
      rcases ih with h | ⟨t, h1, h2, h3⟩
      · exact Or.inl h
      · exact Or.inr ⟨t, by omega, h2, h3⟩
    rw [sa_ch]
    split
    · exact up
    · next hc =>
      split
      · exact Or.inr ⟨s, by omega, rfl, hc⟩
      · exact up
theorem sa_choice_cases {a : List Int32} {k m d : Nat} (h : sa_ok a k m d) (ro : Option (List ru_C)) {i : Nat} (hi : i < m) : sa_choice a ro i d k = -nI 1 ∨ ∃ s, s < k ∧ sa_choice a ro i d k = nI s := by
  cases ro with
  | none =>
    obtain ⟨o, ho, e⟩ := h.2.2.2.2.2.2 i hi
    unfold sa_choice
    simp only
    split
    · exact Or.inl rfl
    · exact Or.inr ⟨o, ho, e⟩
  | some R =>
    rcases sa_ch_cases a i d k R k with q | ⟨t, h1, h2, h3⟩
    · exact Or.inl q
    · exact Or.inr ⟨t, h1, h2⟩
/-- the houses' part of a day: the first i of them -/
def sa_pd (a th : List Int32) (ro : Option (List ru_C)) (d k : Nat) : Nat → List Int32 × List Int32
  | 0 => (a, th)
  | i + 1 => if (pv (sa_pd a th ro d k i).1 13 >>> nI i) &&& nI 1 = nI 1 then sa_pd a th ro d k i
    else if sa_choice (sa_pd a th ro d k i).1 ro i d k < nI 0 then sa_pd a th ro d k i
    else (sa_take (sa_pd a th ro d k i).1 i (sa_choice (sa_pd a th ro d k i).1 ro i d k).toNatClampNeg, sa_takeT (sa_pd a th ro d k i).1 (sa_pd a th ro d k i).2 i (sa_choice (sa_pd a th ro d k i).1 ro i d k).toNatClampNeg)
theorem sa_pd_ok {a th : List Int32} {ro : Option (List ru_C)} {k m d : Nat} (h : sa_ok a k m d) : ∀ i, i ≤ m → sa_ok (sa_pd a th ro d k i).1 k m d ∧ (sa_pd a th ro d k i).2.length = th.length := by
  intro i
  induction i with
  | zero => intro _; exact ⟨h, rfl⟩
  | succ i ih =>
    intro hi
    obtain ⟨g1, g2⟩ := ih (by omega)
    rw [sa_pd]
    split
    · exact ⟨g1, g2⟩
    · split
      · exact ⟨g1, g2⟩
      · next hc =>
        rcases sa_choice_cases g1 ro (i := i) (by omega) with q | ⟨s, hs, q⟩
        · exact absurd pb_m1 (by rw [← q]; exact hc)
        · rw [q, nI_clamp (by have := h.2.1.1; omega)]
          exact ⟨sa_ok_take g1 hs, (sa_takeT_len _ _ _ _).trans g2⟩
section PC
variable {n : Nat} {f : Nat → ss_Cl} {mi : List Int32} {dx : Int64} {tp : List Int32} {sg : List Int32} {lg : List Int32} {cl : List Int32} {cs : List Int32} {rd : List Int32} {op : List Int32} {sk : List Int64} {wd : List Int64} {sd : List Int32} {th : List Int32} {fa : List Int32} {ws : List Int32} {kp : List Int32} {li : List Int32} {pr : List Int32} {hb : List Int32} {fi : List Int32} {st : List Int32} {im : List Int32} {jf : List Int32} {jx : List Int32} {mk : List Int32} {N : Nat}
theorem po_choice {i d k m : Nat} {ro : Option (List ru_C)} (hml : ml_ok mi sg cl cs) (hsk : sk.length = 64) (hwd : wd.length = 12) (hok : sa_ok sd k m d) (hro : ro_M mi cl sg cs ro) (hi : i < m) (hN : 400 < N) : ∃ t sk' wd', sk'.length = 64 ∧ wd'.length = 12 ∧ mm_M_choice N (some 118) (nI i) (pm_M n f mi dx tp sg lg cl cs rd op sk wd sd th fa ws kp li pr hb fi st im jf jx mk) = some (sa_choice sd ro i d k, (pm_M n f (mi.set 12 t) dx tp sg lg cl cs rd op sk' wd' sd th fa ws kp li pr hb fi st im jf jx mk)) := by
  obtain ⟨hmi, hsg, hcl, hcs⟩ := hml
  have hokk := hok
  obtain ⟨hsd, ⟨hk, h2⟩, ⟨hm, h3⟩, ⟨hd, h10⟩, hwl, hbe, how⟩ := hok
  have hi4 : i < 4 := by omega
  cases ro with
  | none =>
    have hf : pv mi 13 < nI 0 := hro
    obtain ⟨o, ho, eo⟩ := how i hi
    have hf2 : ¬ nI 0 ≤ pv mi 13 := Int32.not_le.mpr hf
    refine ⟨pv mi 12, sk, wd, hsk, hwd, ?_⟩
    rw [pb_self (by omega)]
    unfold mm_M_choice mm_M_choice_j28 sa_choice sa_own
    simp (disch := ((try simp only [List.length_set]); omega)) only [pb_its, pb_lit, nI_add, pb_mul, if_true, if_false, Option.bind_some, pb_b2, pb_bz0, pb_bz1, pb_10, pb_01, pb_i31, List.length_set, pn_is, pn_gi, pn_pi, pn_gl, pn_pl, pn_g0, pn_g1, pn_g2, pn_g3, pn_g4, pn_g5, pn_g6, pn_g7, pn_g8, pn_g9, pn_g10, pn_g11, pn_g12, pn_g13, pn_g14, pn_g15, pn_g16, pn_g17, pn_g18, pn_g19, pn_g20, pn_g21, pn_g22, pn_a0, pn_a1, pn_a2, pn_a3, pn_a4, pn_a5, pn_a6, pn_a7, pn_a8, pn_a9, pn_a10, pn_a11, pn_a12, pn_a13, pn_a14, pn_a15, pn_a16, pn_a17, pn_a18, pn_a19, pn_a20, pn_a21, pn_a22, pn_u0, pn_u1, pn_u2, pn_u3, pn_u4, pn_u5, pn_u6, pn_u7, pn_u8, pn_u9, pn_u10, pn_u11, pn_u12, pn_u13, pn_u14, pn_u15, pn_u16, pn_u17, pn_u18, pn_u19, pn_u20, pn_u21, pn_u22, hf2, po_ownOf hsd hi4, eo, po_isClosed hsd (show o < 8 by omega), nI_clamp (show o < 2 ^ 31 by omega)]
    by_cases c : pv sd (14 + o) < pv sd 1
    · simp only [c, if_true]
    · simp only [c, if_false, pb_10]
  | some R =>
    obtain ⟨r, hr, er, hR⟩ := hro
    have hf2 : nI 0 ≤ nI r := nI_le (by omega) (by omega)
    have key := pb_inv (body := mm_M_choice_b36 N (some 118) (nI i)) (fun z => ∃ q t sk' wd', q ≤ k ∧ sk'.length = 64 ∧ wd'.length = 12 ∧ z = ((sa_ch sd i d k R q).1, (sa_ch sd i d k R q).2, nI q, (pm_M n f (mi.set 12 t) dx tp sg lg cl cs rd op sk' wd' sd th fa ws kp li pr hb fi st im jf jx mk))) (fun z => k - z.2.2.1.toNatClampNeg) (fun e => ∃ t sk' wd', sk'.length = 64 ∧ wd'.length = 12 ∧ e = ((sa_ch sd i d k R k).1, (pm_M n f (mi.set 12 t) dx tp sg lg cl cs rd op sk' wd' sd th fa ws kp li pr hb fi st im jf jx mk))) (by
      rintro z ⟨q, t, sk1, wd1, hq, hs1, hw1, rfl⟩
      by_cases hqk : q < k
      · left
        have h9 : ¬ nI k ≤ nI q := nI_ge hqk (by omega)
        have hmu : ∀ x : Int32, x = nI (q + 1) → k - x.toNatClampNeg < k - (nI q).toNatClampNeg := fun x hx => by rw [hx, nI_clamp (by omega), nI_clamp (by omega)]; omega
        by_cases c : pv sd (14 + q) = nI 0
        · refine ⟨_, ?_, ⟨q + 1, t, sk1, wd1, hqk, hs1, hw1, rfl⟩, hmu _ rfl⟩
          unfold mm_M_choice_b36 mm_M_choice_j96
          simp (disch := ((try simp only [List.length_set]); omega)) only [pb_its, pb_lit, nI_add, pb_mul, if_true, if_false, Option.bind_some, pb_b2, pb_bz0, pb_bz1, pb_10, pb_01, pb_i31, List.length_set, pn_is, pn_gi, pn_pi, pn_gl, pn_pl, pn_g0, pn_g1, pn_g2, pn_g3, pn_g4, pn_g5, pn_g6, pn_g7, pn_g8, pn_g9, pn_g10, pn_g11, pn_g12, pn_g13, pn_g14, pn_g15, pn_g16, pn_g17, pn_g18, pn_g19, pn_g20, pn_g21, pn_g22, pn_a0, pn_a1, pn_a2, pn_a3, pn_a4, pn_a5, pn_a6, pn_a7, pn_a8, pn_a9, pn_a10, pn_a11, pn_a12, pn_a13, pn_a14, pn_a15, pn_a16, pn_a17, pn_a18, pn_a19, pn_a20, pn_a21, pn_a22, pn_u0, pn_u1, pn_u2, pn_u3, pn_u4, pn_u5, pn_u6, pn_u7, pn_u8, pn_u9, pn_u10, pn_u11, pn_u12, pn_u13, pn_u14, pn_u15, pn_u16, pn_u17, pn_u18, pn_u19, pn_u20, pn_u21, pn_u22, h2, h9, c]
          rw [sa_ch, if_pos c]
        · obtain ⟨wd2, w1, w2, w3⟩ := po_words (n := n) (f := f) (dx := dx) (tp := tp) (sg := sg) (lg := lg) (cl := cl) (cs := cs) (rd := rd) (op := op) (fa := fa) (ws := ws) (kp := kp) (li := li) (pr := pr) (hb := hb) (fi := fi) (st := st) (im := im) (jf := jf) (jx := jx) (mk := mk) (N := N) (sk := sk1) (mi := mi.set 12 t) (th := th) (sd := sd) (wd := wd1) (i := i) (s := q) (d := d) (k := k) hsd hw1 hi4 (by omega) hk h2 hd h10 (hbe q (by omega)) (by omega)
          obtain ⟨t2, sk2, s1, s2⟩ := po_summedBy (n := n) (f := f) (dx := dx) (tp := tp) (sg := sg) (lg := lg) (cl := cl) (cs := cs) (rd := rd) (op := op) (fa := fa) (ws := ws) (kp := kp) (li := li) (pr := pr) (hb := hb) (fi := fi) (st := st) (im := im) (jf := jf) (jx := jx) (mk := mk) (N := N) (mi := mi.set 12 t) (sd := sd) (th := th) (sk := sk1) (wd := wd2) (w := sa_w sd i q d k) (r := r) (R := R) (by simpa using hmi) hsg hcl hcs w1 hs1 w2 hr hR hN
          rw [List.set_set] at s2
          have e13 : pv (mi.set 12 t) 13 = nI r := by rw [pv_ne (by omega), er]
          by_cases c2 : (sa_ch sd i d k R q).2 < ev_rule (sa_w sd i q d k) R
          · refine ⟨_, ?_, ⟨q + 1, t2, sk2, wd2, hqk, s1, w1, rfl⟩, hmu _ rfl⟩
            unfold mm_M_choice_b36 mm_M_choice_j96
            simp (disch := ((try simp only [List.length_set]); omega)) only [pb_its, pb_lit, nI_add, pb_mul, if_true, if_false, Option.bind_some, pb_b2, pb_bz0, pb_bz1, pb_10, pb_01, pb_i31, List.length_set, pn_is, pn_gi, pn_pi, pn_gl, pn_pl, pn_g0, pn_g1, pn_g2, pn_g3, pn_g4, pn_g5, pn_g6, pn_g7, pn_g8, pn_g9, pn_g10, pn_g11, pn_g12, pn_g13, pn_g14, pn_g15, pn_g16, pn_g17, pn_g18, pn_g19, pn_g20, pn_g21, pn_g22, pn_a0, pn_a1, pn_a2, pn_a3, pn_a4, pn_a5, pn_a6, pn_a7, pn_a8, pn_a9, pn_a10, pn_a11, pn_a12, pn_a13, pn_a14, pn_a15, pn_a16, pn_a17, pn_a18, pn_a19, pn_a20, pn_a21, pn_a22, pn_u0, pn_u1, pn_u2, pn_u3, pn_u4, pn_u5, pn_u6, pn_u7, pn_u8, pn_u9, pn_u10, pn_u11, pn_u12, pn_u13, pn_u14, pn_u15, pn_u16, pn_u17, pn_u18, pn_u19, pn_u20, pn_u21, pn_u22, h2, h9, c, w3, e13, s2, pl_gt, c2]
            rw [sa_ch, if_neg c, if_pos c2]
          · refine ⟨_, ?_, ⟨q + 1, t2, sk2, wd2, hqk, s1, w1, rfl⟩, hmu _ rfl⟩
            unfold mm_M_choice_b36 mm_M_choice_j96
            simp (disch := ((try simp only [List.length_set]); omega)) only [pb_its, pb_lit, nI_add, pb_mul, if_true, if_false, Option.bind_some, pb_b2, pb_bz0, pb_bz1, pb_10, pb_01, pb_i31, List.length_set, pn_is, pn_gi, pn_pi, pn_gl, pn_pl, pn_g0, pn_g1, pn_g2, pn_g3, pn_g4, pn_g5, pn_g6, pn_g7, pn_g8, pn_g9, pn_g10, pn_g11, pn_g12, pn_g13, pn_g14, pn_g15, pn_g16, pn_g17, pn_g18, pn_g19, pn_g20, pn_g21, pn_g22, pn_a0, pn_a1, pn_a2, pn_a3, pn_a4, pn_a5, pn_a6, pn_a7, pn_a8, pn_a9, pn_a10, pn_a11, pn_a12, pn_a13, pn_a14, pn_a15, pn_a16, pn_a17, pn_a18, pn_a19, pn_a20, pn_a21, pn_a22, pn_u0, pn_u1, pn_u2, pn_u3, pn_u4, pn_u5, pn_u6, pn_u7, pn_u8, pn_u9, pn_u10, pn_u11, pn_u12, pn_u13, pn_u14, pn_u15, pn_u16, pn_u17, pn_u18, pn_u19, pn_u20, pn_u21, pn_u22, h2, h9, c, w3, e13, s2, pl_gt, c2]
            rw [sa_ch, if_neg c, if_neg c2]
      · right
        have hqe : q = k := by omega
        subst hqe
        refine ⟨_, ?_, ⟨t, sk1, wd1, hs1, hw1, rfl⟩⟩
        unfold mm_M_choice_b36
        simp (disch := ((try simp only [List.length_set]); omega)) only [pb_its, pb_lit, nI_add, pb_mul, if_true, if_false, Option.bind_some, pb_b2, pb_bz0, pb_bz1, pb_10, pb_01, pb_i31, List.length_set, pn_is, pn_gi, pn_pi, pn_gl, pn_pl, pn_g0, pn_g1, pn_g2, pn_g3, pn_g4, pn_g5, pn_g6, pn_g7, pn_g8, pn_g9, pn_g10, pn_g11, pn_g12, pn_g13, pn_g14, pn_g15, pn_g16, pn_g17, pn_g18, pn_g19, pn_g20, pn_g21, pn_g22, pn_a0, pn_a1, pn_a2, pn_a3, pn_a4, pn_a5, pn_a6, pn_a7, pn_a8, pn_a9, pn_a10, pn_a11, pn_a12, pn_a13, pn_a14, pn_a15, pn_a16, pn_a17, pn_a18, pn_a19, pn_a20, pn_a21, pn_a22, pn_u0, pn_u1, pn_u2, pn_u3, pn_u4, pn_u5, pn_u6, pn_u7, pn_u8, pn_u9, pn_u10, pn_u11, pn_u12, pn_u13, pn_u14, pn_u15, pn_u16, pn_u17, pn_u18, pn_u19, pn_u20, pn_u21, pn_u22, h2, nI_le (Nat.le_refl q) (by omega : q < 2 ^ 31)])
    obtain ⟨e, g1, t, sk', wd', g2, g3, g4⟩ := key N (-nI 1, 0, nI 0, (pm_M n f mi dx tp sg lg cl cs rd op sk wd sd th fa ws kp li pr hb fi st im jf jx mk)) ⟨0, pv mi 12, sk, wd, by omega, hsk, hwd, by rw [pb_self (by omega)]; rfl⟩ (by show k - _ < N; omega)
    refine ⟨t, sk', wd', g2, g3, ?_⟩
    subst g4
    unfold mm_M_choice sa_choice
    simp (disch := ((try simp only [List.length_set]); omega)) only [pb_its, pb_lit, nI_add, pb_mul, if_true, if_false, Option.bind_some, pb_b2, pb_bz0, pb_bz1, pb_10, pb_01, pb_i31, List.length_set, pn_is, pn_gi, pn_pi, pn_gl, pn_pl, pn_g0, pn_g1, pn_g2, pn_g3, pn_g4, pn_g5, pn_g6, pn_g7, pn_g8, pn_g9, pn_g10, pn_g11, pn_g12, pn_g13, pn_g14, pn_g15, pn_g16, pn_g17, pn_g18, pn_g19, pn_g20, pn_g21, pn_g22, pn_a0, pn_a1, pn_a2, pn_a3, pn_a4, pn_a5, pn_a6, pn_a7, pn_a8, pn_a9, pn_a10, pn_a11, pn_a12, pn_a13, pn_a14, pn_a15, pn_a16, pn_a17, pn_a18, pn_a19, pn_a20, pn_a21, pn_a22, pn_u0, pn_u1, pn_u2, pn_u3, pn_u4, pn_u5, pn_u6, pn_u7, pn_u8, pn_u9, pn_u10, pn_u11, pn_u12, pn_u13, pn_u14, pn_u15, pn_u16, pn_u17, pn_u18, pn_u19, pn_u20, pn_u21, pn_u22, er, hf2, g1]
theorem po_passes {d k m : Nat} {ro : Option (List ru_C)} (hml : ml_ok mi sg cl cs) (hsk : sk.length = 64) (hwd : wd.length = 12) (hth : th.length = 8) (hfa : fa.length = 8) (hok : sa_ok sd k m d) (hro : ro_M mi cl sg cs ro) (hN : 400 < N) : ∃ t sk' wd', sk'.length = 64 ∧ wd'.length = 12 ∧ mm_M_passes N (some 118) (pm_M n f mi dx tp sg lg cl cs rd op sk wd sd th fa ws kp li pr hb fi st im jf jx mk) = some (pv (sa_pd sd th ro d k m).1 11, (pm_M n f (mi.set 12 t) dx tp sg lg cl cs rd op sk' wd' (sa_night (sa_pd sd th ro d k m).1 fa k) ((sa_pd sd th ro d k m).2) (sa_nightF (sa_pd sd th ro d k m).1 fa k) ws kp li pr hb fi st im jf jx mk)) := by
  have hm := hok.2.2.1.1
  have hk := hok.2.1.1
  have key := pb_inv (body := mm_M_passes_b2 N (some 118)) (fun z => ∃ q t sk' wd', q ≤ m ∧ sk'.length = 64 ∧ wd'.length = 12 ∧ z = (nI q, (pm_M n f (mi.set 12 t) dx tp sg lg cl cs rd op sk' wd' ((sa_pd sd th ro d k q).1) ((sa_pd sd th ro d k q).2) fa ws kp li pr hb fi st im jf jx mk))) (fun z => m - z.1.toNatClampNeg) (fun e => ∃ t sk' wd', sk'.length = 64 ∧ wd'.length = 12 ∧ e = (pm_M n f (mi.set 12 t) dx tp sg lg cl cs rd op sk' wd' ((sa_pd sd th ro d k m).1) ((sa_pd sd th ro d k m).2) fa ws kp li pr hb fi st im jf jx mk)) (by
    rintro z ⟨q, t, sk1, wd1, hq, hs1, hw1, rfl⟩
    obtain ⟨ok1, tl1⟩ := sa_pd_ok (th := th) (ro := ro) hok q hq
    have hsd1 := ok1.1
    have h31 := ok1.2.2.1.2
    by_cases hqm : q < m
    · left
      have h9 : ¬ nI m ≤ nI q := nI_ge hqm (by omega)
      have hmu : ∀ x : Int32, x = nI (q + 1) → m - x.toNatClampNeg < m - (nI q).toNatClampNeg := fun x hx => by rw [hx, nI_clamp (by omega), nI_clamp (by omega)]; omega
      by_cases c : (pv (sa_pd sd th ro d k q).1 13 >>> nI q) &&& nI 1 = nI 1
      · refine ⟨_, ?_, ⟨q + 1, t, sk1, wd1, hqm, hs1, hw1, rfl⟩, hmu _ rfl⟩
        unfold mm_M_passes_b2 mm_M_passes_j46
        simp (disch := ((try simp only [List.length_set]); omega)) only [pb_its, pb_lit, nI_add, pb_mul, if_true, if_false, Option.bind_some, pb_b2, pb_bz0, pb_bz1, pb_10, pb_01, pb_i31, List.length_set, pn_is, pn_gi, pn_pi, pn_gl, pn_pl, pn_g0, pn_g1, pn_g2, pn_g3, pn_g4, pn_g5, pn_g6, pn_g7, pn_g8, pn_g9, pn_g10, pn_g11, pn_g12, pn_g13, pn_g14, pn_g15, pn_g16, pn_g17, pn_g18, pn_g19, pn_g20, pn_g21, pn_g22, pn_a0, pn_a1, pn_a2, pn_a3, pn_a4, pn_a5, pn_a6, pn_a7, pn_a8, pn_a9, pn_a10, pn_a11, pn_a12, pn_a13, pn_a14, pn_a15, pn_a16, pn_a17, pn_a18, pn_a19, pn_a20, pn_a21, pn_a22, pn_u0, pn_u1, pn_u2, pn_u3, pn_u4, pn_u5, pn_u6, pn_u7, pn_u8, pn_u9, pn_u10, pn_u11, pn_u12, pn_u13, pn_u14, pn_u15, pn_u16, pn_u17, pn_u18, pn_u19, pn_u20, pn_u21, pn_u22, h31, h9, po_isOf (show q < 32 by omega), c]
        rw [sa_pd, if_pos c]
      · have hro2 : ro_M (mi.set 12 t) cl sg cs ro := by
          cases ro with
          | none => show pv (mi.set 12 t) 13 < nI 0; rw [pv_ne (by omega)]; exact hro
          | some R =>
            obtain ⟨r, r1, r2, r3⟩ := hro
            exact ⟨r, r1, by rw [pv_ne (by omega)]; exact r2, r3⟩
        obtain ⟨t2, sk2, wd2, s1, s2, s3⟩ := po_choice (n := n) (f := f) (dx := dx) (tp := tp) (sg := sg) (lg := lg) (cl := cl) (cs := cs) (rd := rd) (op := op) (fa := fa) (ws := ws) (kp := kp) (li := li) (pr := pr) (hb := hb) (fi := fi) (st := st) (im := im) (jf := jf) (jx := jx) (mk := mk) (N := N) (mi := mi.set 12 t) (sk := sk1) (wd := wd1) (sd := (sa_pd sd th ro d k q).1) (th := (sa_pd sd th ro d k q).2) (i := q) (d := d) (k := k) (m := m) (ro := ro) ⟨by simpa using hml.1, hml.2.1, hml.2.2.1, hml.2.2.2⟩ hs1 hw1 ok1 hro2 hqm hN
        rw [List.set_set] at s3
        rcases sa_choice_cases ok1 ro (i := q) hqm with e | ⟨s, hs, e⟩
        · refine ⟨_, ?_, ⟨q + 1, t2, sk2, wd2, hqm, s1, s2, rfl⟩, hmu _ rfl⟩
          unfold mm_M_passes_b2 mm_M_passes_j46
          simp (disch := ((try simp only [List.length_set]); omega)) only [pb_its, pb_lit, nI_add, pb_mul, if_true, if_false, Option.bind_some, pb_b2, pb_bz0, pb_bz1, pb_10, pb_01, pb_i31, List.length_set, pn_is, pn_gi, pn_pi, pn_gl, pn_pl, pn_g0, pn_g1, pn_g2, pn_g3, pn_g4, pn_g5, pn_g6, pn_g7, pn_g8, pn_g9, pn_g10, pn_g11, pn_g12, pn_g13, pn_g14, pn_g15, pn_g16, pn_g17, pn_g18, pn_g19, pn_g20, pn_g21, pn_g22, pn_a0, pn_a1, pn_a2, pn_a3, pn_a4, pn_a5, pn_a6, pn_a7, pn_a8, pn_a9, pn_a10, pn_a11, pn_a12, pn_a13, pn_a14, pn_a15, pn_a16, pn_a17, pn_a18, pn_a19, pn_a20, pn_a21, pn_a22, pn_u0, pn_u1, pn_u2, pn_u3, pn_u4, pn_u5, pn_u6, pn_u7, pn_u8, pn_u9, pn_u10, pn_u11, pn_u12, pn_u13, pn_u14, pn_u15, pn_u16, pn_u17, pn_u18, pn_u19, pn_u20, pn_u21, pn_u22, h31, h9, po_isOf (show q < 32 by omega), c, s3, e, pb_m1]
          rw [sa_pd, if_neg c, e, if_pos pb_m1]
        · have hn : ¬ nI s < nI 0 := nI_nlt (by omega) (by omega)
          have hw8 : pv (sa_pd sd th ro d k q).1 (22 + s) < nI 0 ∨ ∃ t, t < 8 ∧ pv (sa_pd sd th ro d k q).1 (22 + s) = nI t := by
            rcases ok1.2.2.2.2.1 s hs with w | ⟨t, ht, w⟩
            · exact Or.inl w
            · exact Or.inr ⟨t, by omega, w⟩
          have tk := po_takes (n := n) (f := f) (dx := dx) (tp := tp) (sg := sg) (lg := lg) (cl := cl) (cs := cs) (rd := rd) (op := op) (fa := fa) (ws := ws) (kp := kp) (li := li) (pr := pr) (hb := hb) (fi := fi) (st := st) (im := im) (jf := jf) (jx := jx) (mk := mk) (N := N) (mi := mi.set 12 t2) (sk := sk2) (wd := wd2) (sd := (sa_pd sd th ro d k q).1) (th := (sa_pd sd th ro d k q).2) (i := q) (s := s) hsd1 (tl1.trans hth) (by omega) (by omega) hw8
          refine ⟨_, ?_, ⟨q + 1, t2, sk2, wd2, hqm, s1, s2, rfl⟩, hmu _ rfl⟩
          unfold mm_M_passes_b2 mm_M_passes_j46
          simp (disch := ((try simp only [List.length_set]); omega)) only [pb_its, pb_lit, nI_add, pb_mul, if_true, if_false, Option.bind_some, pb_b2, pb_bz0, pb_bz1, pb_10, pb_01, pb_i31, List.length_set, pn_is, pn_gi, pn_pi, pn_gl, pn_pl, pn_g0, pn_g1, pn_g2, pn_g3, pn_g4, pn_g5, pn_g6, pn_g7, pn_g8, pn_g9, pn_g10, pn_g11, pn_g12, pn_g13, pn_g14, pn_g15, pn_g16, pn_g17, pn_g18, pn_g19, pn_g20, pn_g21, pn_g22, pn_a0, pn_a1, pn_a2, pn_a3, pn_a4, pn_a5, pn_a6, pn_a7, pn_a8, pn_a9, pn_a10, pn_a11, pn_a12, pn_a13, pn_a14, pn_a15, pn_a16, pn_a17, pn_a18, pn_a19, pn_a20, pn_a21, pn_a22, pn_u0, pn_u1, pn_u2, pn_u3, pn_u4, pn_u5, pn_u6, pn_u7, pn_u8, pn_u9, pn_u10, pn_u11, pn_u12, pn_u13, pn_u14, pn_u15, pn_u16, pn_u17, pn_u18, pn_u19, pn_u20, pn_u21, pn_u22, h31, h9, po_isOf (show q < 32 by omega), c, s3, e, hn, tk]
          rw [sa_pd, if_neg c, e, if_neg hn, nI_clamp (by omega)]
    · right
      have hqe : q = m := by omega
      subst hqe
      refine ⟨_, ?_, ⟨t, sk1, wd1, hs1, hw1, rfl⟩⟩
      unfold mm_M_passes_b2
      simp (disch := ((try simp only [List.length_set]); omega)) only [pb_its, pb_lit, nI_add, pb_mul, if_true, if_false, Option.bind_some, pb_b2, pb_bz0, pb_bz1, pb_10, pb_01, pb_i31, List.length_set, pn_is, pn_gi, pn_pi, pn_gl, pn_pl, pn_g0, pn_g1, pn_g2, pn_g3, pn_g4, pn_g5, pn_g6, pn_g7, pn_g8, pn_g9, pn_g10, pn_g11, pn_g12, pn_g13, pn_g14, pn_g15, pn_g16, pn_g17, pn_g18, pn_g19, pn_g20, pn_g21, pn_g22, pn_a0, pn_a1, pn_a2, pn_a3, pn_a4, pn_a5, pn_a6, pn_a7, pn_a8, pn_a9, pn_a10, pn_a11, pn_a12, pn_a13, pn_a14, pn_a15, pn_a16, pn_a17, pn_a18, pn_a19, pn_a20, pn_a21, pn_a22, pn_u0, pn_u1, pn_u2, pn_u3, pn_u4, pn_u5, pn_u6, pn_u7, pn_u8, pn_u9, pn_u10, pn_u11, pn_u12, pn_u13, pn_u14, pn_u15, pn_u16, pn_u17, pn_u18, pn_u19, pn_u20, pn_u21, pn_u22, h31, nI_le (Nat.le_refl q) (by omega : q < 2 ^ 31)])
  have hmi := hml.1
  obtain ⟨e, g1, t, sk', wd', g2, g3, g4⟩ := key N (nI 0, (pm_M n f mi dx tp sg lg cl cs rd op sk wd sd th fa ws kp li pr hb fi st im jf jx mk)) ⟨0, pv mi 12, sk, wd, by omega, hsk, hwd, by rw [pb_self (by omega)]; rfl⟩ (by show m - _ < N; omega)
  subst g4
  obtain ⟨ok1, tl1⟩ := sa_pd_ok (th := th) (ro := ro) hok m (Nat.le_refl m)
  have sn := po_snows (n := n) (f := f) (mi := mi.set 12 t) (dx := dx) (tp := tp) (sg := sg) (lg := lg) (cl := cl) (cs := cs) (rd := rd) (op := op) (sk := sk') (wd := wd') (sd := (sa_pd sd th ro d k m).1) (th := (sa_pd sd th ro d k m).2) (fa := fa) (ws := ws) (kp := kp) (li := li) (pr := pr) (hb := hb) (fi := fi) (st := st) (im := im) (jf := jf) (jx := jx) (mk := mk) (N := N) (k := k) ok1.1 hfa hk ok1.2.1.2 (by omega)
  refine ⟨t, sk', wd', g2, g3, ?_⟩
  unfold mm_M_passes
  simp (disch := ((try simp only [List.length_set]); omega)) only [pb_its, pb_lit, nI_add, pb_mul, if_true, if_false, Option.bind_some, pb_b2, pb_bz0, pb_bz1, pb_10, pb_01, pb_i31, List.length_set, pn_is, pn_gi, pn_pi, pn_gl, pn_pl, pn_g0, pn_g1, pn_g2, pn_g3, pn_g4, pn_g5, pn_g6, pn_g7, pn_g8, pn_g9, pn_g10, pn_g11, pn_g12, pn_g13, pn_g14, pn_g15, pn_g16, pn_g17, pn_g18, pn_g19, pn_g20, pn_g21, pn_g22, pn_a0, pn_a1, pn_a2, pn_a3, pn_a4, pn_a5, pn_a6, pn_a7, pn_a8, pn_a9, pn_a10, pn_a11, pn_a12, pn_a13, pn_a14, pn_a15, pn_a16, pn_a17, pn_a18, pn_a19, pn_a20, pn_a21, pn_a22, pn_u0, pn_u1, pn_u2, pn_u3, pn_u4, pn_u5, pn_u6, pn_u7, pn_u8, pn_u9, pn_u10, pn_u11, pn_u12, pn_u13, pn_u14, pn_u15, pn_u16, pn_u17, pn_u18, pn_u19, pn_u20, pn_u21, pn_u22, g1, sn]
end PC
