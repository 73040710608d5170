/-! ===== days of the model ===== -/
theorem pb_or (a b : Nat) : nI a ||| nI b = nI (a ||| b) := by
  apply Int32.toBitVec_inj.1
  show BitVec.ofNat 32 a ||| BitVec.ofNat 32 b = BitVec.ofNat 32 (a ||| b)
  apply BitVec.eq_of_getLsbD_eq
  intro i hi
  simp [hi]
theorem pb_and (a b : Nat) : nI a &&& nI b = nI (a &&& b) := by
  apply Int32.toBitVec_inj.1
  show BitVec.ofNat 32 a &&& BitVec.ofNat 32 b = BitVec.ofNat 32 (a &&& b)
  apply BitVec.eq_of_getLsbD_eq
  intro i hi
  simp [hi]
theorem pb_xor (a b : Nat) : nI a ^^^ nI b = nI (a ^^^ b) := by
  apply Int32.toBitVec_inj.1
  show BitVec.ofNat 32 a ^^^ BitVec.ofNat 32 b = BitVec.ofNat 32 (a ^^^ b)
  apply BitVec.eq_of_getLsbD_eq
  intro i hi
  simp [hi]
theorem pb_sh1 : ∀ k, k < 31 → nI 1 <<< nI k = nI (2 ^ k) := by decide +kernel
theorem pb_mono {S E : Type} {body : S → Option (S ⊕ E)} : ∀ (k N : Nat) (s : S) (e : E), ss_lp body k s = some e → k ≤ N → ss_lp body N s = some e := by
  intro k
  induction k with
  | zero => intro N s e h; cases h
  | succ k ih =>
    intro N s e h hN
    obtain ⟨N, rfl⟩ : ∃ M, N = M + 1 := ⟨N - 1, by omega⟩
    rw [ss_lp] at h ⊢
    cases hb : body s with
    | none => rw [hb] at h; cases h
    | some z =>
      rw [hb] at h
      cases z with
      | inl s' => exact ih N s' e h (by omega)
      | inr e' => exact h
/-- how many bits -/
def pc_n (m : Nat) : Nat := ((List.range 10).filter (fun i => m.testBit i)).length
def pc_I (x : Int32) : Int32 := nI (pc_n x.toNatClampNeg)
theorem pc_I_n {m : Nat} (h : m < 2 ^ 31) : pc_I (nI m) = nI (pc_n m) := by unfold pc_I; rw [nI_clamp h]
theorem po_bitsD : ∀ m, m < 1024 → ss_lp (mm_M_bits_b4 0) 11 (0, nI m) = some (nI (pc_n m)) := by decide +kernel
theorem po_bits {N m : Nat} (hm : m < 1024) (hN : 11 ≤ N) : mm_M_bits N (nI m) = some (pc_I (nI m)) := by
  unfold mm_M_bits
  rw [show mm_M_bits_b4 N = mm_M_bits_b4 0 from rfl, pb_mono 11 N _ _ (po_bitsD m hm) hN, pc_I_n (by omega)]
  rfl
theorem sa_clo_lt (a : List Int32) : ∀ k, k ≤ 8 → ∃ m, m < 2 ^ k ∧ sa_clo a k = nI m := by
  intro k
  induction k with
  | zero => intro _; exact ⟨0, by decide, rfl⟩
  | succ k ih =>
    intro hk
    obtain ⟨m, hm, e⟩ := ih (by omega)
    have hp : 2 ^ (k + 1) = 2 ^ k + 2 ^ k := by rw [Nat.pow_succ]; omega
    rw [sa_clo, e]
    split
    · exact ⟨m, by omega, by rw [pb_or]; simp⟩
    · rw [pb_sh1 k (by omega), pb_or]
      exact ⟨m ||| 2 ^ k, Nat.or_lt_two_pow (by omega) (by omega), rfl⟩
/-- in how many days it is needed next: found from day d on, of k days at most -/
def sa_nl (a : List Int32) (s : Nat) : Nat → Nat → Unit ⊕ Int32
  | 0, _ => .inl ()
  | k + 1, d => if (pv a (62 + d) >>> nI s) &&& nI 1 = nI 1 then .inr (nI d) else sa_nl a s k (d + 1)
def sa_next (a : List Int32) (s d : Nat) : Int32 := match sa_nl a s (31 - d) d with
  | .inl _ => nI 99
  | .inr y => y - nI d
section PD
variable {n : Nat} {f : Nat → ss_Cl} {mi : List Int32} {dx : Int64} {tp : List Int32} {sg : List Int32} {lg : List Int32} {cl : List Int32} {cs : List Int32} {rd : List Int32} {op : List Int32} {sk : List Int64} {wd : List Int64} {sd : List Int32} {th : List Int32} {fa : List Int32} {ws : List Int32} {kp : List Int32} {li : List Int32} {pr : List Int32} {hb : List Int32} {fi : List Int32} {st : List Int32} {im : List Int32} {jf : List Int32} {jx : List Int32} {mk : List Int32} {N : Nat}
theorem po_nl {s : Nat} (hsd : sd.length = 124) (hs : s < 8) : ∀ (k d L : Nat), (d + k = 31 ∨ k = 0 ∧ 31 ≤ d) → d < 2 ^ 31 → k < L → ss_lp (mm_M_nextNeed_b8 N (some 118) (nI s) (pm_M n f mi dx tp sg lg cl cs rd op sk wd sd th fa ws kp li pr hb fi st im jf jx mk)) L (nI d) = some (sa_nl sd s k d) := by
  intro k
  induction k with
  | zero =>
    intro d L hd hb hL
    obtain ⟨L, rfl⟩ : ∃ L', L = L' + 1 := ⟨L - 1, by omega⟩
    refine pb_stop ?_
    unfold mm_M_nextNeed_b8
    have h3 : nI 30 < nI d := nI_lt (by omega) hb
    simp (disch := ((try simp only [List.length_set]); omega)) only [pb_its, pb_lit, nI_add, pb_mul, if_true, if_false, Option.bind_some, pb_b2, pb_bz0, pb_bz1, pb_10, pb_01, pb_i31, List.length_set, pn_is, pn_gi, pn_pi, pn_gl, pn_pl, pn_g0, pn_g1, pn_g2, pn_g3, pn_g4, pn_g5, pn_g6, pn_g7, pn_g8, pn_g9, pn_g10, pn_g11, pn_g12, pn_g13, pn_g14, pn_g15, pn_g16, pn_g17, pn_g18, pn_g19, pn_g20, pn_g21, pn_g22, pn_a0, pn_a1, pn_a2, pn_a3, pn_a4, pn_a5, pn_a6, pn_a7, pn_a8, pn_a9, pn_a10, pn_a11, pn_a12, pn_a13, pn_a14, pn_a15, pn_a16, pn_a17, pn_a18, pn_a19, pn_a20, pn_a21, pn_a22, pn_u0, pn_u1, pn_u2, pn_u3, pn_u4, pn_u5, pn_u6, pn_u7, pn_u8, pn_u9, pn_u10, pn_u11, pn_u12, pn_u13, pn_u14, pn_u15, pn_u16, pn_u17, pn_u18, pn_u19, pn_u20, pn_u21, pn_u22, h3]
    rfl
  | succ k ih =>
    intro d L hd hb hL
    obtain ⟨L, rfl⟩ : ∃ L', L = L' + 1 := ⟨L - 1, by omega⟩
    have h3 : ¬ nI 30 < nI d := nI_nlt (by omega) (by omega)
    by_cases c : (pv sd (62 + d) >>> nI s) &&& nI 1 = nI 1
    · rw [sa_nl, if_pos c]
      refine pb_stop ?_
      unfold mm_M_nextNeed_b8
      simp (disch := ((try simp only [List.length_set]); omega)) only [pb_its, pb_lit, nI_add, pb_mul, if_true, if_false, Option.bind_some, pb_b2, pb_bz0, pb_bz1, pb_10, pb_01, pb_i31, List.length_set, pn_is, pn_gi, pn_pi, pn_gl, pn_pl, pn_g0, pn_g1, pn_g2, pn_g3, pn_g4, pn_g5, pn_g6, pn_g7, pn_g8, pn_g9, pn_g10, pn_g11, pn_g12, pn_g13, pn_g14, pn_g15, pn_g16, pn_g17, pn_g18, pn_g19, pn_g20, pn_g21, pn_g22, pn_a0, pn_a1, pn_a2, pn_a3, pn_a4, pn_a5, pn_a6, pn_a7, pn_a8, pn_a9, pn_a10, pn_a11, pn_a12, pn_a13, pn_a14, pn_a15, pn_a16, pn_a17, pn_a18, pn_a19, pn_a20, pn_a21, pn_a22, pn_u0, pn_u1, pn_u2, pn_u3, pn_u4, pn_u5, pn_u6, pn_u7, pn_u8, pn_u9, pn_u10, pn_u11, pn_u12, pn_u13, pn_u14, pn_u15, pn_u16, pn_u17, pn_u18, pn_u19, pn_u20, pn_u21, pn_u22, h3, po_isOf (show s < 32 by omega), c]
    · rw [sa_nl, if_neg c]
      refine pb_step (s' := nI (d + 1)) ?_ (ih (d + 1) L (by omega) (by omega) (by omega))
      unfold mm_M_nextNeed_b8
      simp (disch := ((try simp only [List.length_set]); omega)) only [pb_its, pb_lit, nI_add, pb_mul, if_true, if_false, Option.bind_some, pb_b2, pb_bz0, pb_bz1, pb_10, pb_01, pb_i31, List.length_set, pn_is, pn_gi, pn_pi, pn_gl, pn_pl, pn_g0, pn_g1, pn_g2, pn_g3, pn_g4, pn_g5, pn_g6, pn_g7, pn_g8, pn_g9, pn_g10, pn_g11, pn_g12, pn_g13, pn_g14, pn_g15, pn_g16, pn_g17, pn_g18, pn_g19, pn_g20, pn_g21, pn_g22, pn_a0, pn_a1, pn_a2, pn_a3, pn_a4, pn_a5, pn_a6, pn_a7, pn_a8, pn_a9, pn_a10, pn_a11, pn_a12, pn_a13, pn_a14, pn_a15, pn_a16, pn_a17, pn_a18, pn_a19, pn_a20, pn_a21, pn_a22, pn_u0, pn_u1, pn_u2, pn_u3, pn_u4, pn_u5, pn_u6, pn_u7, pn_u8, pn_u9, pn_u10, pn_u11, pn_u12, pn_u13, pn_u14, pn_u15, pn_u16, pn_u17, pn_u18, pn_u19, pn_u20, pn_u21, pn_u22, h3, po_isOf (show s < 32 by omega), c]
theorem po_nextNeed {s d : Nat} (hsd : sd.length = 124) (hs : s < 8) (hd : d < 100000) (h10 : pv sd 10 = nI d) (hN : 40 < N) : mm_M_nextNeed N (some 118) (nI s) (pm_M n f mi dx tp sg lg cl cs rd op sk wd sd th fa ws kp li pr hb fi st im jf jx mk) = some (sa_next sd s d) := by
  have e := po_nl (n := n) (f := f) (mi := mi) (sk := sk) (dx := dx) (tp := tp) (sg := sg) (lg := lg) (cl := cl) (cs := cs) (rd := rd) (op := op) (wd := wd) (sd := sd) (th := th) (fa := fa) (ws := ws) (kp := kp) (li := li) (pr := pr) (hb := hb) (fi := fi) (st := st) (im := im) (jf := jf) (jx := jx) (mk := mk) (N := N) (s := s) hsd hs (31 - d) d N (by omega) (by omega) (by omega)
  unfold mm_M_nextNeed sa_next
  simp (disch := ((try simp only [List.length_set]); omega)) only [pb_its, pb_lit, nI_add, pb_mul, if_true, if_false, Option.bind_some, pb_b2, pb_bz0, pb_bz1, pb_10, pb_01, pb_i31, List.length_set, pn_is, pn_gi, pn_pi, pn_gl, pn_pl, pn_g0, pn_g1, pn_g2, pn_g3, pn_g4, pn_g5, pn_g6, pn_g7, pn_g8, pn_g9, pn_g10, pn_g11, pn_g12, pn_g13, pn_g14, pn_g15, pn_g16, pn_g17, pn_g18, pn_g19, pn_g20, pn_g21, pn_g22, pn_a0, pn_a1, pn_a2, pn_a3, pn_a4, pn_a5, pn_a6, pn_a7, pn_a8, pn_a9, pn_a10, pn_a11, pn_a12, pn_a13, pn_a14, pn_a15, pn_a16, pn_a17, pn_a18, pn_a19, pn_a20, pn_a21, pn_a22, pn_u0, pn_u1, pn_u2, pn_u3, pn_u4, pn_u5, pn_u6, pn_u7, pn_u8, pn_u9, pn_u10, pn_u11, pn_u12, pn_u13, pn_u14, pn_u15, pn_u16, pn_u17, pn_u18, pn_u19, pn_u20, pn_u21, pn_u22, h10, e]
  cases sa_nl sd s (31 - d) d with
  | inl u => rfl
  | inr y => rfl
/-- the words of a house and a step -/
def sa_w (a : List Int32) (i s d k : Nat) (w : Nat) : Int64 :=
  if w = 0 then (nI i).toInt64 else if w = 1 then (nI s).toInt64 else if w = 2 then (if pv a (38 + 2 * i) = nI s then 1 else 0)
  else if w = 3 then (pv a (14 + s)).toInt64 else if w = 4 then (pv a (38 + 2 * i + 1)).toInt64
  else if w = 5 then (if (pv a 11 >>> nI s) &&& nI 1 = nI 1 then 1 else 0) else if w = 6 then (if (pv a 12 >>> nI s) &&& nI 1 = nI 1 then 1 else 0)
  else if w = 7 then (pc_I (sa_clo a k)).toInt64 else if w = 8 then (if (sa_need a d >>> nI s) &&& nI 1 = nI 1 then 1 else 0)
  else if w = 9 then (sa_next a s d).toInt64 else if w = 10 then (pc_I (pv a (30 + s) &&& sa_clo a k)).toInt64 else (pv a 10).toInt64
theorem po_w159 {s d k : Nat} {a1 : Int32} {x : Int64} (hsd : sd.length = 124) (hwd : wd.length = 12) (hs : s < 8) (hk : k ≤ 8) (h2 : pv sd 2 = nI k) (hd : d < 100000) (h10 : pv sd 10 = nI d) (hbe : ∃ b, b < 256 ∧ pv sd (30 + s) = nI b) (hN : 40 < N) : mm_M_words_j159 N (some 118) a1 (nI s) (some 127) (nI 8) x (pm_M n f mi dx tp sg lg cl cs rd op sk wd sd th fa ws kp li pr hb fi st im jf jx mk) = some (pm_M n f mi dx tp sg lg cl cs rd op sk ((((wd.set 8 x).set 9 (sa_next sd s d).toInt64).set 10 (pc_I (pv sd (30 + s) &&& sa_clo sd k)).toInt64).set 11 (pv sd 10).toInt64) sd th fa ws kp li pr hb fi st im jf jx mk) := by
  obtain ⟨b, hb, eb⟩ := hbe
  obtain ⟨m, hm, em⟩ := sa_clo_lt sd k hk
  have hm2 : m < 256 := Nat.lt_of_lt_of_le hm (Nat.pow_le_pow_right (by omega) hk)
  have hbits : mm_M_bits N (pv sd (30 + s) &&& sa_clo sd k) = some (pc_I (pv sd (30 + s) &&& sa_clo sd k)) := by
    rw [eb, em, pb_and]
    exact po_bits (Nat.lt_of_le_of_lt Nat.and_le_left (by omega)) (by omega)
  unfold mm_M_words_j159
  simp (disch := ((try simp only [List.length_set]); omega)) only [pb_its, pb_lit, nI_add, pb_mul, if_true, if_false, Option.bind_some, pb_b2, pb_bz0, pb_bz1, pb_10, pb_01, pb_i31, List.length_set, pn_is, pn_gi, pn_pi, pn_gl, pn_pl, pn_g0, pn_g1, pn_g2, pn_g3, pn_g4, pn_g5, pn_g6, pn_g7, pn_g8, pn_g9, pn_g10, pn_g11, pn_g12, pn_g13, pn_g14, pn_g15, pn_g16, pn_g17, pn_g18, pn_g19, pn_g20, pn_g21, pn_g22, pn_a0, pn_a1, pn_a2, pn_a3, pn_a4, pn_a5, pn_a6, pn_a7, pn_a8, pn_a9, pn_a10, pn_a11, pn_a12, pn_a13, pn_a14, pn_a15, pn_a16, pn_a17, pn_a18, pn_a19, pn_a20, pn_a21, pn_a22, pn_u0, pn_u1, pn_u2, pn_u3, pn_u4, pn_u5, pn_u6, pn_u7, pn_u8, pn_u9, pn_u10, pn_u11, pn_u12, pn_u13, pn_u14, pn_u15, pn_u16, pn_u17, pn_u18, pn_u19, pn_u20, pn_u21, pn_u22, po_nextNeed hsd hs hd h10 hN, po_closed hsd hk h2 (by omega : 8 < N), hbits]
theorem po_w114 {s d k : Nat} {a1 : Int32} {x : Int64} (hsd : sd.length = 124) (hwd : wd.length = 12) (hs : s < 8) (hk : k ≤ 8) (h2 : pv sd 2 = nI k) (hd : d < 100000) (h10 : pv sd 10 = nI d) (hbe : ∃ b, b < 256 ∧ pv sd (30 + s) = nI b) (hN : 40 < N) : mm_M_words_j114 N (some 118) a1 (nI s) (some 127) (nI 6) x (pm_M n f mi dx tp sg lg cl cs rd op sk wd sd th fa ws kp li pr hb fi st im jf jx mk) = some (pm_M n f mi dx tp sg lg cl cs rd op sk (((((((wd.set 6 x).set 7 (pc_I (sa_clo sd k)).toInt64).set 8 (if (sa_need sd d >>> nI s) &&& nI 1 = nI 1 then 1 else 0)).set 9 (sa_next sd s d).toInt64).set 10 (pc_I (pv sd (30 + s) &&& sa_clo sd k)).toInt64).set 11 (pv sd 10).toInt64)) sd th fa ws kp li pr hb fi st im jf jx mk) := by
  obtain ⟨m, hm, em⟩ := sa_clo_lt sd k hk
  have hm2 : m < 256 := Nat.lt_of_lt_of_le hm (Nat.pow_le_pow_right (by omega) hk)
  have hbits : mm_M_bits N (sa_clo sd k) = some (pc_I (sa_clo sd k)) := by
    rw [em]
    exact po_bits (by omega) (by omega)
  unfold mm_M_words_j114
  simp (disch := ((try simp only [List.length_set]); omega)) only [pb_its, pb_lit, nI_add, pb_mul, if_true, if_false, Option.bind_some, pb_b2, pb_bz0, pb_bz1, pb_10, pb_01, pb_i31, List.length_set, pn_is, pn_gi, pn_pi, pn_gl, pn_pl, pn_g0, pn_g1, pn_g2, pn_g3, pn_g4, pn_g5, pn_g6, pn_g7, pn_g8, pn_g9, pn_g10, pn_g11, pn_g12, pn_g13, pn_g14, pn_g15, pn_g16, pn_g17, pn_g18, pn_g19, pn_g20, pn_g21, pn_g22, pn_a0, pn_a1, pn_a2, pn_a3, pn_a4, pn_a5, pn_a6, pn_a7, pn_a8, pn_a9, pn_a10, pn_a11, pn_a12, pn_a13, pn_a14, pn_a15, pn_a16, pn_a17, pn_a18, pn_a19, pn_a20, pn_a21, pn_a22, pn_u0, pn_u1, pn_u2, pn_u3, pn_u4, pn_u5, pn_u6, pn_u7, pn_u8, pn_u9, pn_u10, pn_u11, pn_u12, pn_u13, pn_u14, pn_u15, pn_u16, pn_u17, pn_u18, pn_u19, pn_u20, pn_u21, pn_u22, po_closed hsd hk h2 (by omega : 8 < N), hbits, h10, po_neededOn hsd (by omega : d < 2 ^ 31), po_isOf (show s < 32 by omega)]
  rw [← h10]
  by_cases c : (sa_need sd d >>> nI s) &&& nI 1 = nI 1
  · simp only [c, if_true, pb_10, if_false]
    exact po_w159 (by assumption) (by simpa using hwd) hs hk h2 hd h10 hbe hN
  · simp only [c, if_true, if_false]
    exact po_w159 (by assumption) (by simpa using hwd) hs hk h2 hd h10 hbe hN
theorem po_words {i s d k : Nat} (hsd : sd.length = 124) (hwd : wd.length = 12) (hi : i < 4) (hs : s < 8) (hk : k ≤ 8) (h2 : pv sd 2 = nI k) (hd : d < 100000) (h10 : pv sd 10 = nI d) (hbe : ∃ b, b < 256 ∧ pv sd (30 + s) = nI b) (hN : 40 < N) : ∃ wd', wd'.length = 12 ∧ (∀ w, w < 12 → pvl wd' w = sa_w sd i s d k w) ∧ mm_M_words N (some 118) (nI i) (nI s) (pm_M n f mi dx tp sg lg cl cs rd op sk wd sd th fa ws kp li pr hb fi st im jf jx mk) = some (pm_M n f mi dx tp sg lg cl cs rd op sk wd' sd th fa ws kp li pr hb fi st im jf jx mk) := by
  have j88 : ∀ (x : Int64) (wd : List Int64), wd.length = 12 → mm_M_words_j88 N (some 118) (nI i) (nI s) (some 127) (nI 5) x (pm_M n f mi dx tp sg lg cl cs rd op sk wd sd th fa ws kp li pr hb fi st im jf jx mk) = some (pm_M n f mi dx tp sg lg cl cs rd op sk (((((((((wd.set 5 x).set 6 (if (pv sd 12 >>> nI s) &&& nI 1 = nI 1 then 1 else 0)).set 7 (pc_I (sa_clo sd k)).toInt64).set 8 (if (sa_need sd d >>> nI s) &&& nI 1 = nI 1 then 1 else 0)).set 9 (sa_next sd s d).toInt64).set 10 (pc_I (pv sd (30 + s) &&& sa_clo sd k)).toInt64).set 11 (pv sd 10).toInt64))) sd th fa ws kp li pr hb fi st im jf jx mk) := by
    intro x wd hwd
    unfold mm_M_words_j88
    simp (disch := ((try simp only [List.length_set]); omega)) only [pb_its, pb_lit, nI_add, pb_mul, if_true, if_false, Option.bind_some, pb_b2, pb_bz0, pb_bz1, pb_10, pb_01, pb_i31, List.length_set, pn_is, pn_gi, pn_pi, pn_gl, pn_pl, pn_g0, pn_g1, pn_g2, pn_g3, pn_g4, pn_g5, pn_g6, pn_g7, pn_g8, pn_g9, pn_g10, pn_g11, pn_g12, pn_g13, pn_g14, pn_g15, pn_g16, pn_g17, pn_g18, pn_g19, pn_g20, pn_g21, pn_g22, pn_a0, pn_a1, pn_a2, pn_a3, pn_a4, pn_a5, pn_a6, pn_a7, pn_a8, pn_a9, pn_a10, pn_a11, pn_a12, pn_a13, pn_a14, pn_a15, pn_a16, pn_a17, pn_a18, pn_a19, pn_a20, pn_a21, pn_a22, pn_u0, pn_u1, pn_u2, pn_u3, pn_u4, pn_u5, pn_u6, pn_u7, pn_u8, pn_u9, pn_u10, pn_u11, pn_u12, pn_u13, pn_u14, pn_u15, pn_u16, pn_u17, pn_u18, pn_u19, pn_u20, pn_u21, pn_u22, po_isOf (show s < 32 by omega)]
    by_cases c : (pv sd 12 >>> nI s) &&& nI 1 = nI 1
    · simp only [c, if_true, pb_10, if_false]
      exact po_w114 (by assumption) (by simpa using hwd) hs hk h2 hd h10 hbe hN
    · simp only [c, if_true, if_false]
      exact po_w114 (by assumption) (by simpa using hwd) hs hk h2 hd h10 hbe hN
  have j35 : ∀ (x : Int64) (wd : List Int64), wd.length = 12 → mm_M_words_j35 N (some 118) (nI i) (nI s) (some 127) (nI 2) x (pm_M n f mi dx tp sg lg cl cs rd op sk wd sd th fa ws kp li pr hb fi st im jf jx mk) = some (pm_M n f mi dx tp sg lg cl cs rd op sk ((((((((((((wd.set 2 x).set 3 (pv sd (14 + s)).toInt64).set 4 (pv sd (38 + 2 * i + 1)).toInt64).set 5 (if (pv sd 11 >>> nI s) &&& nI 1 = nI 1 then 1 else 0)).set 6 (if (pv sd 12 >>> nI s) &&& nI 1 = nI 1 then 1 else 0)).set 7 (pc_I (sa_clo sd k)).toInt64).set 8 (if (sa_need sd d >>> nI s) &&& nI 1 = nI 1 then 1 else 0)).set 9 (sa_next sd s d).toInt64).set 10 (pc_I (pv sd (30 + s) &&& sa_clo sd k)).toInt64).set 11 (pv sd 10).toInt64))) sd th fa ws kp li pr hb fi st im jf jx mk) := by
    intro x wd hwd
    unfold mm_M_words_j35
    simp (disch := ((try simp only [List.length_set]); omega)) only [pb_its, pb_lit, nI_add, pb_mul, if_true, if_false, Option.bind_some, pb_b2, pb_bz0, pb_bz1, pb_10, pb_01, pb_i31, List.length_set, pn_is, pn_gi, pn_pi, pn_gl, pn_pl, pn_g0, pn_g1, pn_g2, pn_g3, pn_g4, pn_g5, pn_g6, pn_g7, pn_g8, pn_g9, pn_g10, pn_g11, pn_g12, pn_g13, pn_g14, pn_g15, pn_g16, pn_g17, pn_g18, pn_g19, pn_g20, pn_g21, pn_g22, pn_a0, pn_a1, pn_a2, pn_a3, pn_a4, pn_a5, pn_a6, pn_a7, pn_a8, pn_a9, pn_a10, pn_a11, pn_a12, pn_a13, pn_a14, pn_a15, pn_a16, pn_a17, pn_a18, pn_a19, pn_a20, pn_a21, pn_a22, pn_u0, pn_u1, pn_u2, pn_u3, pn_u4, pn_u5, pn_u6, pn_u7, pn_u8, pn_u9, pn_u10, pn_u11, pn_u12, pn_u13, pn_u14, pn_u15, pn_u16, pn_u17, pn_u18, pn_u19, pn_u20, pn_u21, pn_u22, po_isOf (show s < 32 by omega), po_strengthOf hsd hi]
    by_cases c : (pv sd 11 >>> nI s) &&& nI 1 = nI 1
    · simp only [c, if_true, pb_10, if_false]
      exact j88 _ _ (by simpa using hwd)
    · simp only [c, if_true, if_false]
      exact j88 _ _ (by simpa using hwd)
  have e : mm_M_words N (some 118) (nI i) (nI s) (pm_M n f mi dx tp sg lg cl cs rd op sk wd sd th fa ws kp li pr hb fi st im jf jx mk) = some (pm_M n f mi dx tp sg lg cl cs rd op sk ((((((((((((((wd.set 0 (nI i).toInt64).set 1 (nI s).toInt64).set 2 (if pv sd (38 + 2 * i) = nI s then 1 else 0)).set 3 (pv sd (14 + s)).toInt64).set 4 (pv sd (38 + 2 * i + 1)).toInt64).set 5 (if (pv sd 11 >>> nI s) &&& nI 1 = nI 1 then 1 else 0)).set 6 (if (pv sd 12 >>> nI s) &&& nI 1 = nI 1 then 1 else 0)).set 7 (pc_I (sa_clo sd k)).toInt64).set 8 (if (sa_need sd d >>> nI s) &&& nI 1 = nI 1 then 1 else 0)).set 9 (sa_next sd s d).toInt64).set 10 (pc_I (pv sd (30 + s) &&& sa_clo sd k)).toInt64).set 11 (pv sd 10).toInt64))) sd th fa ws kp li pr hb fi st im jf jx mk) := by
    unfold mm_M_words
    simp (disch := ((try simp only [List.length_set]); omega)) only [pb_its, pb_lit, nI_add, pb_mul, if_true, if_false, Option.bind_some, pb_b2, pb_bz0, pb_bz1, pb_10, pb_01, pb_i31, List.length_set, pn_is, pn_gi, pn_pi, pn_gl, pn_pl, pn_g0, pn_g1, pn_g2, pn_g3, pn_g4, pn_g5, pn_g6, pn_g7, pn_g8, pn_g9, pn_g10, pn_g11, pn_g12, pn_g13, pn_g14, pn_g15, pn_g16, pn_g17, pn_g18, pn_g19, pn_g20, pn_g21, pn_g22, pn_a0, pn_a1, pn_a2, pn_a3, pn_a4, pn_a5, pn_a6, pn_a7, pn_a8, pn_a9, pn_a10, pn_a11, pn_a12, pn_a13, pn_a14, pn_a15, pn_a16, pn_a17, pn_a18, pn_a19, pn_a20, pn_a21, pn_a22, pn_u0, pn_u1, pn_u2, pn_u3, pn_u4, pn_u5, pn_u6, pn_u7, pn_u8, pn_u9, pn_u10, pn_u11, pn_u12, pn_u13, pn_u14, pn_u15, pn_u16, pn_u17, pn_u18, pn_u19, pn_u20, pn_u21, pn_u22, po_ownOf hsd hi]
    by_cases c : pv sd (38 + 2 * i) = nI s
    · simp only [c, if_true]
      exact j35 _ _ (by simpa using hwd)
    · simp only [c, if_false]
      exact j35 _ _ (by simpa using hwd)
  refine ⟨_, ?_, ?_, e⟩
  · simpa using hwd
  · intro w hw
    have hl : ∀ (l : List Int64) (p : Nat) (v : Int64), (l.set p v).length = l.length := fun l p v => List.length_set
    rcases (by omega : w = 0 ∨ w = 1 ∨ w = 2 ∨ w = 3 ∨ w = 4 ∨ w = 5 ∨ w = 6 ∨ w = 7 ∨ w = 8 ∨ w = 9 ∨ w = 10 ∨ w = 11) with h | h | h | h | h | h | h | h | h | h | h | h <;> subst h <;> simp (disch := ((try simp only [List.length_set]); omega)) [pvl_set, sa_w, hwd]
end PD
