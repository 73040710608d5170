/-! ===== the model: what its methods make of its arrays ===== -/
section PO
variable {n : Nat} {f : Nat → ss_Cl} {mi : List Int32} {dx : Int64} {tp : List Int32} {sg : List Int32} {lg : List Int32} {cl : List Int32} {cs : List Int32} {rd : List Int32} {op : List Int32} {sk : List Int64} {wd : List Int64} {sd : List Int32} {th : List Int32} {fa : List Int32} {ws : List Int32} {kp : List Int32} {li : List Int32} {pr : List Int32} {hb : List Int32} {fi : List Int32} {st : List Int32} {im : List Int32} {jf : List Int32} {jx : List Int32} {mk : List Int32} {N : Nat}
theorem po_isOf {a1 : Int32} {i : Nat} (hi : i < 32) : mm_M_isOf N a1 (nI i) = some (if (a1 >>> nI i) &&& nI 1 = nI 1 then nI 1 else nI 0) := by
  unfold mm_M_isOf mm_M_isOf_j14
  simp (disch := ((try simp only [List.length_set]); omega)) only [pb_its, pb_lit, nI_add, pb_mul, if_true, if_false, Option.bind_some, pb_b2, pb_bz0, pb_bz1, pb_10, pb_01, pb_i31, List.length_set, pn_is, pn_gi, pn_pi, pn_gl, pn_pl, pn_g0, pn_g1, pn_g2, pn_g3, pn_g4, pn_g5, pn_g6, pn_g7, pn_g8, pn_g9, pn_g10, pn_g11, pn_g12, pn_g13, pn_g14, pn_g15, pn_g16, pn_g17, pn_g18, pn_g19, pn_g20, pn_g21, pn_g22, pn_a0, pn_a1, pn_a2, pn_a3, pn_a4, pn_a5, pn_a6, pn_a7, pn_a8, pn_a9, pn_a10, pn_a11, pn_a12, pn_a13, pn_a14, pn_a15, pn_a16, pn_a17, pn_a18, pn_a19, pn_a20, pn_a21, pn_a22, pn_u0, pn_u1, pn_u2, pn_u3, pn_u4, pn_u5, pn_u6, pn_u7, pn_u8, pn_u9, pn_u10, pn_u11, pn_u12, pn_u13, pn_u14, pn_u15, pn_u16, pn_u17, pn_u18, pn_u19, pn_u20, pn_u21, pn_u22]
def sa_held (x : Int32) : Int32 := if x ≤ nI 999 then x else nI 999
theorem po_held {x : Int32} : mm_M_held N x = some (sa_held x) := by
  unfold mm_M_held mm_M_held_j14 sa_held
  by_cases c : x ≤ nI 999
  · simp (disch := ((try simp only [List.length_set]); omega)) only [pb_its, pb_lit, nI_add, pb_mul, if_true, if_false, Option.bind_some, pb_b2, pb_bz0, pb_bz1, pb_10, pb_01, pb_i31, List.length_set, pn_is, pn_gi, pn_pi, pn_gl, pn_pl, pn_g0, pn_g1, pn_g2, pn_g3, pn_g4, pn_g5, pn_g6, pn_g7, pn_g8, pn_g9, pn_g10, pn_g11, pn_g12, pn_g13, pn_g14, pn_g15, pn_g16, pn_g17, pn_g18, pn_g19, pn_g20, pn_g21, pn_g22, pn_a0, pn_a1, pn_a2, pn_a3, pn_a4, pn_a5, pn_a6, pn_a7, pn_a8, pn_a9, pn_a10, pn_a11, pn_a12, pn_a13, pn_a14, pn_a15, pn_a16, pn_a17, pn_a18, pn_a19, pn_a20, pn_a21, pn_a22, pn_u0, pn_u1, pn_u2, pn_u3, pn_u4, pn_u5, pn_u6, pn_u7, pn_u8, pn_u9, pn_u10, pn_u11, pn_u12, pn_u13, pn_u14, pn_u15, pn_u16, pn_u17, pn_u18, pn_u19, pn_u20, pn_u21, pn_u22, c]
  · simp (disch := ((try simp only [List.length_set]); omega)) only [pb_its, pb_lit, nI_add, pb_mul, if_true, if_false, Option.bind_some, pb_b2, pb_bz0, pb_bz1, pb_10, pb_01, pb_i31, List.length_set, pn_is, pn_gi, pn_pi, pn_gl, pn_pl, pn_g0, pn_g1, pn_g2, pn_g3, pn_g4, pn_g5, pn_g6, pn_g7, pn_g8, pn_g9, pn_g10, pn_g11, pn_g12, pn_g13, pn_g14, pn_g15, pn_g16, pn_g17, pn_g18, pn_g19, pn_g20, pn_g21, pn_g22, pn_a0, pn_a1, pn_a2, pn_a3, pn_a4, pn_a5, pn_a6, pn_a7, pn_a8, pn_a9, pn_a10, pn_a11, pn_a12, pn_a13, pn_a14, pn_a15, pn_a16, pn_a17, pn_a18, pn_a19, pn_a20, pn_a21, pn_a22, pn_u0, pn_u1, pn_u2, pn_u3, pn_u4, pn_u5, pn_u6, pn_u7, pn_u8, pn_u9, pn_u10, pn_u11, pn_u12, pn_u13, pn_u14, pn_u15, pn_u16, pn_u17, pn_u18, pn_u19, pn_u20, pn_u21, pn_u22, c]
theorem po_isClosed {s : Nat} (hsd : sd.length = 124) (hs : s < 8) : mm_M_isClosed N (some 118) (nI s) (pm_M n f mi dx tp sg lg cl cs rd op sk wd sd th fa ws kp li pr hb fi st im jf jx mk) = some (if pv sd (14 + s) < pv sd 1 then nI 0 else nI 1) := by
  unfold mm_M_isClosed mm_M_isClosed_j23
  simp (disch := ((try simp only [List.length_set]); omega)) only [pb_its, pb_lit, nI_add, pb_mul, if_true, if_false, Option.bind_some, pb_b2, pb_bz0, pb_bz1, pb_10, pb_01, pb_i31, List.length_set, pn_is, pn_gi, pn_pi, pn_gl, pn_pl, pn_g0, pn_g1, pn_g2, pn_g3, pn_g4, pn_g5, pn_g6, pn_g7, pn_g8, pn_g9, pn_g10, pn_g11, pn_g12, pn_g13, pn_g14, pn_g15, pn_g16, pn_g17, pn_g18, pn_g19, pn_g20, pn_g21, pn_g22, pn_a0, pn_a1, pn_a2, pn_a3, pn_a4, pn_a5, pn_a6, pn_a7, pn_a8, pn_a9, pn_a10, pn_a11, pn_a12, pn_a13, pn_a14, pn_a15, pn_a16, pn_a17, pn_a18, pn_a19, pn_a20, pn_a21, pn_a22, pn_u0, pn_u1, pn_u2, pn_u3, pn_u4, pn_u5, pn_u6, pn_u7, pn_u8, pn_u9, pn_u10, pn_u11, pn_u12, pn_u13, pn_u14, pn_u15, pn_u16, pn_u17, pn_u18, pn_u19, pn_u20, pn_u21, pn_u22]
/-- the closed steps among the first k, as bits -/
def sa_clo (a : List Int32) : Nat → Int32
  | 0 => nI 0
  | k + 1 => sa_clo a k ||| (if pv a (14 + k) < pv a 1 then nI 0 else nI 1 <<< nI k)
theorem po_closed {k : Nat} (hsd : sd.length = 124) (hk : k ≤ 8) (h2 : pv sd 2 = nI k) (hN : 8 < N) : mm_M_closed N (some 118) (pm_M n f mi dx tp sg lg cl cs rd op sk wd sd th fa ws kp li pr hb fi st im jf jx mk) = some (sa_clo sd k) := by
  unfold mm_M_closed
  have e : ss_lp (mm_M_closed_b4 N (some 118) (pm_M n f mi dx tp sg lg cl cs rd op sk wd sd th fa ws kp li pr hb fi st im jf jx mk)) N (nI 0, nI 0) = some (sa_clo sd k) := by
    refine pb_lp (fun i => (sa_clo sd i, nI i)) k (by omega) (fun i hi => ?_) ?_
    · unfold mm_M_closed_b4 mm_M_closed_j30
      have h3 : ¬ nI k ≤ nI i := nI_ge hi (by omega)
      simp (disch := ((try simp only [List.length_set]); omega)) only [pb_its, pb_lit, nI_add, pb_mul, if_true, if_false, Option.bind_some, pb_b2, pb_bz0, pb_bz1, pb_10, pb_01, pb_i31, List.length_set, pn_is, pn_gi, pn_pi, pn_gl, pn_pl, pn_g0, pn_g1, pn_g2, pn_g3, pn_g4, pn_g5, pn_g6, pn_g7, pn_g8, pn_g9, pn_g10, pn_g11, pn_g12, pn_g13, pn_g14, pn_g15, pn_g16, pn_g17, pn_g18, pn_g19, pn_g20, pn_g21, pn_g22, pn_a0, pn_a1, pn_a2, pn_a3, pn_a4, pn_a5, pn_a6, pn_a7, pn_a8, pn_a9, pn_a10, pn_a11, pn_a12, pn_a13, pn_a14, pn_a15, pn_a16, pn_a17, pn_a18, pn_a19, pn_a20, pn_a21, pn_a22, pn_u0, pn_u1, pn_u2, pn_u3, pn_u4, pn_u5, pn_u6, pn_u7, pn_u8, pn_u9, pn_u10, pn_u11, pn_u12, pn_u13, pn_u14, pn_u15, pn_u16, pn_u17, pn_u18, pn_u19, pn_u20, pn_u21, pn_u22, h2, h3, po_isClosed hsd (show i < 8 by omega)]
      by_cases c : pv sd (14 + i) < pv sd 1
      · simp [c, sa_clo]
      · simp [c, sa_clo, pb_10]
    · unfold mm_M_closed_b4
      simp (disch := ((try simp only [List.length_set]); omega)) only [pb_its, pb_lit, nI_add, pb_mul, if_true, if_false, Option.bind_some, pb_b2, pb_bz0, pb_bz1, pb_10, pb_01, pb_i31, List.length_set, pn_is, pn_gi, pn_pi, pn_gl, pn_pl, pn_g0, pn_g1, pn_g2, pn_g3, pn_g4, pn_g5, pn_g6, pn_g7, pn_g8, pn_g9, pn_g10, pn_g11, pn_g12, pn_g13, pn_g14, pn_g15, pn_g16, pn_g17, pn_g18, pn_g19, pn_g20, pn_g21, pn_g22, pn_a0, pn_a1, pn_a2, pn_a3, pn_a4, pn_a5, pn_a6, pn_a7, pn_a8, pn_a9, pn_a10, pn_a11, pn_a12, pn_a13, pn_a14, pn_a15, pn_a16, pn_a17, pn_a18, pn_a19, pn_a20, pn_a21, pn_a22, pn_u0, pn_u1, pn_u2, pn_u3, pn_u4, pn_u5, pn_u6, pn_u7, pn_u8, pn_u9, pn_u10, pn_u11, pn_u12, pn_u13, pn_u14, pn_u15, pn_u16, pn_u17, pn_u18, pn_u19, pn_u20, pn_u21, pn_u22, h2, nI_le (Nat.le_refl k) (by omega : k < 2 ^ 31)]
  simp (disch := ((try simp only [List.length_set]); omega)) only [pb_its, pb_lit, nI_add, pb_mul, if_true, if_false, Option.bind_some, pb_b2, pb_bz0, pb_bz1, pb_10, pb_01, pb_i31, List.length_set, pn_is, pn_gi, pn_pi, pn_gl, pn_pl, pn_g0, pn_g1, pn_g2, pn_g3, pn_g4, pn_g5, pn_g6, pn_g7, pn_g8, pn_g9, pn_g10, pn_g11, pn_g12, pn_g13, pn_g14, pn_g15, pn_g16, pn_g17, pn_g18, pn_g19, pn_g20, pn_g21, pn_g22, pn_a0, pn_a1, pn_a2, pn_a3, pn_a4, pn_a5, pn_a6, pn_a7, pn_a8, pn_a9, pn_a10, pn_a11, pn_a12, pn_a13, pn_a14, pn_a15, pn_a16, pn_a17, pn_a18, pn_a19, pn_a20, pn_a21, pn_a22, pn_u0, pn_u1, pn_u2, pn_u3, pn_u4, pn_u5, pn_u6, pn_u7, pn_u8, pn_u9, pn_u10, pn_u11, pn_u12, pn_u13, pn_u14, pn_u15, pn_u16, pn_u17, pn_u18, pn_u19, pn_u20, pn_u21, pn_u22, e]
def sa_sum (a : List Int32) : Nat → Int32
  | 0 => nI 0
  | k + 1 => sa_sum a k + pv a (14 + k)
theorem po_snowAll {k : Nat} (hsd : sd.length = 124) (hk : k ≤ 8) (h2 : pv sd 2 = nI k) (hN : 8 < N) : mm_M_snowAll N (some 118) (pm_M n f mi dx tp sg lg cl cs rd op sk wd sd th fa ws kp li pr hb fi st im jf jx mk) = some (sa_sum sd k) := by
  unfold mm_M_snowAll
  have e : ss_lp (mm_M_snowAll_b4 N (some 118) (pm_M n f mi dx tp sg lg cl cs rd op sk wd sd th fa ws kp li pr hb fi st im jf jx mk)) N (nI 0, nI 0) = some (sa_sum sd k) := by
    refine pb_lp (fun i => (sa_sum sd i, nI i)) k (by omega) (fun i hi => ?_) ?_
    · unfold mm_M_snowAll_b4
      have h3 : ¬ nI k ≤ nI i := nI_ge hi (by omega)
      simp (disch := ((try simp only [List.length_set]); omega)) only [pb_its, pb_lit, nI_add, pb_mul, if_true, if_false, Option.bind_some, pb_b2, pb_bz0, pb_bz1, pb_10, pb_01, pb_i31, List.length_set, pn_is, pn_gi, pn_pi, pn_gl, pn_pl, pn_g0, pn_g1, pn_g2, pn_g3, pn_g4, pn_g5, pn_g6, pn_g7, pn_g8, pn_g9, pn_g10, pn_g11, pn_g12, pn_g13, pn_g14, pn_g15, pn_g16, pn_g17, pn_g18, pn_g19, pn_g20, pn_g21, pn_g22, pn_a0, pn_a1, pn_a2, pn_a3, pn_a4, pn_a5, pn_a6, pn_a7, pn_a8, pn_a9, pn_a10, pn_a11, pn_a12, pn_a13, pn_a14, pn_a15, pn_a16, pn_a17, pn_a18, pn_a19, pn_a20, pn_a21, pn_a22, pn_u0, pn_u1, pn_u2, pn_u3, pn_u4, pn_u5, pn_u6, pn_u7, pn_u8, pn_u9, pn_u10, pn_u11, pn_u12, pn_u13, pn_u14, pn_u15, pn_u16, pn_u17, pn_u18, pn_u19, pn_u20, pn_u21, pn_u22, h2, h3]
      rfl
    · unfold mm_M_snowAll_b4
      simp (disch := ((try simp only [List.length_set]); omega)) only [pb_its, pb_lit, nI_add, pb_mul, if_true, if_false, Option.bind_some, pb_b2, pb_bz0, pb_bz1, pb_10, pb_01, pb_i31, List.length_set, pn_is, pn_gi, pn_pi, pn_gl, pn_pl, pn_g0, pn_g1, pn_g2, pn_g3, pn_g4, pn_g5, pn_g6, pn_g7, pn_g8, pn_g9, pn_g10, pn_g11, pn_g12, pn_g13, pn_g14, pn_g15, pn_g16, pn_g17, pn_g18, pn_g19, pn_g20, pn_g21, pn_g22, pn_a0, pn_a1, pn_a2, pn_a3, pn_a4, pn_a5, pn_a6, pn_a7, pn_a8, pn_a9, pn_a10, pn_a11, pn_a12, pn_a13, pn_a14, pn_a15, pn_a16, pn_a17, pn_a18, pn_a19, pn_a20, pn_a21, pn_a22, pn_u0, pn_u1, pn_u2, pn_u3, pn_u4, pn_u5, pn_u6, pn_u7, pn_u8, pn_u9, pn_u10, pn_u11, pn_u12, pn_u13, pn_u14, pn_u15, pn_u16, pn_u17, pn_u18, pn_u19, pn_u20, pn_u21, pn_u22, h2, nI_le (Nat.le_refl k) (by omega : k < 2 ^ 31)]
  simp (disch := ((try simp only [List.length_set]); omega)) only [pb_its, pb_lit, nI_add, pb_mul, if_true, if_false, Option.bind_some, pb_b2, pb_bz0, pb_bz1, pb_10, pb_01, pb_i31, List.length_set, pn_is, pn_gi, pn_pi, pn_gl, pn_pl, pn_g0, pn_g1, pn_g2, pn_g3, pn_g4, pn_g5, pn_g6, pn_g7, pn_g8, pn_g9, pn_g10, pn_g11, pn_g12, pn_g13, pn_g14, pn_g15, pn_g16, pn_g17, pn_g18, pn_g19, pn_g20, pn_g21, pn_g22, pn_a0, pn_a1, pn_a2, pn_a3, pn_a4, pn_a5, pn_a6, pn_a7, pn_a8, pn_a9, pn_a10, pn_a11, pn_a12, pn_a13, pn_a14, pn_a15, pn_a16, pn_a17, pn_a18, pn_a19, pn_a20, pn_a21, pn_a22, pn_u0, pn_u1, pn_u2, pn_u3, pn_u4, pn_u5, pn_u6, pn_u7, pn_u8, pn_u9, pn_u10, pn_u11, pn_u12, pn_u13, pn_u14, pn_u15, pn_u16, pn_u17, pn_u18, pn_u19, pn_u20, pn_u21, pn_u22, e]
/-- which steps are needed on a day -/
def sa_need (a : List Int32) (d : Nat) : Int32 := if d ≤ 30 then pv a (62 + d) else nI 0
theorem po_neededOn {d : Nat} (hsd : sd.length = 124) (hd : d < 2 ^ 31) : mm_M_neededOn N (some 118) (nI d) (pm_M n f mi dx tp sg lg cl cs rd op sk wd sd th fa ws kp li pr hb fi st im jf jx mk) = some (sa_need sd d) := by
  unfold mm_M_neededOn mm_M_neededOn_j19 sa_need
  by_cases c : d ≤ 30
  · have h3 : ¬ nI 30 < nI d := nI_nlt c (by omega)
    simp (disch := ((try simp only [List.length_set]); omega)) only [pb_its, pb_lit, nI_add, pb_mul, if_true, if_false, Option.bind_some, pb_b2, pb_bz0, pb_bz1, pb_10, pb_01, pb_i31, List.length_set, pn_is, pn_gi, pn_pi, pn_gl, pn_pl, pn_g0, pn_g1, pn_g2, pn_g3, pn_g4, pn_g5, pn_g6, pn_g7, pn_g8, pn_g9, pn_g10, pn_g11, pn_g12, pn_g13, pn_g14, pn_g15, pn_g16, pn_g17, pn_g18, pn_g19, pn_g20, pn_g21, pn_g22, pn_a0, pn_a1, pn_a2, pn_a3, pn_a4, pn_a5, pn_a6, pn_a7, pn_a8, pn_a9, pn_a10, pn_a11, pn_a12, pn_a13, pn_a14, pn_a15, pn_a16, pn_a17, pn_a18, pn_a19, pn_a20, pn_a21, pn_a22, pn_u0, pn_u1, pn_u2, pn_u3, pn_u4, pn_u5, pn_u6, pn_u7, pn_u8, pn_u9, pn_u10, pn_u11, pn_u12, pn_u13, pn_u14, pn_u15, pn_u16, pn_u17, pn_u18, pn_u19, pn_u20, pn_u21, pn_u22, h3, c]
  · have h3 : nI 30 < nI d := nI_lt (by omega) hd
    simp (disch := ((try simp only [List.length_set]); omega)) only [pb_its, pb_lit, nI_add, pb_mul, if_true, if_false, Option.bind_some, pb_b2, pb_bz0, pb_bz1, pb_10, pb_01, pb_i31, List.length_set, pn_is, pn_gi, pn_pi, pn_gl, pn_pl, pn_g0, pn_g1, pn_g2, pn_g3, pn_g4, pn_g5, pn_g6, pn_g7, pn_g8, pn_g9, pn_g10, pn_g11, pn_g12, pn_g13, pn_g14, pn_g15, pn_g16, pn_g17, pn_g18, pn_g19, pn_g20, pn_g21, pn_g22, pn_a0, pn_a1, pn_a2, pn_a3, pn_a4, pn_a5, pn_a6, pn_a7, pn_a8, pn_a9, pn_a10, pn_a11, pn_a12, pn_a13, pn_a14, pn_a15, pn_a16, pn_a17, pn_a18, pn_a19, pn_a20, pn_a21, pn_a22, pn_u0, pn_u1, pn_u2, pn_u3, pn_u4, pn_u5, pn_u6, pn_u7, pn_u8, pn_u9, pn_u10, pn_u11, pn_u12, pn_u13, pn_u14, pn_u15, pn_u16, pn_u17, pn_u18, pn_u19, pn_u20, pn_u21, pn_u22, h3, c]
theorem po_ownOf {i : Nat} (hsd : sd.length = 124) (hi : i < 4) : mm_M_ownOf N (some 118) (nI i) (pm_M n f mi dx tp sg lg cl cs rd op sk wd sd th fa ws kp li pr hb fi st im jf jx mk) = some (pv sd (38 + 2 * i)) := by
  unfold mm_M_ownOf
  simp (disch := ((try simp only [List.length_set]); omega)) only [pb_its, pb_lit, nI_add, pb_mul, if_true, if_false, Option.bind_some, pb_b2, pb_bz0, pb_bz1, pb_10, pb_01, pb_i31, List.length_set, pn_is, pn_gi, pn_pi, pn_gl, pn_pl, pn_g0, pn_g1, pn_g2, pn_g3, pn_g4, pn_g5, pn_g6, pn_g7, pn_g8, pn_g9, pn_g10, pn_g11, pn_g12, pn_g13, pn_g14, pn_g15, pn_g16, pn_g17, pn_g18, pn_g19, pn_g20, pn_g21, pn_g22, pn_a0, pn_a1, pn_a2, pn_a3, pn_a4, pn_a5, pn_a6, pn_a7, pn_a8, pn_a9, pn_a10, pn_a11, pn_a12, pn_a13, pn_a14, pn_a15, pn_a16, pn_a17, pn_a18, pn_a19, pn_a20, pn_a21, pn_a22, pn_u0, pn_u1, pn_u2, pn_u3, pn_u4, pn_u5, pn_u6, pn_u7, pn_u8, pn_u9, pn_u10, pn_u11, pn_u12, pn_u13, pn_u14, pn_u15, pn_u16, pn_u17, pn_u18, pn_u19, pn_u20, pn_u21, pn_u22]
theorem po_strengthOf {i : Nat} (hsd : sd.length = 124) (hi : i < 4) : mm_M_strengthOf N (some 118) (nI i) (pm_M n f mi dx tp sg lg cl cs rd op sk wd sd th fa ws kp li pr hb fi st im jf jx mk) = some (pv sd (38 + 2 * i + 1)) := by
  unfold mm_M_strengthOf
  simp (disch := ((try simp only [List.length_set]); omega)) only [pb_its, pb_lit, nI_add, pb_mul, if_true, if_false, Option.bind_some, pb_b2, pb_bz0, pb_bz1, pb_10, pb_01, pb_i31, List.length_set, pn_is, pn_gi, pn_pi, pn_gl, pn_pl, pn_g0, pn_g1, pn_g2, pn_g3, pn_g4, pn_g5, pn_g6, pn_g7, pn_g8, pn_g9, pn_g10, pn_g11, pn_g12, pn_g13, pn_g14, pn_g15, pn_g16, pn_g17, pn_g18, pn_g19, pn_g20, pn_g21, pn_g22, pn_a0, pn_a1, pn_a2, pn_a3, pn_a4, pn_a5, pn_a6, pn_a7, pn_a8, pn_a9, pn_a10, pn_a11, pn_a12, pn_a13, pn_a14, pn_a15, pn_a16, pn_a17, pn_a18, pn_a19, pn_a20, pn_a21, pn_a22, pn_u0, pn_u1, pn_u2, pn_u3, pn_u4, pn_u5, pn_u6, pn_u7, pn_u8, pn_u9, pn_u10, pn_u11, pn_u12, pn_u13, pn_u14, pn_u15, pn_u16, pn_u17, pn_u18, pn_u19, pn_u20, pn_u21, pn_u22]
theorem po_isStep {x : Int32} (hsd : sd.length = 124) : mm_M_isStep N (some 118) x (pm_M n f mi dx tp sg lg cl cs rd op sk wd sd th fa ws kp li pr hb fi st im jf jx mk) = some (if x < nI 0 then nI 0 else if pv sd 2 ≤ x then nI 0 else nI 1) := by
  unfold mm_M_isStep mm_M_isStep_j18 mm_M_isStep_j19
  simp (disch := ((try simp only [List.length_set]); omega)) only [pb_its, pb_lit, nI_add, pb_mul, if_true, if_false, Option.bind_some, pb_b2, pb_bz0, pb_bz1, pb_10, pb_01, pb_i31, List.length_set, pn_is, pn_gi, pn_pi, pn_gl, pn_pl, pn_g0, pn_g1, pn_g2, pn_g3, pn_g4, pn_g5, pn_g6, pn_g7, pn_g8, pn_g9, pn_g10, pn_g11, pn_g12, pn_g13, pn_g14, pn_g15, pn_g16, pn_g17, pn_g18, pn_g19, pn_g20, pn_g21, pn_g22, pn_a0, pn_a1, pn_a2, pn_a3, pn_a4, pn_a5, pn_a6, pn_a7, pn_a8, pn_a9, pn_a10, pn_a11, pn_a12, pn_a13, pn_a14, pn_a15, pn_a16, pn_a17, pn_a18, pn_a19, pn_a20, pn_a21, pn_a22, pn_u0, pn_u1, pn_u2, pn_u3, pn_u4, pn_u5, pn_u6, pn_u7, pn_u8, pn_u9, pn_u10, pn_u11, pn_u12, pn_u13, pn_u14, pn_u15, pn_u16, pn_u17, pn_u18, pn_u19, pn_u20, pn_u21, pn_u22]
theorem po_isHouse {x : Int32} (hsd : sd.length = 124) : mm_M_isHouse N (some 118) x (pm_M n f mi dx tp sg lg cl cs rd op sk wd sd th fa ws kp li pr hb fi st im jf jx mk) = some (if x < nI 0 then nI 0 else if pv sd 3 ≤ x then nI 0 else nI 1) := by
  unfold mm_M_isHouse mm_M_isHouse_j18 mm_M_isHouse_j19
  simp (disch := ((try simp only [List.length_set]); omega)) only [pb_its, pb_lit, nI_add, pb_mul, if_true, if_false, Option.bind_some, pb_b2, pb_bz0, pb_bz1, pb_10, pb_01, pb_i31, List.length_set, pn_is, pn_gi, pn_pi, pn_gl, pn_pl, pn_g0, pn_g1, pn_g2, pn_g3, pn_g4, pn_g5, pn_g6, pn_g7, pn_g8, pn_g9, pn_g10, pn_g11, pn_g12, pn_g13, pn_g14, pn_g15, pn_g16, pn_g17, pn_g18, pn_g19, pn_g20, pn_g21, pn_g22, pn_a0, pn_a1, pn_a2, pn_a3, pn_a4, pn_a5, pn_a6, pn_a7, pn_a8, pn_a9, pn_a10, pn_a11, pn_a12, pn_a13, pn_a14, pn_a15, pn_a16, pn_a17, pn_a18, pn_a19, pn_a20, pn_a21, pn_a22, pn_u0, pn_u1, pn_u2, pn_u3, pn_u4, pn_u5, pn_u6, pn_u7, pn_u8, pn_u9, pn_u10, pn_u11, pn_u12, pn_u13, pn_u14, pn_u15, pn_u16, pn_u17, pn_u18, pn_u19, pn_u20, pn_u21, pn_u22]
theorem po_isValley (hsd : sd.length = 124) : mm_M_isValley N (some 118) (pm_M n f mi dx tp sg lg cl cs rd op sk wd sd th fa ws kp li pr hb fi st im jf jx mk) = some (if pv sd 0 ≤ nI 0 then nI 0 else nI 1) := by
  unfold mm_M_isValley mm_M_isValley_j14
  by_cases c : pv sd 0 ≤ nI 0
  · simp (disch := ((try simp only [List.length_set]); omega)) only [pb_its, pb_lit, nI_add, pb_mul, if_true, if_false, Option.bind_some, pb_b2, pb_bz0, pb_bz1, pb_10, pb_01, pb_i31, List.length_set, pn_is, pn_gi, pn_pi, pn_gl, pn_pl, pn_g0, pn_g1, pn_g2, pn_g3, pn_g4, pn_g5, pn_g6, pn_g7, pn_g8, pn_g9, pn_g10, pn_g11, pn_g12, pn_g13, pn_g14, pn_g15, pn_g16, pn_g17, pn_g18, pn_g19, pn_g20, pn_g21, pn_g22, pn_a0, pn_a1, pn_a2, pn_a3, pn_a4, pn_a5, pn_a6, pn_a7, pn_a8, pn_a9, pn_a10, pn_a11, pn_a12, pn_a13, pn_a14, pn_a15, pn_a16, pn_a17, pn_a18, pn_a19, pn_a20, pn_a21, pn_a22, pn_u0, pn_u1, pn_u2, pn_u3, pn_u4, pn_u5, pn_u6, pn_u7, pn_u8, pn_u9, pn_u10, pn_u11, pn_u12, pn_u13, pn_u14, pn_u15, pn_u16, pn_u17, pn_u18, pn_u19, pn_u20, pn_u21, pn_u22, c]
  · simp (disch := ((try simp only [List.length_set]); omega)) only [pb_its, pb_lit, nI_add, pb_mul, if_true, if_false, Option.bind_some, pb_b2, pb_bz0, pb_bz1, pb_10, pb_01, pb_i31, List.length_set, pn_is, pn_gi, pn_pi, pn_gl, pn_pl, pn_g0, pn_g1, pn_g2, pn_g3, pn_g4, pn_g5, pn_g6, pn_g7, pn_g8, pn_g9, pn_g10, pn_g11, pn_g12, pn_g13, pn_g14, pn_g15, pn_g16, pn_g17, pn_g18, pn_g19, pn_g20, pn_g21, pn_g22, pn_a0, pn_a1, pn_a2, pn_a3, pn_a4, pn_a5, pn_a6, pn_a7, pn_a8, pn_a9, pn_a10, pn_a11, pn_a12, pn_a13, pn_a14, pn_a15, pn_a16, pn_a17, pn_a18, pn_a19, pn_a20, pn_a21, pn_a22, pn_u0, pn_u1, pn_u2, pn_u3, pn_u4, pn_u5, pn_u6, pn_u7, pn_u8, pn_u9, pn_u10, pn_u11, pn_u12, pn_u13, pn_u14, pn_u15, pn_u16, pn_u17, pn_u18, pn_u19, pn_u20, pn_u21, pn_u22, c]
/-- how much is taken -/
def sa_much (a : List Int32) (i s : Nat) : Int32 := if pv a (14 + s) ≤ pv a (38 + 2 * i + 1) then pv a (14 + s) else pv a (38 + 2 * i + 1)
def sa_take1 (a : List Int32) (i s : Nat) : List Int32 :=
  if sa_much a i s ≤ nI 0 then a.set (14 + s) (pv a (14 + s) - sa_much a i s)
  else (a.set (14 + s) (pv a (14 + s) - sa_much a i s)).set 11 (pv a 11 ||| nI 1 <<< nI s)
def sa_wall (a : List Int32) (s : Nat) : Nat := (pv a (22 + s)).toNatClampNeg
def sa_take (a : List Int32) (i s : Nat) : List Int32 :=
  if pv a (22 + s) < nI 0 then sa_take1 a i s
  else (sa_take1 a i s).set (14 + sa_wall a s) (sa_held (pv (sa_take1 a i s) (14 + sa_wall a s) + sa_much a i s))
def sa_takeT (a th : List Int32) (i s : Nat) : List Int32 :=
  if pv a (22 + s) < nI 0 then th else th.set (sa_wall a s) (pv th (sa_wall a s) + sa_much a i s)
theorem sa_take1_len (a : List Int32) (i s : Nat) : (sa_take1 a i s).length = a.length := by
  unfold sa_take1; split <;> simp
theorem sa_take_len (a : List Int32) (i s : Nat) : (sa_take a i s).length = a.length := by
  unfold sa_take; split <;> simp [sa_take1_len]
theorem sa_takeT_len (a th : List Int32) (i s : Nat) : (sa_takeT a th i s).length = th.length := by
  unfold sa_takeT; split <;> simp
theorem po_takes {i s : Nat} (hsd : sd.length = 124) (hth : th.length = 8) (hi : i < 4) (hs : s < 8) (hw : pv sd (22 + s) < nI 0 ∨ ∃ t, t < 8 ∧ pv sd (22 + s) = nI t) : mm_M_takes N (some 118) (nI i) (nI s) (pm_M n f mi dx tp sg lg cl cs rd op sk wd sd th fa ws kp li pr hb fi st im jf jx mk) = some (sa_much sd i s, (pm_M n f mi dx tp sg lg cl cs rd op sk wd (sa_take sd i s) (sa_takeT sd th i s) fa ws kp li pr hb fi st im jf jx mk)) := by
  have key : mm_M_takes N (some 118) (nI i) (nI s) (pm_M n f mi dx tp sg lg cl cs rd op sk wd sd th fa ws kp li pr hb fi st im jf jx mk) = mm_M_takes_j34 N (some 118) (nI i) (nI s) (sa_much sd i s) (pm_M n f mi dx tp sg lg cl cs rd op sk wd sd th fa ws kp li pr hb fi st im jf jx mk) := by
    unfold mm_M_takes sa_much
    simp (disch := ((try simp only [List.length_set]); omega)) only [pb_its, pb_lit, nI_add, pb_mul, if_true, if_false, Option.bind_some, pb_b2, pb_bz0, pb_bz1, pb_10, pb_01, pb_i31, List.length_set, pn_is, pn_gi, pn_pi, pn_gl, pn_pl, pn_g0, pn_g1, pn_g2, pn_g3, pn_g4, pn_g5, pn_g6, pn_g7, pn_g8, pn_g9, pn_g10, pn_g11, pn_g12, pn_g13, pn_g14, pn_g15, pn_g16, pn_g17, pn_g18, pn_g19, pn_g20, pn_g21, pn_g22, pn_a0, pn_a1, pn_a2, pn_a3, pn_a4, pn_a5, pn_a6, pn_a7, pn_a8, pn_a9, pn_a10, pn_a11, pn_a12, pn_a13, pn_a14, pn_a15, pn_a16, pn_a17, pn_a18, pn_a19, pn_a20, pn_a21, pn_a22, pn_u0, pn_u1, pn_u2, pn_u3, pn_u4, pn_u5, pn_u6, pn_u7, pn_u8, pn_u9, pn_u10, pn_u11, pn_u12, pn_u13, pn_u14, pn_u15, pn_u16, pn_u17, pn_u18, pn_u19, pn_u20, pn_u21, pn_u22, po_strengthOf hsd hi]
    split <;> rfl
  rw [key]
  unfold mm_M_takes_j34
  simp (disch := ((try simp only [List.length_set]); omega)) only [pb_its, pb_lit, nI_add, pb_mul, if_true, if_false, Option.bind_some, pb_b2, pb_bz0, pb_bz1, pb_10, pb_01, pb_i31, List.length_set, pn_is, pn_gi, pn_pi, pn_gl, pn_pl, pn_g0, pn_g1, pn_g2, pn_g3, pn_g4, pn_g5, pn_g6, pn_g7, pn_g8, pn_g9, pn_g10, pn_g11, pn_g12, pn_g13, pn_g14, pn_g15, pn_g16, pn_g17, pn_g18, pn_g19, pn_g20, pn_g21, pn_g22, pn_a0, pn_a1, pn_a2, pn_a3, pn_a4, pn_a5, pn_a6, pn_a7, pn_a8, pn_a9, pn_a10, pn_a11, pn_a12, pn_a13, pn_a14, pn_a15, pn_a16, pn_a17, pn_a18, pn_a19, pn_a20, pn_a21, pn_a22, pn_u0, pn_u1, pn_u2, pn_u3, pn_u4, pn_u5, pn_u6, pn_u7, pn_u8, pn_u9, pn_u10, pn_u11, pn_u12, pn_u13, pn_u14, pn_u15, pn_u16, pn_u17, pn_u18, pn_u19, pn_u20, pn_u21, pn_u22]
  have key2 : ∀ g : ss_Hp, g = (pm_M n f mi dx tp sg lg cl cs rd op sk wd (sa_take1 sd i s) th fa ws kp li pr hb fi st im jf jx mk) → mm_M_takes_j76 N (some 118) (nI i) (nI s) (sa_much sd i s) (pv sd (22 + s)) g = some (sa_much sd i s, (pm_M n f mi dx tp sg lg cl cs rd op sk wd (sa_take sd i s) (sa_takeT sd th i s) fa ws kp li pr hb fi st im jf jx mk)) := by
    rintro g rfl
    have hl := sa_take1_len sd i s
    unfold mm_M_takes_j76 mm_M_takes_j117 sa_take sa_takeT
    rcases hw with hw | ⟨t, ht, hw⟩
    · simp (disch := ((try simp only [List.length_set]); omega)) only [pb_its, pb_lit, nI_add, pb_mul, if_true, if_false, Option.bind_some, pb_b2, pb_bz0, pb_bz1, pb_10, pb_01, pb_i31, List.length_set, pn_is, pn_gi, pn_pi, pn_gl, pn_pl, pn_g0, pn_g1, pn_g2, pn_g3, pn_g4, pn_g5, pn_g6, pn_g7, pn_g8, pn_g9, pn_g10, pn_g11, pn_g12, pn_g13, pn_g14, pn_g15, pn_g16, pn_g17, pn_g18, pn_g19, pn_g20, pn_g21, pn_g22, pn_a0, pn_a1, pn_a2, pn_a3, pn_a4, pn_a5, pn_a6, pn_a7, pn_a8, pn_a9, pn_a10, pn_a11, pn_a12, pn_a13, pn_a14, pn_a15, pn_a16, pn_a17, pn_a18, pn_a19, pn_a20, pn_a21, pn_a22, pn_u0, pn_u1, pn_u2, pn_u3, pn_u4, pn_u5, pn_u6, pn_u7, pn_u8, pn_u9, pn_u10, pn_u11, pn_u12, pn_u13, pn_u14, pn_u15, pn_u16, pn_u17, pn_u18, pn_u19, pn_u20, pn_u21, pn_u22, hw]
    · have hn : ¬ nI t < nI 0 := nI_nlt (by omega) (by omega)
      have hc : sa_wall sd s = t := by unfold sa_wall; rw [hw]; exact nI_clamp (by omega)
      simp (disch := ((try simp only [List.length_set]); omega)) only [pb_its, pb_lit, nI_add, pb_mul, if_true, if_false, Option.bind_some, pb_b2, pb_bz0, pb_bz1, pb_10, pb_01, pb_i31, List.length_set, pn_is, pn_gi, pn_pi, pn_gl, pn_pl, pn_g0, pn_g1, pn_g2, pn_g3, pn_g4, pn_g5, pn_g6, pn_g7, pn_g8, pn_g9, pn_g10, pn_g11, pn_g12, pn_g13, pn_g14, pn_g15, pn_g16, pn_g17, pn_g18, pn_g19, pn_g20, pn_g21, pn_g22, pn_a0, pn_a1, pn_a2, pn_a3, pn_a4, pn_a5, pn_a6, pn_a7, pn_a8, pn_a9, pn_a10, pn_a11, pn_a12, pn_a13, pn_a14, pn_a15, pn_a16, pn_a17, pn_a18, pn_a19, pn_a20, pn_a21, pn_a22, pn_u0, pn_u1, pn_u2, pn_u3, pn_u4, pn_u5, pn_u6, pn_u7, pn_u8, pn_u9, pn_u10, pn_u11, pn_u12, pn_u13, pn_u14, pn_u15, pn_u16, pn_u17, pn_u18, pn_u19, pn_u20, pn_u21, pn_u22, hw, hn, hc, po_held]
  by_cases c : sa_much sd i s ≤ nI 0
  · rw [if_pos c]
    refine key2 _ ?_
    unfold sa_take1
    rw [if_pos c]
  · rw [if_neg c]
    refine key2 _ ?_
    unfold sa_take1
    rw [if_neg c, pv_ne (by omega)]
/-- the night: on the first k steps -/
def sa_nt (a fa : List Int32) (w : Int32) : Nat → List Int32 × List Int32
  | 0 => (a, fa)
  | k + 1 => if (w >>> nI k) &&& nI 1 = nI 1 then ((sa_nt a fa w k).1.set (14 + k) (sa_held (pv (sa_nt a fa w k).1 (14 + k) + pv (sa_nt a fa w k).1 0)), (sa_nt a fa w k).2.set k (pv (sa_nt a fa w k).2 k + pv (sa_nt a fa w k).1 0)) else sa_nt a fa w k
theorem sa_nt_len (a fa : List Int32) (w : Int32) (k : Nat) : (sa_nt a fa w k).1.length = a.length ∧ (sa_nt a fa w k).2.length = fa.length := by
  induction k with
  | zero => exact ⟨rfl, rfl⟩
  | succ k ih => unfold sa_nt; split <;> simp [ih]
theorem sa_nt_low (a fa : List Int32) (w : Int32) (k j : Nat) (hj : j < 14) : pv (sa_nt a fa w k).1 j = pv a j := by
  induction k with
  | zero => rfl
  | succ k ih =>
    unfold sa_nt
    split
    · show pv (List.set _ _ _) j = _
      rw [pv_ne (by omega)]; exact ih
    · exact ih
def sa_night (a fa : List Int32) (k : Nat) : List Int32 := ((((sa_nt a fa (pv a 11) k).1.set 12 (pv a 11)).set 11 (nI 0)).set 13 (nI 0)).set 10 (pv a 10 + nI 1)
def sa_nightF (a fa : List Int32) (k : Nat) : List Int32 := (sa_nt a fa (pv a 11) k).2
theorem po_snows {k : Nat} (hsd : sd.length = 124) (hfa : fa.length = 8) (hk : k ≤ 8) (h2 : pv sd 2 = nI k) (hN : 8 < N) : mm_M_snows N (some 118) (pm_M n f mi dx tp sg lg cl cs rd op sk wd sd th fa ws kp li pr hb fi st im jf jx mk) = some (pv sd 11, (pm_M n f mi dx tp sg lg cl cs rd op sk wd (sa_night sd fa k) th (sa_nightF sd fa k) ws kp li pr hb fi st im jf jx mk)) := by
  unfold mm_M_snows
  have e : ss_lp (mm_M_snows_b10 N (some 118) (pv sd 11)) N (nI 0, (pm_M n f mi dx tp sg lg cl cs rd op sk wd sd th fa ws kp li pr hb fi st im jf jx mk)) = some (pm_M n f mi dx tp sg lg cl cs rd op sk wd ((sa_nt sd fa (pv sd 11) k).1) th ((sa_nt sd fa (pv sd 11) k).2) ws kp li pr hb fi st im jf jx mk) := by
    refine pb_lp (fun i => (nI i, (pm_M n f mi dx tp sg lg cl cs rd op sk wd ((sa_nt sd fa (pv sd 11) i).1) th ((sa_nt sd fa (pv sd 11) i).2) ws kp li pr hb fi st im jf jx mk))) k (by omega) (fun i hi => ?_) ?_
    · unfold mm_M_snows_b10 mm_M_snows_j74
      have h3 : ¬ nI k ≤ nI i := nI_ge hi (by omega)
      have hl := sa_nt_len sd fa (pv sd 11) i
      have h4 : pv (sa_nt sd fa (pv sd 11) i).1 2 = nI k := (sa_nt_low sd fa _ i 2 (by omega)).trans h2
      simp (disch := ((try simp only [List.length_set]); omega)) only [pb_its, pb_lit, nI_add, pb_mul, if_true, if_false, Option.bind_some, pb_b2, pb_bz0, pb_bz1, pb_10, pb_01, pb_i31, List.length_set, pn_is, pn_gi, pn_pi, pn_gl, pn_pl, pn_g0, pn_g1, pn_g2, pn_g3, pn_g4, pn_g5, pn_g6, pn_g7, pn_g8, pn_g9, pn_g10, pn_g11, pn_g12, pn_g13, pn_g14, pn_g15, pn_g16, pn_g17, pn_g18, pn_g19, pn_g20, pn_g21, pn_g22, pn_a0, pn_a1, pn_a2, pn_a3, pn_a4, pn_a5, pn_a6, pn_a7, pn_a8, pn_a9, pn_a10, pn_a11, pn_a12, pn_a13, pn_a14, pn_a15, pn_a16, pn_a17, pn_a18, pn_a19, pn_a20, pn_a21, pn_a22, pn_u0, pn_u1, pn_u2, pn_u3, pn_u4, pn_u5, pn_u6, pn_u7, pn_u8, pn_u9, pn_u10, pn_u11, pn_u12, pn_u13, pn_u14, pn_u15, pn_u16, pn_u17, pn_u18, pn_u19, pn_u20, pn_u21, pn_u22, h4, h3, po_isOf (show i < 32 by omega)]
      by_cases c : (pv sd 11 >>> nI i) &&& nI 1 = nI 1
      · simp (disch := ((try simp only [List.length_set]); omega)) only [pb_its, pb_lit, nI_add, pb_mul, if_true, if_false, Option.bind_some, pb_b2, pb_bz0, pb_bz1, pb_10, pb_01, pb_i31, List.length_set, pn_is, pn_gi, pn_pi, pn_gl, pn_pl, pn_g0, pn_g1, pn_g2, pn_g3, pn_g4, pn_g5, pn_g6, pn_g7, pn_g8, pn_g9, pn_g10, pn_g11, pn_g12, pn_g13, pn_g14, pn_g15, pn_g16, pn_g17, pn_g18, pn_g19, pn_g20, pn_g21, pn_g22, pn_a0, pn_a1, pn_a2, pn_a3, pn_a4, pn_a5, pn_a6, pn_a7, pn_a8, pn_a9, pn_a10, pn_a11, pn_a12, pn_a13, pn_a14, pn_a15, pn_a16, pn_a17, pn_a18, pn_a19, pn_a20, pn_a21, pn_a22, pn_u0, pn_u1, pn_u2, pn_u3, pn_u4, pn_u5, pn_u6, pn_u7, pn_u8, pn_u9, pn_u10, pn_u11, pn_u12, pn_u13, pn_u14, pn_u15, pn_u16, pn_u17, pn_u18, pn_u19, pn_u20, pn_u21, pn_u22, c, po_held]
        rw [sa_nt, if_pos c]
      · simp (disch := ((try simp only [List.length_set]); omega)) only [pb_its, pb_lit, nI_add, pb_mul, if_true, if_false, Option.bind_some, pb_b2, pb_bz0, pb_bz1, pb_10, pb_01, pb_i31, List.length_set, pn_is, pn_gi, pn_pi, pn_gl, pn_pl, pn_g0, pn_g1, pn_g2, pn_g3, pn_g4, pn_g5, pn_g6, pn_g7, pn_g8, pn_g9, pn_g10, pn_g11, pn_g12, pn_g13, pn_g14, pn_g15, pn_g16, pn_g17, pn_g18, pn_g19, pn_g20, pn_g21, pn_g22, pn_a0, pn_a1, pn_a2, pn_a3, pn_a4, pn_a5, pn_a6, pn_a7, pn_a8, pn_a9, pn_a10, pn_a11, pn_a12, pn_a13, pn_a14, pn_a15, pn_a16, pn_a17, pn_a18, pn_a19, pn_a20, pn_a21, pn_a22, pn_u0, pn_u1, pn_u2, pn_u3, pn_u4, pn_u5, pn_u6, pn_u7, pn_u8, pn_u9, pn_u10, pn_u11, pn_u12, pn_u13, pn_u14, pn_u15, pn_u16, pn_u17, pn_u18, pn_u19, pn_u20, pn_u21, pn_u22, c]
        rw [sa_nt, if_neg c]
    · unfold mm_M_snows_b10
      have hl := sa_nt_len sd fa (pv sd 11) k
      have h4 : pv (sa_nt sd fa (pv sd 11) k).1 2 = nI k := (sa_nt_low sd fa _ k 2 (by omega)).trans h2
      simp (disch := ((try simp only [List.length_set]); omega)) only [pb_its, pb_lit, nI_add, pb_mul, if_true, if_false, Option.bind_some, pb_b2, pb_bz0, pb_bz1, pb_10, pb_01, pb_i31, List.length_set, pn_is, pn_gi, pn_pi, pn_gl, pn_pl, pn_g0, pn_g1, pn_g2, pn_g3, pn_g4, pn_g5, pn_g6, pn_g7, pn_g8, pn_g9, pn_g10, pn_g11, pn_g12, pn_g13, pn_g14, pn_g15, pn_g16, pn_g17, pn_g18, pn_g19, pn_g20, pn_g21, pn_g22, pn_a0, pn_a1, pn_a2, pn_a3, pn_a4, pn_a5, pn_a6, pn_a7, pn_a8, pn_a9, pn_a10, pn_a11, pn_a12, pn_a13, pn_a14, pn_a15, pn_a16, pn_a17, pn_a18, pn_a19, pn_a20, pn_a21, pn_a22, pn_u0, pn_u1, pn_u2, pn_u3, pn_u4, pn_u5, pn_u6, pn_u7, pn_u8, pn_u9, pn_u10, pn_u11, pn_u12, pn_u13, pn_u14, pn_u15, pn_u16, pn_u17, pn_u18, pn_u19, pn_u20, pn_u21, pn_u22, h4, nI_le (Nat.le_refl k) (by omega : k < 2 ^ 31)]
  have hl := sa_nt_len sd fa (pv sd 11) k
  simp (disch := ((try simp only [List.length_set]); omega)) only [pb_its, pb_lit, nI_add, pb_mul, if_true, if_false, Option.bind_some, pb_b2, pb_bz0, pb_bz1, pb_10, pb_01, pb_i31, List.length_set, pn_is, pn_gi, pn_pi, pn_gl, pn_pl, pn_g0, pn_g1, pn_g2, pn_g3, pn_g4, pn_g5, pn_g6, pn_g7, pn_g8, pn_g9, pn_g10, pn_g11, pn_g12, pn_g13, pn_g14, pn_g15, pn_g16, pn_g17, pn_g18, pn_g19, pn_g20, pn_g21, pn_g22, pn_a0, pn_a1, pn_a2, pn_a3, pn_a4, pn_a5, pn_a6, pn_a7, pn_a8, pn_a9, pn_a10, pn_a11, pn_a12, pn_a13, pn_a14, pn_a15, pn_a16, pn_a17, pn_a18, pn_a19, pn_a20, pn_a21, pn_a22, pn_u0, pn_u1, pn_u2, pn_u3, pn_u4, pn_u5, pn_u6, pn_u7, pn_u8, pn_u9, pn_u10, pn_u11, pn_u12, pn_u13, pn_u14, pn_u15, pn_u16, pn_u17, pn_u18, pn_u19, pn_u20, pn_u21, pn_u22, e]
  rw [pv_ne (by omega), pv_ne (by omega), pv_ne (by omega), sa_nt_low _ _ _ _ _ (by omega)]
  rfl
end PO
