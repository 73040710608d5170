/-! ===== numbers ===== -/
def dv (T : List Nat) (q : Nat) : Nat → Nat
  | 0 => 0
  | k + 1 => 10 * dv T q k + (T.getD (q + k) 0 - 48)
theorem dv_lt {T : List Nat} {q : Nat} : ∀ k, (∀ i, i < k → T.getD (q + i) 0 ≤ 57) → dv T q k < 10 ^ k := by
  intro k
  induction k with
  | zero => intro _; show 0 < 1; omega
  | succ k ih =>
    intro h
    have h1 := ih (fun i hi => h i (by omega))
    have h2 := h k (by omega)
    show 10 * dv T q k + (T.getD (q + k) 0 - 48) < _
    rw [Nat.pow_succ]
    omega
theorem dv_5 {T : List Nat} {q k : Nat} (hk : k ≤ 5) (h : ∀ i, i < k → T.getD (q + i) 0 ≤ 57) : dv T q k < 100000 := by
  have h1 := dv_lt k h
  have h2 : 10 ^ k ≤ 10 ^ 5 := Nat.pow_le_pow_right (by omega) hk
  omega
def eD (T : List Nat) (q : Nat) : Nat := sc (isD T) T.length q
theorem eD_le {T : List Nat} {q : Nat} : q ≤ eD T q := sc_le
theorem eD_ub {T : List Nat} {q : Nat} (h : q ≤ T.length) : eD T q ≤ T.length := sc_ub h
theorem eD_dig {T : List Nat} {q i : Nat} (h : i < eD T q - q) : 48 ≤ T.getD (q + i) 0 ∧ T.getD (q + i) 0 ≤ 57 := of_decide_eq_true (sc_in (P := isD T) (L := T.length) (p := q) (by omega) (show q + i < eD T q by omega))
def nv (T : List Nat) (q : Nat) : Nat := dv T q (eD T q - q)
theorem dv_st {T : List Nat} {q k : Nat} (h : 48 ≤ T.getD (q + k) 0) : nI 10 * nI (dv T q k) + nI (T.getD (q + k) 0) - nI 48 = nI (dv T q (k + 1)) := by
  rw [pb_mul, nI_add, pb_subn (by omega)]
  show nI _ = nI (10 * dv T q k + (T.getD (q + k) 0 - 48))
  rw [show 10 * dv T q k + T.getD (q + k) 0 - 48 = 10 * dv T q k + (T.getD (q + k) 0 - 48) by omega]
theorem isL_D {T : List Nat} {q : Nat} (h : isD T q = true) : isL T q = false := by
  have h := of_decide_eq_true h
  exact decide_eq_false (fun x => by omega)
section NQ
variable {h : ss_Hp} {a b c d e : Int32} {N : Nat}
noncomputable def fl (h : ss_Hp) (T : List Nat) (p w : Nat) : ss_Hp := tH h (nI T.length) (nI (1 + 8 * blk T p + w)) (nI (tk T (blk T p))) (nI (blk T p)) (nI (en T (blk T p)))
theorem T_fail {w q : Nat} : mm_T_fail N (some 1) (nI w) (tH h a (nI 0) c (nI q) e) = some (tH h a (nI (1 + 8 * q + w)) c (nI q) e) := by
  unfold mm_T_fail mm_T_fail_j22
  simp only [pb_l2, pb_ll, nI_add, pb_mul, if_true, if_false, pb_bs, pb_b2n, pb_bz0, pb_bz1, pb_10, pb_01, tH_is, tH_g0, tH_g1, tH_g2, tH_g3, tH_g4, tH_p0, tH_p1, tH_p2, tH_p3, tH_p4, tH_r]
theorem T_failx {w : Nat} {T : List Nat} {p : Nat} : mm_T_fail N (some 1) (nI w) (lx h T (nI 0) p) = some (fl h T p w) := T_fail
theorem T_well1 : mm_T_isWell N (some 1) (tH h a (nI 0) c d e) = some (nI 1) := by
  unfold mm_T_isWell mm_T_isWell_j12
  simp only [pb_l2, pb_ll, nI_add, pb_mul, if_true, if_false, pb_bs, pb_b2n, pb_bz0, pb_bz1, pb_10, pb_01, tH_is, tH_g0, tH_g1, tH_g2, tH_g3, tH_g4, tH_p0, tH_p1, tH_p2, tH_p3, tH_p4, tH_r]
theorem T_well0 {k : Nat} (hk : k < 2147483647) : mm_T_isWell N (some 1) (tH h a (nI (1 + k)) c d e) = some (nI 0) := by
  unfold mm_T_isWell mm_T_isWell_j12
  have c0 : (nI (1 + k) = nI 0) = False := pb_nn (by omega) (by omega) (by omega)
  simp only [pb_l2, pb_ll, nI_add, pb_mul, if_true, if_false, pb_bs, pb_b2n, pb_bz0, pb_bz1, pb_10, pb_01, tH_is, tH_g0, tH_g1, tH_g2, tH_g3, tH_g4, tH_p0, tH_p1, tH_p2, tH_p3, tH_p4, tH_r, c0]
theorem T_wellx {T : List Nat} {p : Nat} : mm_T_isWell N (some 1) (lx h T (nI 0) p) = some (nI 1) := T_well1
theorem T_wellf {T : List Nat} {p w : Nat} (hp : p ≤ T.length) (hT : T.length ≤ 400) (hw : w < 8) : mm_T_isWell N (some 1) (fl h T p w) = some (nI 0) := by
  have := blk_ub hp
  unfold fl
  rw [show 1 + 8 * blk T p + w = 1 + (8 * blk T p + w) by omega]
  exact T_well0 (by omega)
theorem T_word {J : Nat} {Ws : List (List Nat)} {T : List Nat} {F : Int32} {p : Nat} (ht : tz h T) (hw : wok J Ws) (hp : p ≤ T.length) (hN : 500 < N) : ∃ r, mm_T_wordIn N (some 1) J (lx h T F p) = some r ∧ (r = -nI 1 ∧ (∀ k, k < Ws.length → ¬ wis T (blk T p) (Ws.getD k [])) ∨ ∃ k, k < Ws.length ∧ r = nI k ∧ wis T (blk T p) (Ws.getD k []) ∧ ∀ k', k' < k → ¬ wis T (blk T p) (Ws.getD k' [])) := by
  unfold lx
  generalize hq : blk T p = q
  have hu : q ≤ T.length := by rw [← hq]; exact blk_ub hp
  by_cases c1 : q < T.length ∧ isL T q = true
  · have e1 : tk T q = 1 := by unfold tk; rw [if_pos c1.1, if_pos c1.2]
    have e2 : en T q = eL T q := by unfold en eL; rw [if_pos c1.1, if_pos c1.2, sc_t c1.1 c1.2]
    rw [e1, e2]
    exact T_wordIn ht hw c1.1 hN
  · refine ⟨-nI 1, T_wordN hw.1 ?_ hN, Or.inl ⟨rfl, fun k hk x => ?_⟩⟩
    · unfold tk
      by_cases c2 : q < T.length
      · rw [if_pos c2, if_neg (fun x => c1 ⟨c2, x⟩)]
        split
        · exact pb_nn (by omega) (by omega) (by omega)
        · exact pb_nn (by omega) (by omega) (by omega)
      · rw [if_neg c2]
        exact pb_nn (by omega) (by omega) (by omega)
    · have e1 : eL T q = q := sc_f (fun x => by
        cases y : isL T q with
        | false => rfl
        | true => exact absurd ⟨x, y⟩ c1)
      have := x.1
      have := (hw.2.2.2.2.2.2 k hk).1
      omega
theorem T_digits {T : List Nat} {q : Nat} (ht : tz h T) (hq : q ≤ T.length) (hN : 500 < N) : mm_T_digits N (some 1) (tH h a b c (nI q) (nI (eD T q))) = some (if eD T q - q ≤ 5 then nI (nv T q) else -nI 1) := by
  have hl := ht.1
  have hu := eD_ub hq
  have hle := eD_le (T := T) (q := q)
  unfold mm_T_digits
  by_cases c5 : eD T q - q ≤ 5
  · have d5 : (nI (eD T q - q) ≤ nI 5) = True := eq_true (nI_le c5 (by omega))
    have key : ss_lp (mm_T_digits_b22 N (some 1) (tH h a b c (nI q) (nI (eD T q)))) N (nI 0, nI q) = some (nI (nv T q)) := by
      refine pb_lp (fun i => (nI (dv T q i), nI (q + i))) (eD T q - q) (by omega) (fun i hi => ?_) ?_
      · have c0 : (nI (eD T q) ≤ nI (q + i)) = False := eq_false (nI_ge (by omega) (by omega))
        have hd := eD_dig hi
        unfold mm_T_digits_b22
        simp only [pb_l2, if_true, if_false, pb_bs, tH_is, tH_g0, tH_g1, tH_g2, tH_g3, tH_g4, tH_p0, tH_p1, tH_p2, tH_p3, tH_p4, tH_r, c0, tz_ai ht (show q + i < T.length by omega), dv_st hd.1]
        rw [nI_add, Nat.add_assoc]
      · have c0 : (nI (eD T q) ≤ nI (q + (eD T q - q))) = True := eq_true (nI_le (by omega) (by omega))
        unfold mm_T_digits_b22 nv
        simp only [pb_l2, pb_ll, nI_add, pb_mul, if_true, if_false, pb_bs, pb_b2n, pb_bz0, pb_bz1, pb_10, pb_01, tH_is, tH_g0, tH_g1, tH_g2, tH_g3, tH_g4, tH_p0, tH_p1, tH_p2, tH_p3, tH_p4, tH_r, c0]
    simp only [pb_l2, pb_ll, nI_add, pb_mul, if_true, if_false, pb_bs, pb_b2n, pb_bz0, pb_bz1, pb_10, pb_01, tH_is, tH_g0, tH_g1, tH_g2, tH_g3, tH_g4, tH_p0, tH_p1, tH_p2, tH_p3, tH_p4, tH_r, pb_subn hle, d5, key, if_pos c5]
  · have d5 : (nI (eD T q - q) ≤ nI 5) = False := eq_false (nI_ge (by omega) (by omega))
    simp only [pb_l2, pb_ll, nI_add, pb_mul, if_true, if_false, pb_bs, pb_b2n, pb_bz0, pb_bz1, pb_10, pb_01, tH_is, tH_g0, tH_g1, tH_g2, tH_g3, tH_g4, tH_p0, tH_p1, tH_p2, tH_p3, tH_p4, tH_r, pb_subn hle, d5, if_neg c5]
theorem T_num0 {T : List Nat} {p : Nat} {x y z : Int32} (hd : ¬ (blk T p < T.length ∧ isD T (blk T p) = true)) : mm_T_number N (some 1) x y z (lx h T (nI 0) p) = some (-nI 1, fl h T p 0) := by
  have e1 : (nI (tk T (blk T p)) = nI 2) = False := by
    unfold tk
    by_cases c2 : blk T p < T.length
    · rw [if_pos c2]
      split
      · exact pb_nn (by omega) (by omega) (by omega)
      · rw [if_neg (fun x => hd ⟨c2, x⟩)]
        exact pb_nn (by omega) (by omega) (by omega)
    · rw [if_neg c2]
      exact pb_nn (by omega) (by omega) (by omega)
  have e2 := T_failx (h := h) (N := N) (w := 0) (T := T) (p := p)
  unfold lx at e2
  unfold mm_T_number mm_T_isDigits mm_T_isDigits_j13 lx
  simp only [pb_l2, pb_ll, nI_add, pb_mul, if_true, if_false, pb_bs, pb_b2n, pb_bz0, pb_bz1, pb_10, pb_01, tH_is, tH_g0, tH_g1, tH_g2, tH_g3, tH_g4, tH_p0, tH_p1, tH_p2, tH_p3, tH_p4, tH_r, e1, e2]
theorem num_lx {T : List Nat} {p : Nat} {F : Int32} (c1 : blk T p < T.length) (c2 : isD T (blk T p) = true) : lx h T F p = tH h (nI T.length) F (nI 2) (nI (blk T p)) (nI (eD T (blk T p))) := by
  unfold lx tk en eD
  rw [if_pos c1, isL_D c2, if_neg Bool.false_ne_true, if_pos c2, if_pos c1, if_neg Bool.false_ne_true, if_pos c2, sc_t c1 c2]
def nok (T : List Nat) (q : Nat) (x y z : Int32) : Prop := eD T q - q ≤ 5 ∧ ¬ nI (nv T q) < x ∧ ¬ y < nI (nv T q) ∧ ¬ nI (nv T q) = z
theorem nv_lt {T : List Nat} {q : Nat} (h : eD T q - q ≤ 5) : nv T q < 100000 := dv_5 h (fun i hi => (eD_dig hi).2)
theorem nv_ne {T : List Nat} {q : Nat} (h : eD T q - q ≤ 5) : (nI (nv T q) = -nI 1) = False := eq_false (fun e => by
  have e2 : (-nI 1).toInt = -1 := by decide
  have := nv_lt h
  have e := congrArg Int32.toInt e
  rw [e2, nI_toInt (by omega)] at e
  omega)
theorem T_num1 {T : List Nat} {p : Nat} {x y z : Int32} (ht : tz h T) (hp : p ≤ T.length) (hN : 500 < N) (c1 : blk T p < T.length) (c2 : isD T (blk T p) = true) (hb : ¬ nok T (blk T p) x y z) : mm_T_number N (some 1) x y z (lx h T (nI 0) p) = some (-nI 1, fl h T p 1) := by
  have e2 := T_failx (h := h) (N := N) (w := 1) (T := T) (p := p)
  rw [num_lx c1 c2] at e2 ⊢
  have e3 := T_digits (a := nI T.length) (b := nI 0) (c := nI 2) ht (blk_ub hp) hN
  unfold mm_T_number mm_T_number_j44 mm_T_isDigits mm_T_isDigits_j13
  by_cases c5 : eD T (blk T p) - blk T p ≤ 5
  · rw [if_pos c5] at e3
    have hn := nv_ne c5
    by_cases c6 : nI (nv T (blk T p)) < x
    · simp only [pb_l2, pb_ll, nI_add, pb_mul, if_true, if_false, pb_bs, pb_b2n, pb_bz0, pb_bz1, pb_10, pb_01, tH_is, tH_g0, tH_g1, tH_g2, tH_g3, tH_g4, tH_p0, tH_p1, tH_p2, tH_p3, tH_p4, tH_r, e3, hn, eq_true c6, e2]
    · by_cases c7 : y < nI (nv T (blk T p))
      · simp only [pb_l2, pb_ll, nI_add, pb_mul, if_true, if_false, pb_bs, pb_b2n, pb_bz0, pb_bz1, pb_10, pb_01, tH_is, tH_g0, tH_g1, tH_g2, tH_g3, tH_g4, tH_p0, tH_p1, tH_p2, tH_p3, tH_p4, tH_r, e3, hn, eq_false c6, eq_true c7, e2]
      · have c8 : nI (nv T (blk T p)) = z := Classical.not_not.mp (fun w => hb ⟨c5, c6, c7, w⟩)
        simp only [pb_l2, pb_ll, nI_add, pb_mul, if_true, if_false, pb_bs, pb_b2n, pb_bz0, pb_bz1, pb_10, pb_01, tH_is, tH_g0, tH_g1, tH_g2, tH_g3, tH_g4, tH_p0, tH_p1, tH_p2, tH_p3, tH_p4, tH_r, e3, hn, eq_false c6, eq_false c7, eq_true c8, e2]
  · rw [if_neg c5] at e3
    simp only [pb_l2, pb_ll, nI_add, pb_mul, if_true, if_false, pb_bs, pb_b2n, pb_bz0, pb_bz1, pb_10, pb_01, tH_is, tH_g0, tH_g1, tH_g2, tH_g3, tH_g4, tH_p0, tH_p1, tH_p2, tH_p3, tH_p4, tH_r, e3, e2]
theorem T_num2 {T : List Nat} {p : Nat} {x y z : Int32} (ht : tz h T) (hp : p ≤ T.length) (hN : 500 < N) (c1 : blk T p < T.length) (c2 : isD T (blk T p) = true) (hb : nok T (blk T p) x y z) : mm_T_number N (some 1) x y z (lx h T (nI 0) p) = some (nI (nv T (blk T p)), lx h T (nI 0) (eD T (blk T p))) := by
  rw [num_lx c1 c2]
  obtain ⟨c5, c6, c7, c8⟩ := hb
  have e3 := T_digits (a := nI T.length) (b := nI 0) (c := nI 2) ht (blk_ub hp) hN
  rw [if_pos c5] at e3
  have e4 := T_advance (b := nI 0) (c := nI 2) (d := nI (blk T p)) ht (eD_ub (blk_ub hp)) hN
  unfold mm_T_number mm_T_isDigits mm_T_isDigits_j13
  simp only [pb_l2, pb_ll, nI_add, pb_mul, if_true, if_false, pb_bs, pb_b2n, pb_bz0, pb_bz1, pb_10, pb_01, tH_is, tH_g0, tH_g1, tH_g2, tH_g3, tH_g4, tH_p0, tH_p1, tH_p2, tH_p3, tH_p4, tH_r, e3, nv_ne c5, eq_false c6, eq_false c7, eq_false c8, e4]
end NQ
section NM
variable {n : Nat} {f : Nat → ss_Cl} {m0 m1 m2 m3 m4 m5 m6 m7 m8 m9 m10 m11 m12 m13 m14 m15 : Int32} {dx : Int64} {tp : List Int32} {sg : List Int32} {lg : List Int32} {cl : List Int32} {cs : List Int32} {rd : List Int32} {op : List Int32} {sk : List Int64} {wd : List Int64} {sd : List Int32} {th : List Int32} {fa : List Int32} {ws : List Int32} {kp : List Int32} {li : List Int32} {pr : List Int32} {hb : List Int32} {fi : List Int32} {st : List Int32} {im : List Int32} {jf : List Int32} {jx : List Int32} {mk : List Int32} {N : Nat}
theorem i64_lt {x y : Int32} : (x.toInt64 < y.toInt64) ↔ x < y := by
  rw [Int64.lt_iff_toInt_lt, Int32.lt_iff_toInt_lt, Int32.toInt_toInt64, Int32.toInt_toInt64]
theorem M_in1 {x y z : Int32} (h1 : ¬ z < x) (h2 : ¬ y < z) : mm_M_in N z.toInt64 x.toInt64 y.toInt64 = some (nI 1) := by
  unfold mm_M_in mm_M_in_j18
  simp only [pb_l2, pb_ll, nI_add, pb_mul, if_true, if_false, pb_bs, pb_b2n, pb_bz0, pb_bz1, pb_10, pb_01, pl_lt, pl_gt, i64_lt, eq_false h1, eq_false h2]
theorem M_in0 {x y z : Int32} (h1 : z < x ∨ y < z) : mm_M_in N z.toInt64 x.toInt64 y.toInt64 = some (nI 0) := by
  unfold mm_M_in mm_M_in_j17 mm_M_in_j18
  by_cases c : z < x
  · simp only [pb_l2, pb_ll, nI_add, pb_mul, if_true, if_false, pb_bs, pb_b2n, pb_bz0, pb_bz1, pb_10, pb_01, pl_lt, pl_gt, i64_lt, eq_true c]
  · simp only [pb_l2, pb_ll, nI_add, pb_mul, if_true, if_false, pb_bs, pb_b2n, pb_bz0, pb_bz1, pb_10, pb_01, pl_lt, pl_gt, i64_lt, eq_false c, eq_true (h1.resolve_left c)]
theorem M_fail {w q : Nat} : mm_M_fails N (some 118) (nI w) (nI q) (pm_M n f (mL m0 m1 m2 (nI 0) m4 m5 m6 m7 m8 m9 m10 m11 m12 m13 m14 m15) dx tp sg lg cl cs rd op sk wd sd th fa ws kp li pr hb fi st im jf jx mk) = some (nI 0, (pm_M n f (mL m0 m1 m2 (nI (1 + 8 * q + w)) m4 m5 m6 m7 m8 m9 m10 m11 m12 m13 m14 m15) dx tp sg lg cl cs rd op sk wd sd th fa ws kp li pr hb fi st im jf jx mk)) := by
  unfold mm_M_fails mm_M_fails_j19
  simp only [pb_l2, pb_ll, nI_add, pb_mul, if_true, if_false, pb_bs, pb_b2n, pb_bz0, pb_bz1, pb_10, pb_01, pn_is, pn_g0, pn_g1, pn_g2, pn_g3, pn_g4, pn_g5, pn_g6, pn_g9, mL_g0, mL_p0, mL_g1, mL_p1, mL_g2, mL_p2, mL_g3, mL_p3, mL_g4, mL_p4, mL_g5, mL_p5, mL_g6, mL_p6, mL_g7, mL_p7, mL_g8, mL_p8, mL_g9, mL_p9, mL_g10, mL_p10, mL_g11, mL_p11, mL_g12, mL_p12, mL_g13, mL_p13, mL_g14, mL_p14, mL_g15, mL_p15]
theorem M_digs {T : List Nat} {q : Nat} {x y : Int32} (ht : mz tp T) (hq : q ≤ T.length) (hN : 500 < N) : ss_lp (mm_M_numberHere_b34 N (some 118) x y (nI q)) N (nI 0, (pm_M n f (mL (nI T.length) m1 (nI q) m3 m4 m5 m6 m7 m8 m9 m10 m11 m12 m13 m14 m15) dx tp sg lg cl cs rd op sk wd sd th fa ws kp li pr hb fi st im jf jx mk)) = some (nI (dv T q (min 5 (eD T q - q))), (pm_M n f (mL (nI T.length) m1 (nI (eD T q)) m3 m4 m5 m6 m7 m8 m9 m10 m11 m12 m13 m14 m15) dx tp sg lg cl cs rd op sk wd sd th fa ws kp li pr hb fi st im jf jx mk)) := by
  have hl := ht.1
  have key := lp_sc2 (body := mm_M_numberHere_b34 N (some 118) x y (nI q)) (P := isD T) (L := T.length) (fun r => (nI (dv T q (min 5 (r - q))), (pm_M n f (mL (nI T.length) m1 (nI r) m3 m4 m5 m6 m7 m8 m9 m10 m11 m12 m13 m14 m15) dx tp sg lg cl cs rd op sk wd sd th fa ws kp li pr hb fi st im jf jx mk))) (fun r => (nI (dv T q (min 5 (r - q))), (pm_M n f (mL (nI T.length) m1 (nI r) m3 m4 m5 m6 m7 m8 m9 m10 m11 m12 m13 m14 m15) dx tp sg lg cl cs rd op sk wd sd th fa ws kp li pr hb fi st im jf jx mk))) (p := q) (N := N) hq (fun r h1 h2 hP => ?_) (fun r h1 h2 _ hP => ?_) (by omega)
  · have e : min 5 (q - q) = 0 := by rw [Nat.sub_self]; rfl
    rw [e] at key
    exact key
  · have er : q + (r - q) = r := by omega
    have hd := of_decide_eq_true (hP r h1 (Nat.le_refl r))
    unfold mm_M_numberHere_b34 mm_M_numberHere_j75
    by_cases c : r - q < 5
    · have c0 : (nI 5 ≤ nI (r - q)) = False := eq_false (nI_ge c (by omega))
      have e1 : min 5 (r - q) = r - q := by omega
      have e2 : min 5 (r + 1 - q) = r - q + 1 := by omega
      have e3 := dv_st (T := T) (q := q) (k := r - q) (by rw [er]; exact hd.1)
      rw [er] at e3
      simp only [pb_l2, if_true, if_false, pb_bs, pb_10, pn_is, pn_g0, pn_g1, pn_g2, pn_g3, pn_g4, pn_g5, pn_g6, pn_g9, mL_g0, mL_p0, mL_g1, mL_p1, mL_g2, mL_p2, mL_g3, mL_p3, mL_g4, mL_p4, mL_g5, mL_p5, mL_g6, mL_p6, mL_g7, mL_p7, mL_g8, mL_p8, mL_g9, mL_p9, mL_g10, mL_p10, mL_g11, mL_p11, mL_g12, mL_p12, mL_g13, mL_p13, mL_g14, mL_p14, mL_g15, mL_p15, M_dig1 ht h2 (hP r h1 (Nat.le_refl r)), pb_subn h1, c0, mz_ai ht h2, mb_nn (show T.getD r 0 < 128 by omega), e1, e2, e3]
      rw [nI_add]
    · have c0 : (nI 5 ≤ nI (r - q)) = True := eq_true (nI_le (by omega) (by omega))
      have e1 : min 5 (r - q) = 5 := by omega
      have e2 : min 5 (r + 1 - q) = 5 := by omega
      simp only [pb_l2, pb_ll, nI_add, pb_mul, if_true, if_false, pb_bs, pb_b2n, pb_bz0, pb_bz1, pb_10, pb_01, pn_is, pn_g0, pn_g1, pn_g2, pn_g3, pn_g4, pn_g5, pn_g6, pn_g9, mL_g0, mL_p0, mL_g1, mL_p1, mL_g2, mL_p2, mL_g3, mL_p3, mL_g4, mL_p4, mL_g5, mL_p5, mL_g6, mL_p6, mL_g7, mL_p7, mL_g8, mL_p8, mL_g9, mL_p9, mL_g10, mL_p10, mL_g11, mL_p11, mL_g12, mL_p12, mL_g13, mL_p13, mL_g14, mL_p14, mL_g15, mL_p15, M_dig1 ht h2 (hP r h1 (Nat.le_refl r)), pb_subn h1, c0, e1, e2]
  · unfold mm_M_numberHere_b34
    simp only [pb_l2, pb_ll, nI_add, pb_mul, if_true, if_false, pb_bs, pb_b2n, pb_bz0, pb_bz1, pb_10, pb_01, pn_is, pn_g0, pn_g1, pn_g2, pn_g3, pn_g4, pn_g5, pn_g6, pn_g9, mL_g0, mL_p0, mL_g1, mL_p1, mL_g2, mL_p2, mL_g3, mL_p3, mL_g4, mL_p4, mL_g5, mL_p5, mL_g6, mL_p6, mL_g7, mL_p7, mL_g8, mL_p8, mL_g9, mL_p9, mL_g10, mL_p10, mL_g11, mL_p11, mL_g12, mL_p12, mL_g13, mL_p13, mL_g14, mL_p14, mL_g15, mL_p15, M_dig0 ht (show r < 2147483648 by omega) hP]
theorem M_num0 {T : List Nat} {p : Nat} {x y : Int32} (ht : mz tp T) (hp : p ≤ T.length) (hN : 500 < N) (hd : ¬ (blk T p < T.length ∧ isD T (blk T p) = true)) : mm_M_numberHere N (some 118) x y (pm_M n f (mL (nI T.length) m1 (nI p) (nI 0) m4 m5 m6 m7 m8 m9 m10 m11 m12 m13 m14 m15) dx tp sg lg cl cs rd op sk wd sd th fa ws kp li pr hb fi st im jf jx mk) = some (nI 0, (pm_M n f (mL (nI T.length) m1 (nI (blk T p)) (nI (1 + 8 * blk T p + 0)) m4 m5 m6 m7 m8 m9 m10 m11 m12 m13 m14 m15) dx tp sg lg cl cs rd op sk wd sd th fa ws kp li pr hb fi st im jf jx mk)) := by
  have hl := ht.1
  have hu := blk_ub hp
  have d0 : blk T p < T.length → isD T (blk T p) = false := fun x => by
    cases y : isD T (blk T p) with
    | false => rfl
    | true => exact absurd ⟨x, y⟩ hd
  unfold mm_M_numberHere
  simp only [pb_l2, pb_ll, nI_add, pb_mul, if_true, if_false, pb_bs, pb_b2n, pb_bz0, pb_bz1, pb_10, pb_01, pn_is, pn_g0, pn_g1, pn_g2, pn_g3, pn_g4, pn_g5, pn_g6, pn_g9, mL_g0, mL_p0, mL_g1, mL_p1, mL_g2, mL_p2, mL_g3, mL_p3, mL_g4, mL_p4, mL_g5, mL_p5, mL_g6, mL_p6, mL_g7, mL_p7, mL_g8, mL_p8, mL_g9, mL_p9, mL_g10, mL_p10, mL_g11, mL_p11, mL_g12, mL_p12, mL_g13, mL_p13, mL_g14, mL_p14, mL_g15, mL_p15, M_see ht hp hN, M_dig0 ht (show blk T p < 2147483648 by omega) d0, M_fail]
theorem M_num1 {T : List Nat} {p : Nat} {x y : Int32} (ht : mz tp T) (hp : p ≤ T.length) (hN : 500 < N) (c1 : blk T p < T.length) (c2 : isD T (blk T p) = true) (hbd : ¬ (eD T (blk T p) - blk T p ≤ 5 ∧ ¬ nI (nv T (blk T p)) < x ∧ ¬ y < nI (nv T (blk T p)))) : ∃ w, mm_M_numberHere N (some 118) x y (pm_M n f (mL (nI T.length) m1 (nI p) (nI 0) m4 m5 m6 m7 m8 m9 m10 m11 m12 m13 m14 m15) dx tp sg lg cl cs rd op sk wd sd th fa ws kp li pr hb fi st im jf jx mk) = some (nI 0, (pm_M n f (mL (nI T.length) m1 (nI (eD T (blk T p))) (nI (1 + 8 * blk T p + 1)) w m5 m6 m7 m8 m9 m10 m11 m12 m13 m14 m15) dx tp sg lg cl cs rd op sk wd sd th fa ws kp li pr hb fi st im jf jx mk)) := by
  have hl := ht.1
  have hu := blk_ub hp
  have hu2 := eD_ub hu
  have hle := eD_le (T := T) (q := blk T p)
  refine ⟨nI (dv T (blk T p) (min 5 (eD T (blk T p) - blk T p))), ?_⟩
  unfold mm_M_numberHere mm_M_numberHere_j117 mm_M_numberHere_j126 mm_M_numberHere_j131
  by_cases c5 : eD T (blk T p) - blk T p ≤ 5
  · have d5 : (nI 5 < nI (eD T (blk T p) - blk T p)) = False := eq_false (nI_nlt c5 (by omega))
    have e5 : min 5 (eD T (blk T p) - blk T p) = eD T (blk T p) - blk T p := by omega
    have hin : nI (nv T (blk T p)) < x ∨ y < nI (nv T (blk T p)) := by
      rcases Classical.em (nI (nv T (blk T p)) < x) with w | w
      · exact Or.inl w
      · exact Or.inr (Classical.not_not.mp (fun u => hbd ⟨c5, w, u⟩))
    have e6 : dv T (blk T p) (eD T (blk T p) - blk T p) = nv T (blk T p) := rfl
    simp only [pb_l2, pb_ll, nI_add, pb_mul, if_true, if_false, pb_bs, pb_b2n, pb_bz0, pb_bz1, pb_10, pb_01, pn_is, pn_g0, pn_g1, pn_g2, pn_g3, pn_g4, pn_g5, pn_g6, pn_g9, mL_g0, mL_p0, mL_g1, mL_p1, mL_g2, mL_p2, mL_g3, mL_p3, mL_g4, mL_p4, mL_g5, mL_p5, mL_g6, mL_p6, mL_g7, mL_p7, mL_g8, mL_p8, mL_g9, mL_p9, mL_g10, mL_p10, mL_g11, mL_p11, mL_g12, mL_p12, mL_g13, mL_p13, mL_g14, mL_p14, mL_g15, mL_p15, M_see ht hp hN, M_dig1 ht c1 c2, M_digs ht hu hN, pb_subn hle, d5, e5, e6, M_in0 hin, M_fail]
  · have d5 : (nI 5 < nI (eD T (blk T p) - blk T p)) = True := eq_true (nI_lt (by omega) (by omega))
    simp only [pb_l2, pb_ll, nI_add, pb_mul, if_true, if_false, pb_bs, pb_b2n, pb_bz0, pb_bz1, pb_10, pb_01, pn_is, pn_g0, pn_g1, pn_g2, pn_g3, pn_g4, pn_g5, pn_g6, pn_g9, mL_g0, mL_p0, mL_g1, mL_p1, mL_g2, mL_p2, mL_g3, mL_p3, mL_g4, mL_p4, mL_g5, mL_p5, mL_g6, mL_p6, mL_g7, mL_p7, mL_g8, mL_p8, mL_g9, mL_p9, mL_g10, mL_p10, mL_g11, mL_p11, mL_g12, mL_p12, mL_g13, mL_p13, mL_g14, mL_p14, mL_g15, mL_p15, M_see ht hp hN, M_dig1 ht c1 c2, M_digs ht hu hN, pb_subn hle, d5, M_fail]
theorem M_num2 {T : List Nat} {p : Nat} {x y : Int32} (ht : mz tp T) (hp : p ≤ T.length) (hN : 500 < N) (c1 : blk T p < T.length) (c2 : isD T (blk T p) = true) (hbd : eD T (blk T p) - blk T p ≤ 5 ∧ ¬ nI (nv T (blk T p)) < x ∧ ¬ y < nI (nv T (blk T p))) : mm_M_numberHere N (some 118) x y (pm_M n f (mL (nI T.length) m1 (nI p) m3 m4 m5 m6 m7 m8 m9 m10 m11 m12 m13 m14 m15) dx tp sg lg cl cs rd op sk wd sd th fa ws kp li pr hb fi st im jf jx mk) = some (nI 1, (pm_M n f (mL (nI T.length) m1 (nI (eD T (blk T p))) m3 (nI (nv T (blk T p))) m5 m6 m7 m8 m9 m10 m11 m12 m13 m14 m15) dx tp sg lg cl cs rd op sk wd sd th fa ws kp li pr hb fi st im jf jx mk)) := by
  have hl := ht.1
  have hu := blk_ub hp
  have hu2 := eD_ub hu
  have hle := eD_le (T := T) (q := blk T p)
  unfold mm_M_numberHere mm_M_numberHere_j126 mm_M_numberHere_j131
  have d5 : (nI 5 < nI (eD T (blk T p) - blk T p)) = False := eq_false (nI_nlt hbd.1 (by omega))
  have e5 : min 5 (eD T (blk T p) - blk T p) = eD T (blk T p) - blk T p := by omega
  have e6 : dv T (blk T p) (eD T (blk T p) - blk T p) = nv T (blk T p) := rfl
  simp only [pb_l2, pb_ll, nI_add, pb_mul, if_true, if_false, pb_bs, pb_b2n, pb_bz0, pb_bz1, pb_10, pb_01, pn_is, pn_g0, pn_g1, pn_g2, pn_g3, pn_g4, pn_g5, pn_g6, pn_g9, mL_g0, mL_p0, mL_g1, mL_p1, mL_g2, mL_p2, mL_g3, mL_p3, mL_g4, mL_p4, mL_g5, mL_p5, mL_g6, mL_p6, mL_g7, mL_p7, mL_g8, mL_p8, mL_g9, mL_p9, mL_g10, mL_p10, mL_g11, mL_p11, mL_g12, mL_p12, mL_g13, mL_p13, mL_g14, mL_p14, mL_g15, mL_p15, M_see ht hp hN, M_dig1 ht c1 c2, M_digs ht hu hN, pb_subn hle, d5, e5, e6, M_in1 hbd.2.1 hbd.2.2]
end NM
