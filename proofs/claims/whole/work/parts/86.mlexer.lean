/-! ===== the model reads the tape ===== -/
def mL (m0 m1 m2 m3 m4 m5 m6 m7 m8 m9 m10 m11 m12 m13 m14 m15 : Int32) : List Int32 := [m0, m1, m2, m3, m4, m5, m6, m7, m8, m9, m10, m11, m12, m13, m14, m15]
def mz (tp : List Int32) (T : List Nat) : Prop := T.length ≤ 400 ∧ (∀ i, i < T.length → T.getD i 0 < 256) ∧ tp.length = 400 ∧ ∀ i, i < T.length → pv tp i = mb_8 (T.getD i 0)
theorem mb_all : ∀ c, c < 256 → (mb_8 c).toInt = (if c < 128 then (c : Int) else (c : Int) - 256) ∧ mb_8 c &&& nI 255 = nI c := by decide +kernel
theorem mb_lt {c k : Nat} (hc : c < 256) (hk : k < 128) : (mb_8 c < nI k) ↔ (c < k ∨ 128 ≤ c) := by
  rw [Int32.lt_iff_toInt_lt, (mb_all c hc).1, nI_toInt (by omega)]
  split <;> omega
theorem mb_gt {c k : Nat} (hc : c < 256) (hk : k < 128) : (nI k < mb_8 c) ↔ (k < c ∧ c < 128) := by
  rw [Int32.lt_iff_toInt_lt, (mb_all c hc).1, nI_toInt (by omega)]
  split <;> omega
theorem mb_eq {c k : Nat} (hc : c < 256) (hk : k < 128) : (mb_8 c = nI k) ↔ c = k := by
  rw [← Int32.toInt_inj, (mb_all c hc).1, nI_toInt (by omega)]
  split <;> omega
theorem mb_nn {c : Nat} (h : c < 128) : mb_8 c = nI c := by
  unfold mb_8
  rw [if_pos h]
theorem sh8 {x c : Nat} (hx : x < 2 ^ 55) (hc : c < 256) : (lN x <<< ((nI 8).toInt64 &&& lN 63)) ||| (nI c).toInt64 = lN (256 * x + c) := by
  have e : (nI 8).toInt64 &&& lN 63 = lN 8 := by decide
  rw [e, nI_l (by omega)]
  apply Int64.toBitVec_inj.mp
  apply BitVec.eq_of_toNat_eq
  have e1 : ∀ w, (lN w).toBitVec.toNat = w % 2 ^ 64 := fun w => rfl
  have e2 : ((lN 8).toBitVec.smod 64).toNat = 8 := by decide
  rw [Int64.toBitVec_or, Int64.toBitVec_shiftLeft, BitVec.toNat_or, BitVec.shiftLeft_eq', BitVec.toNat_shiftLeft, e2, e1, e1, e1, Nat.mod_eq_of_lt (show x < 2 ^ 64 by omega), Nat.mod_eq_of_lt (show c < 2 ^ 64 by omega), Nat.mod_eq_of_lt (show 256 * x + c < 2 ^ 64 by omega), Nat.mod_eq_of_lt (by rw [Nat.shiftLeft_eq]; omega), ← Nat.shiftLeft_add_eq_or_of_lt (show c < 2 ^ 8 by omega), Nat.shiftLeft_eq]
  omega
def pkn (T : List Nat) (q : Nat) : Nat → Nat
  | 0 => 0
  | k + 1 => if k < 8 then 256 * pkn T q k + T.getD (q + k) 0 else pkn T q k
theorem pkn_lt {T : List Nat} {q : Nat} : ∀ k, k < 8 → (∀ i, i < k + 1 → T.getD (q + i) 0 ≤ 122) → pkn T q (k + 1) < 123 * 256 ^ k := by
  intro k
  induction k with
  | zero =>
    intro _ h
    have := h 0 (by omega)
    show (if 0 < 8 then 256 * 0 + T.getD (q + 0) 0 else 0) < _
    rw [if_pos (by omega)]
    omega
  | succ k ih =>
    intro hk h
    have h1 := ih (by omega) (fun i hi => h i (by omega))
    have h2 := h (k + 1) (by omega)
    show (if k + 1 < 8 then 256 * pkn T q (k + 1) + T.getD (q + (k + 1)) 0 else _) < _
    rw [if_pos hk, Nat.pow_succ]
    omega
theorem pkn_55 {T : List Nat} {q k : Nat} (hk : k < 8) (h : ∀ i, i < k → T.getD (q + i) 0 ≤ 122) : pkn T q k < 2 ^ 55 := by
  cases k with
  | zero => show 0 < _; omega
  | succ k =>
    have h1 := pkn_lt k (by omega) h
    have h2 : 256 ^ k ≤ 256 ^ 6 := Nat.pow_le_pow_right (by omega) (by omega)
    have h3 : 123 * 256 ^ k ≤ 123 * 256 ^ 6 := Nat.mul_le_mul_left _ h2
    have h4 : 123 * 256 ^ 6 < 2 ^ 55 := by decide
    omega
theorem pkn_63 {T : List Nat} {q k : Nat} (hk : k ≤ 8) (h : ∀ i, i < k → T.getD (q + i) 0 ≤ 122) : pkn T q k < 2 ^ 63 := by
  cases k with
  | zero => show 0 < _; omega
  | succ k =>
    have h1 := pkn_lt k (by omega) h
    have h2 : 256 ^ k ≤ 256 ^ 7 := Nat.pow_le_pow_right (by omega) (by omega)
    have h3 : 123 * 256 ^ k ≤ 123 * 256 ^ 7 := Nat.mul_le_mul_left _ h2
    have h4 : 123 * 256 ^ 7 < 2 ^ 63 := by decide
    omega
theorem pkn_inj {T W : List Nat} {q : Nat} : ∀ k j, k ≤ 8 → j ≤ 8 → (∀ i, i < k → 0 < T.getD (q + i) 0 ∧ T.getD (q + i) 0 < 256) → (∀ i, i < j → 0 < W.getD i 0 ∧ W.getD i 0 < 256) → pkn T q k = pkn W 0 j → k = j ∧ ∀ i, i < k → T.getD (q + i) 0 = W.getD i 0 := by
  intro k
  induction k with
  | zero =>
    intro j _ hj _ hW e
    cases j with
    | zero => exact ⟨rfl, fun i hi => absurd hi (Nat.not_lt_zero i)⟩
    | succ j =>
      have h2 := hW j (by omega)
      have e : 0 = (if j < 8 then 256 * pkn W 0 j + W.getD (0 + j) 0 else pkn W 0 j) := e
      rw [if_pos (by omega), Nat.zero_add] at e
      omega
  | succ k ih =>
    intro j hk hj hT hW e
    have h1 := hT k (by omega)
    cases j with
    | zero =>
      have e : (if k < 8 then 256 * pkn T q k + T.getD (q + k) 0 else pkn T q k) = 0 := e
      rw [if_pos (by omega)] at e
      omega
    | succ j =>
      have h2 := hW j (by omega)
      have e : (if k < 8 then 256 * pkn T q k + T.getD (q + k) 0 else pkn T q k) = (if j < 8 then 256 * pkn W 0 j + W.getD (0 + j) 0 else pkn W 0 j) := e
      rw [if_pos (by omega), if_pos (by omega), Nat.zero_add] at e
      obtain ⟨r1, r2⟩ := ih j (by omega) (by omega) (fun i hi => hT i (by omega)) (fun i hi => hW i (by omega)) (by omega)
      refine ⟨by omega, fun i hi => ?_⟩
      rcases Nat.lt_or_ge i k with c | c
      · exact r2 i c
      · have ei : i = k := by omega
        have e3 : T.getD (q + k) 0 = W.getD j 0 := by omega
        rw [ei, e3, r1]
theorem pkn_cg {T W : List Nat} {q : Nat} : ∀ k, (∀ i, i < k → T.getD (q + i) 0 = W.getD i 0) → pkn T q k = pkn W 0 k := by
  intro k
  induction k with
  | zero => intro _; rfl
  | succ k ih =>
    intro h
    show (if k < 8 then 256 * pkn T q k + T.getD (q + k) 0 else pkn T q k) = (if k < 8 then 256 * pkn W 0 k + W.getD (0 + k) 0 else pkn W 0 k)
    rw [ih (fun i hi => h i (by omega)), h k (by omega), Nat.zero_add]
def eL (T : List Nat) (q : Nat) : Nat := sc (isL T) T.length q
def wis (T : List Nat) (q : Nat) (W : List Nat) : Prop := eL T q - q = W.length ∧ ∀ i, i < W.length → T.getD (q + i) 0 = W.getD i 0
def wl (W : List Nat) : Prop := 0 < W.length ∧ W.length ≤ 8 ∧ ∀ i, i < W.length → 97 ≤ W.getD i 0 ∧ W.getD i 0 ≤ 122
section ML
variable {n : Nat} {f : Nat → ss_Cl} {m0 m1 m2 m3 m4 m5 m6 m7 m8 m9 m10 m11 m12 m13 m14 m15 : Int32} {dx : Int64} {tp : List Int32} {sg : List Int32} {lg : List Int32} {cl : List Int32} {cs : List Int32} {rd : List Int32} {op : List Int32} {sk : List Int64} {wd : List Int64} {sd : List Int32} {th : List Int32} {fa : List Int32} {ws : List Int32} {kp : List Int32} {li : List Int32} {pr : List Int32} {hb : List Int32} {fi : List Int32} {st : List Int32} {im : List Int32} {jf : List Int32} {jx : List Int32} {mk : List Int32} {N : Nat}
theorem mL_g0 : ss_gi (pm_M n f (mL m0 m1 m2 m3 m4 m5 m6 m7 m8 m9 m10 m11 m12 m13 m14 m15) dx tp sg lg cl cs rd op sk wd sd th fa ws kp li pr hb fi st im jf jx mk) (some 118) 12 0 = some m0 := Eq.trans rfl rfl
theorem mL_p0 {y : Int32} : ss_pi (pm_M n f (mL m0 m1 m2 m3 m4 m5 m6 m7 m8 m9 m10 m11 m12 m13 m14 m15) dx tp sg lg cl cs rd op sk wd sd th fa ws kp li pr hb fi st im jf jx mk) (some 118) 12 0 y = some (pm_M n f (mL y m1 m2 m3 m4 m5 m6 m7 m8 m9 m10 m11 m12 m13 m14 m15) dx tp sg lg cl cs rd op sk wd sd th fa ws kp li pr hb fi st im jf jx mk) := pn_pi (show 0 < 16 by omega) y
theorem mL_g1 : ss_gi (pm_M n f (mL m0 m1 m2 m3 m4 m5 m6 m7 m8 m9 m10 m11 m12 m13 m14 m15) dx tp sg lg cl cs rd op sk wd sd th fa ws kp li pr hb fi st im jf jx mk) (some 118) 12 1 = some m1 := Eq.trans rfl rfl
theorem mL_p1 {y : Int32} : ss_pi (pm_M n f (mL m0 m1 m2 m3 m4 m5 m6 m7 m8 m9 m10 m11 m12 m13 m14 m15) dx tp sg lg cl cs rd op sk wd sd th fa ws kp li pr hb fi st im jf jx mk) (some 118) 12 1 y = some (pm_M n f (mL m0 y m2 m3 m4 m5 m6 m7 m8 m9 m10 m11 m12 m13 m14 m15) dx tp sg lg cl cs rd op sk wd sd th fa ws kp li pr hb fi st im jf jx mk) := pn_pi (show 1 < 16 by omega) y
theorem mL_g2 : ss_gi (pm_M n f (mL m0 m1 m2 m3 m4 m5 m6 m7 m8 m9 m10 m11 m12 m13 m14 m15) dx tp sg lg cl cs rd op sk wd sd th fa ws kp li pr hb fi st im jf jx mk) (some 118) 12 2 = some m2 := Eq.trans rfl rfl
theorem mL_p2 {y : Int32} : ss_pi (pm_M n f (mL m0 m1 m2 m3 m4 m5 m6 m7 m8 m9 m10 m11 m12 m13 m14 m15) dx tp sg lg cl cs rd op sk wd sd th fa ws kp li pr hb fi st im jf jx mk) (some 118) 12 2 y = some (pm_M n f (mL m0 m1 y m3 m4 m5 m6 m7 m8 m9 m10 m11 m12 m13 m14 m15) dx tp sg lg cl cs rd op sk wd sd th fa ws kp li pr hb fi st im jf jx mk) := pn_pi (show 2 < 16 by omega) y
theorem mL_g3 : ss_gi (pm_M n f (mL m0 m1 m2 m3 m4 m5 m6 m7 m8 m9 m10 m11 m12 m13 m14 m15) dx tp sg lg cl cs rd op sk wd sd th fa ws kp li pr hb fi st im jf jx mk) (some 118) 12 3 = some m3 := Eq.trans rfl rfl
theorem mL_p3 {y : Int32} : ss_pi (pm_M n f (mL m0 m1 m2 m3 m4 m5 m6 m7 m8 m9 m10 m11 m12 m13 m14 m15) dx tp sg lg cl cs rd op sk wd sd th fa ws kp li pr hb fi st im jf jx mk) (some 118) 12 3 y = some (pm_M n f (mL m0 m1 m2 y m4 m5 m6 m7 m8 m9 m10 m11 m12 m13 m14 m15) dx tp sg lg cl cs rd op sk wd sd th fa ws kp li pr hb fi st im jf jx mk) := pn_pi (show 3 < 16 by omega) y
theorem mL_g4 : ss_gi (pm_M n f (mL m0 m1 m2 m3 m4 m5 m6 m7 m8 m9 m10 m11 m12 m13 m14 m15) dx tp sg lg cl cs rd op sk wd sd th fa ws kp li pr hb fi st im jf jx mk) (some 118) 12 4 = some m4 := Eq.trans rfl rfl
theorem mL_p4 {y : Int32} : ss_pi (pm_M n f (mL m0 m1 m2 m3 m4 m5 m6 m7 m8 m9 m10 m11 m12 m13 m14 m15) dx tp sg lg cl cs rd op sk wd sd th fa ws kp li pr hb fi st im jf jx mk) (some 118) 12 4 y = some (pm_M n f (mL m0 m1 m2 m3 y m5 m6 m7 m8 m9 m10 m11 m12 m13 m14 m15) dx tp sg lg cl cs rd op sk wd sd th fa ws kp li pr hb fi st im jf jx mk) := pn_pi (show 4 < 16 by omega) y
theorem mL_g5 : ss_gi (pm_M n f (mL m0 m1 m2 m3 m4 m5 m6 m7 m8 m9 m10 m11 m12 m13 m14 m15) dx tp sg lg cl cs rd op sk wd sd th fa ws kp li pr hb fi st im jf jx mk) (some 118) 12 5 = some m5 := Eq.trans rfl rfl
theorem mL_p5 {y : Int32} : ss_pi (pm_M n f (mL m0 m1 m2 m3 m4 m5 m6 m7 m8 m9 m10 m11 m12 m13 m14 m15) dx tp sg lg cl cs rd op sk wd sd th fa ws kp li pr hb fi st im jf jx mk) (some 118) 12 5 y = some (pm_M n f (mL m0 m1 m2 m3 m4 y m6 m7 m8 m9 m10 m11 m12 m13 m14 m15) dx tp sg lg cl cs rd op sk wd sd th fa ws kp li pr hb fi st im jf jx mk) := pn_pi (show 5 < 16 by omega) y
theorem mL_g6 : ss_gi (pm_M n f (mL m0 m1 m2 m3 m4 m5 m6 m7 m8 m9 m10 m11 m12 m13 m14 m15) dx tp sg lg cl cs rd op sk wd sd th fa ws kp li pr hb fi st im jf jx mk) (some 118) 12 6 = some m6 := Eq.trans rfl rfl
theorem mL_p6 {y : Int32} : ss_pi (pm_M n f (mL m0 m1 m2 m3 m4 m5 m6 m7 m8 m9 m10 m11 m12 m13 m14 m15) dx tp sg lg cl cs rd op sk wd sd th fa ws kp li pr hb fi st im jf jx mk) (some 118) 12 6 y = some (pm_M n f (mL m0 m1 m2 m3 m4 m5 y m7 m8 m9 m10 m11 m12 m13 m14 m15) dx tp sg lg cl cs rd op sk wd sd th fa ws kp li pr hb fi st im jf jx mk) := pn_pi (show 6 < 16 by omega) y
theorem mL_g7 : ss_gi (pm_M n f (mL m0 m1 m2 m3 m4 m5 m6 m7 m8 m9 m10 m11 m12 m13 m14 m15) dx tp sg lg cl cs rd op sk wd sd th fa ws kp li pr hb fi st im jf jx mk) (some 118) 12 7 = some m7 := Eq.trans rfl rfl
theorem mL_p7 {y : Int32} : ss_pi (pm_M n f (mL m0 m1 m2 m3 m4 m5 m6 m7 m8 m9 m10 m11 m12 m13 m14 m15) dx tp sg lg cl cs rd op sk wd sd th fa ws kp li pr hb fi st im jf jx mk) (some 118) 12 7 y = some (pm_M n f (mL m0 m1 m2 m3 m4 m5 m6 y m8 m9 m10 m11 m12 m13 m14 m15) dx tp sg lg cl cs rd op sk wd sd th fa ws kp li pr hb fi st im jf jx mk) := pn_pi (show 7 < 16 by omega) y
theorem mL_g8 : ss_gi (pm_M n f (mL m0 m1 m2 m3 m4 m5 m6 m7 m8 m9 m10 m11 m12 m13 m14 m15) dx tp sg lg cl cs rd op sk wd sd th fa ws kp li pr hb fi st im jf jx mk) (some 118) 12 8 = some m8 := Eq.trans rfl rfl
theorem mL_p8 {y : Int32} : ss_pi (pm_M n f (mL m0 m1 m2 m3 m4 m5 m6 m7 m8 m9 m10 m11 m12 m13 m14 m15) dx tp sg lg cl cs rd op sk wd sd th fa ws kp li pr hb fi st im jf jx mk) (some 118) 12 8 y = some (pm_M n f (mL m0 m1 m2 m3 m4 m5 m6 m7 y m9 m10 m11 m12 m13 m14 m15) dx tp sg lg cl cs rd op sk wd sd th fa ws kp li pr hb fi st im jf jx mk) := pn_pi (show 8 < 16 by omega) y
theorem mL_g9 : ss_gi (pm_M n f (mL m0 m1 m2 m3 m4 m5 m6 m7 m8 m9 m10 m11 m12 m13 m14 m15) dx tp sg lg cl cs rd op sk wd sd th fa ws kp li pr hb fi st im jf jx mk) (some 118) 12 9 = some m9 := Eq.trans rfl rfl
theorem mL_p9 {y : Int32} : ss_pi (pm_M n f (mL m0 m1 m2 m3 m4 m5 m6 m7 m8 m9 m10 m11 m12 m13 m14 m15) dx tp sg lg cl cs rd op sk wd sd th fa ws kp li pr hb fi st im jf jx mk) (some 118) 12 9 y = some (pm_M n f (mL m0 m1 m2 m3 m4 m5 m6 m7 m8 y m10 m11 m12 m13 m14 m15) dx tp sg lg cl cs rd op sk wd sd th fa ws kp li pr hb fi st im jf jx mk) := pn_pi (show 9 < 16 by omega) y
theorem mL_g10 : ss_gi (pm_M n f (mL m0 m1 m2 m3 m4 m5 m6 m7 m8 m9 m10 m11 m12 m13 m14 m15) dx tp sg lg cl cs rd op sk wd sd th fa ws kp li pr hb fi st im jf jx mk) (some 118) 12 10 = some m10 := Eq.trans rfl rfl
theorem mL_p10 {y : Int32} : ss_pi (pm_M n f (mL m0 m1 m2 m3 m4 m5 m6 m7 m8 m9 m10 m11 m12 m13 m14 m15) dx tp sg lg cl cs rd op sk wd sd th fa ws kp li pr hb fi st im jf jx mk) (some 118) 12 10 y = some (pm_M n f (mL m0 m1 m2 m3 m4 m5 m6 m7 m8 m9 y m11 m12 m13 m14 m15) dx tp sg lg cl cs rd op sk wd sd th fa ws kp li pr hb fi st im jf jx mk) := pn_pi (show 10 < 16 by omega) y
theorem mL_g11 : ss_gi (pm_M n f (mL m0 m1 m2 m3 m4 m5 m6 m7 m8 m9 m10 m11 m12 m13 m14 m15) dx tp sg lg cl cs rd op sk wd sd th fa ws kp li pr hb fi st im jf jx mk) (some 118) 12 11 = some m11 := Eq.trans rfl rfl
theorem mL_p11 {y : Int32} : ss_pi (pm_M n f (mL m0 m1 m2 m3 m4 m5 m6 m7 m8 m9 m10 m11 m12 m13 m14 m15) dx tp sg lg cl cs rd op sk wd sd th fa ws kp li pr hb fi st im jf jx mk) (some 118) 12 11 y = some (pm_M n f (mL m0 m1 m2 m3 m4 m5 m6 m7 m8 m9 m10 y m12 m13 m14 m15) dx tp sg lg cl cs rd op sk wd sd th fa ws kp li pr hb fi st im jf jx mk) := pn_pi (show 11 < 16 by omega) y
theorem mL_g12 : ss_gi (pm_M n f (mL m0 m1 m2 m3 m4 m5 m6 m7 m8 m9 m10 m11 m12 m13 m14 m15) dx tp sg lg cl cs rd op sk wd sd th fa ws kp li pr hb fi st im jf jx mk) (some 118) 12 12 = some m12 := Eq.trans rfl rfl
theorem mL_p12 {y : Int32} : ss_pi (pm_M n f (mL m0 m1 m2 m3 m4 m5 m6 m7 m8 m9 m10 m11 m12 m13 m14 m15) dx tp sg lg cl cs rd op sk wd sd th fa ws kp li pr hb fi st im jf jx mk) (some 118) 12 12 y = some (pm_M n f (mL m0 m1 m2 m3 m4 m5 m6 m7 m8 m9 m10 m11 y m13 m14 m15) dx tp sg lg cl cs rd op sk wd sd th fa ws kp li pr hb fi st im jf jx mk) := pn_pi (show 12 < 16 by omega) y
theorem mL_g13 : ss_gi (pm_M n f (mL m0 m1 m2 m3 m4 m5 m6 m7 m8 m9 m10 m11 m12 m13 m14 m15) dx tp sg lg cl cs rd op sk wd sd th fa ws kp li pr hb fi st im jf jx mk) (some 118) 12 13 = some m13 := Eq.trans rfl rfl
theorem mL_p13 {y : Int32} : ss_pi (pm_M n f (mL m0 m1 m2 m3 m4 m5 m6 m7 m8 m9 m10 m11 m12 m13 m14 m15) dx tp sg lg cl cs rd op sk wd sd th fa ws kp li pr hb fi st im jf jx mk) (some 118) 12 13 y = some (pm_M n f (mL m0 m1 m2 m3 m4 m5 m6 m7 m8 m9 m10 m11 m12 y m14 m15) dx tp sg lg cl cs rd op sk wd sd th fa ws kp li pr hb fi st im jf jx mk) := pn_pi (show 13 < 16 by omega) y
theorem mL_g14 : ss_gi (pm_M n f (mL m0 m1 m2 m3 m4 m5 m6 m7 m8 m9 m10 m11 m12 m13 m14 m15) dx tp sg lg cl cs rd op sk wd sd th fa ws kp li pr hb fi st im jf jx mk) (some 118) 12 14 = some m14 := Eq.trans rfl rfl
theorem mL_p14 {y : Int32} : ss_pi (pm_M n f (mL m0 m1 m2 m3 m4 m5 m6 m7 m8 m9 m10 m11 m12 m13 m14 m15) dx tp sg lg cl cs rd op sk wd sd th fa ws kp li pr hb fi st im jf jx mk) (some 118) 12 14 y = some (pm_M n f (mL m0 m1 m2 m3 m4 m5 m6 m7 m8 m9 m10 m11 m12 m13 y m15) dx tp sg lg cl cs rd op sk wd sd th fa ws kp li pr hb fi st im jf jx mk) := pn_pi (show 14 < 16 by omega) y
theorem mL_g15 : ss_gi (pm_M n f (mL m0 m1 m2 m3 m4 m5 m6 m7 m8 m9 m10 m11 m12 m13 m14 m15) dx tp sg lg cl cs rd op sk wd sd th fa ws kp li pr hb fi st im jf jx mk) (some 118) 12 15 = some m15 := Eq.trans rfl rfl
theorem mL_p15 {y : Int32} : ss_pi (pm_M n f (mL m0 m1 m2 m3 m4 m5 m6 m7 m8 m9 m10 m11 m12 m13 m14 m15) dx tp sg lg cl cs rd op sk wd sd th fa ws kp li pr hb fi st im jf jx mk) (some 118) 12 15 y = some (pm_M n f (mL m0 m1 m2 m3 m4 m5 m6 m7 m8 m9 m10 m11 m12 m13 m14 y) dx tp sg lg cl cs rd op sk wd sd th fa ws kp li pr hb fi st im jf jx mk) := pn_pi (show 15 < 16 by omega) y
theorem mz_ai {T : List Nat} {i : Nat} (ht : mz tp T) (hi : i < T.length) : ss_ai (pm_M n f (mL m0 m1 m2 m3 m4 m5 m6 m7 m8 m9 m10 m11 m12 m13 m14 m15) dx tp sg lg cl cs rd op sk wd sd th fa ws kp li pr hb fi st im jf jx mk) (some 119) 21 (nI i) = some (mb_8 (T.getD i 0)) := by
  obtain ⟨h1, h2, h3, h4⟩ := ht
  rw [pn_a0 (by omega) (by omega), h4 i hi]
theorem M_let1 {T : List Nat} {i : Nat} (ht : mz tp T) (hi : i < T.length) (hl : isL T i = true) : mm_M_isLetter N (some 118) (nI i) (pm_M n f (mL (nI T.length) m1 m2 m3 m4 m5 m6 m7 m8 m9 m10 m11 m12 m13 m14 m15) dx tp sg lg cl cs rd op sk wd sd th fa ws kp li pr hb fi st im jf jx mk) = some (nI 1) := by
  have hb := ht.2.1 i hi
  have h4 := ht.1
  have hl := of_decide_eq_true hl
  have c0 : (nI T.length ≤ nI i) = False := eq_false (nI_ge hi (by omega))
  have c1 : (mb_8 (T.getD i 0) < nI 97) = False := eq_false (fun q => by have := (mb_lt hb (by omega)).mp q; omega)
  have c2 : (nI 122 < mb_8 (T.getD i 0)) = False := eq_false (fun q => by have := (mb_gt hb (by omega)).mp q; omega)
  unfold mm_M_isLetter mm_M_isLetter_j34 mm_M_isLetter_j35
  simp only [pb_l2, pb_ll, nI_add, pb_mul, if_true, if_false, pb_bs, pb_b2n, pb_bz0, pb_bz1, pb_10, pb_01, pn_is, pn_g0, pn_g1, pn_g2, pn_g3, pn_g4, pn_g5, pn_g6, pn_g9, mL_g0, mL_p0, mL_g1, mL_p1, mL_g2, mL_p2, mL_g3, mL_p3, mL_g4, mL_p4, mL_g5, mL_p5, mL_g6, mL_p6, mL_g7, mL_p7, mL_g8, mL_p8, mL_g9, mL_p9, mL_g10, mL_p10, mL_g11, mL_p11, mL_g12, mL_p12, mL_g13, mL_p13, mL_g14, mL_p14, mL_g15, mL_p15, mz_ai ht hi, c0, c1, c2]
theorem M_let0 {T : List Nat} {i : Nat} (ht : mz tp T) (h31 : i < 2147483648) (hl : i < T.length → isL T i = false) : mm_M_isLetter N (some 118) (nI i) (pm_M n f (mL (nI T.length) m1 m2 m3 m4 m5 m6 m7 m8 m9 m10 m11 m12 m13 m14 m15) dx tp sg lg cl cs rd op sk wd sd th fa ws kp li pr hb fi st im jf jx mk) = some (nI 0) := by
  have h4 := ht.1
  unfold mm_M_isLetter mm_M_isLetter_j34 mm_M_isLetter_j35
  by_cases hi : i < T.length
  · have hb := ht.2.1 i hi
    have hl := of_decide_eq_false (hl hi)
    have c0 : (nI T.length ≤ nI i) = False := eq_false (nI_ge hi (by omega))
    by_cases c1 : mb_8 (T.getD i 0) < nI 97
    · simp only [pb_l2, pb_ll, nI_add, pb_mul, if_true, if_false, pb_bs, pb_b2n, pb_bz0, pb_bz1, pb_10, pb_01, pn_is, pn_g0, pn_g1, pn_g2, pn_g3, pn_g4, pn_g5, pn_g6, pn_g9, mL_g0, mL_p0, mL_g1, mL_p1, mL_g2, mL_p2, mL_g3, mL_p3, mL_g4, mL_p4, mL_g5, mL_p5, mL_g6, mL_p6, mL_g7, mL_p7, mL_g8, mL_p8, mL_g9, mL_p9, mL_g10, mL_p10, mL_g11, mL_p11, mL_g12, mL_p12, mL_g13, mL_p13, mL_g14, mL_p14, mL_g15, mL_p15, mz_ai ht hi, c0, c1]
    · have c2 : (nI 122 < mb_8 (T.getD i 0)) = True := eq_true ((mb_gt hb (by omega)).mpr (by have : ¬ (T.getD i 0 < 97 ∨ 128 ≤ T.getD i 0) := fun q => c1 ((mb_lt hb (by omega)).mpr q); omega))
      simp only [pb_l2, pb_ll, nI_add, pb_mul, if_true, if_false, pb_bs, pb_b2n, pb_bz0, pb_bz1, pb_10, pb_01, pn_is, pn_g0, pn_g1, pn_g2, pn_g3, pn_g4, pn_g5, pn_g6, pn_g9, mL_g0, mL_p0, mL_g1, mL_p1, mL_g2, mL_p2, mL_g3, mL_p3, mL_g4, mL_p4, mL_g5, mL_p5, mL_g6, mL_p6, mL_g7, mL_p7, mL_g8, mL_p8, mL_g9, mL_p9, mL_g10, mL_p10, mL_g11, mL_p11, mL_g12, mL_p12, mL_g13, mL_p13, mL_g14, mL_p14, mL_g15, mL_p15, mz_ai ht hi, c0, c1, c2]
  · have c0 : (nI T.length ≤ nI i) = True := eq_true (nI_le (by omega) (by omega))
    simp only [pb_l2, pb_ll, nI_add, pb_mul, if_true, if_false, pb_bs, pb_b2n, pb_bz0, pb_bz1, pb_10, pb_01, pn_is, pn_g0, pn_g1, pn_g2, pn_g3, pn_g4, pn_g5, pn_g6, pn_g9, mL_g0, mL_p0, mL_g1, mL_p1, mL_g2, mL_p2, mL_g3, mL_p3, mL_g4, mL_p4, mL_g5, mL_p5, mL_g6, mL_p6, mL_g7, mL_p7, mL_g8, mL_p8, mL_g9, mL_p9, mL_g10, mL_p10, mL_g11, mL_p11, mL_g12, mL_p12, mL_g13, mL_p13, mL_g14, mL_p14, mL_g15, mL_p15, c0]
theorem M_dig1 {T : List Nat} {i : Nat} (ht : mz tp T) (hi : i < T.length) (hl : isD T i = true) : mm_M_isDigit N (some 118) (nI i) (pm_M n f (mL (nI T.length) m1 m2 m3 m4 m5 m6 m7 m8 m9 m10 m11 m12 m13 m14 m15) dx tp sg lg cl cs rd op sk wd sd th fa ws kp li pr hb fi st im jf jx mk) = some (nI 1) := by
  have hb := ht.2.1 i hi
  have h4 := ht.1
  have hl := of_decide_eq_true hl
  have c0 : (nI T.length ≤ nI i) = False := eq_false (nI_ge hi (by omega))
  have c1 : (mb_8 (T.getD i 0) < nI 48) = False := eq_false (fun q => by have := (mb_lt hb (by omega)).mp q; omega)
  have c2 : (nI 57 < mb_8 (T.getD i 0)) = False := eq_false (fun q => by have := (mb_gt hb (by omega)).mp q; omega)
  unfold mm_M_isDigit mm_M_isDigit_j34 mm_M_isDigit_j35
  simp only [pb_l2, pb_ll, nI_add, pb_mul, if_true, if_false, pb_bs, pb_b2n, pb_bz0, pb_bz1, pb_10, pb_01, pn_is, pn_g0, pn_g1, pn_g2, pn_g3, pn_g4, pn_g5, pn_g6, pn_g9, mL_g0, mL_p0, mL_g1, mL_p1, mL_g2, mL_p2, mL_g3, mL_p3, mL_g4, mL_p4, mL_g5, mL_p5, mL_g6, mL_p6, mL_g7, mL_p7, mL_g8, mL_p8, mL_g9, mL_p9, mL_g10, mL_p10, mL_g11, mL_p11, mL_g12, mL_p12, mL_g13, mL_p13, mL_g14, mL_p14, mL_g15, mL_p15, mz_ai ht hi, c0, c1, c2]
theorem M_dig0 {T : List Nat} {i : Nat} (ht : mz tp T) (h31 : i < 2147483648) (hl : i < T.length → isD T i = false) : mm_M_isDigit N (some 118) (nI i) (pm_M n f (mL (nI T.length) m1 m2 m3 m4 m5 m6 m7 m8 m9 m10 m11 m12 m13 m14 m15) dx tp sg lg cl cs rd op sk wd sd th fa ws kp li pr hb fi st im jf jx mk) = some (nI 0) := by
  have h4 := ht.1
  unfold mm_M_isDigit mm_M_isDigit_j34 mm_M_isDigit_j35
  by_cases hi : i < T.length
  · have hb := ht.2.1 i hi
    have hl := of_decide_eq_false (hl hi)
    have c0 : (nI T.length ≤ nI i) = False := eq_false (nI_ge hi (by omega))
    by_cases c1 : mb_8 (T.getD i 0) < nI 48
    · simp only [pb_l2, pb_ll, nI_add, pb_mul, if_true, if_false, pb_bs, pb_b2n, pb_bz0, pb_bz1, pb_10, pb_01, pn_is, pn_g0, pn_g1, pn_g2, pn_g3, pn_g4, pn_g5, pn_g6, pn_g9, mL_g0, mL_p0, mL_g1, mL_p1, mL_g2, mL_p2, mL_g3, mL_p3, mL_g4, mL_p4, mL_g5, mL_p5, mL_g6, mL_p6, mL_g7, mL_p7, mL_g8, mL_p8, mL_g9, mL_p9, mL_g10, mL_p10, mL_g11, mL_p11, mL_g12, mL_p12, mL_g13, mL_p13, mL_g14, mL_p14, mL_g15, mL_p15, mz_ai ht hi, c0, c1]
    · have c2 : (nI 57 < mb_8 (T.getD i 0)) = True := eq_true ((mb_gt hb (by omega)).mpr (by have : ¬ (T.getD i 0 < 48 ∨ 128 ≤ T.getD i 0) := fun q => c1 ((mb_lt hb (by omega)).mpr q); omega))
      simp only [pb_l2, pb_ll, nI_add, pb_mul, if_true, if_false, pb_bs, pb_b2n, pb_bz0, pb_bz1, pb_10, pb_01, pn_is, pn_g0, pn_g1, pn_g2, pn_g3, pn_g4, pn_g5, pn_g6, pn_g9, mL_g0, mL_p0, mL_g1, mL_p1, mL_g2, mL_p2, mL_g3, mL_p3, mL_g4, mL_p4, mL_g5, mL_p5, mL_g6, mL_p6, mL_g7, mL_p7, mL_g8, mL_p8, mL_g9, mL_p9, mL_g10, mL_p10, mL_g11, mL_p11, mL_g12, mL_p12, mL_g13, mL_p13, mL_g14, mL_p14, mL_g15, mL_p15, mz_ai ht hi, c0, c1, c2]
  · have c0 : (nI T.length ≤ nI i) = True := eq_true (nI_le (by omega) (by omega))
    simp only [pb_l2, pb_ll, nI_add, pb_mul, if_true, if_false, pb_bs, pb_b2n, pb_bz0, pb_bz1, pb_10, pb_01, pn_is, pn_g0, pn_g1, pn_g2, pn_g3, pn_g4, pn_g5, pn_g6, pn_g9, mL_g0, mL_p0, mL_g1, mL_p1, mL_g2, mL_p2, mL_g3, mL_p3, mL_g4, mL_p4, mL_g5, mL_p5, mL_g6, mL_p6, mL_g7, mL_p7, mL_g8, mL_p8, mL_g9, mL_p9, mL_g10, mL_p10, mL_g11, mL_p11, mL_g12, mL_p12, mL_g13, mL_p13, mL_g14, mL_p14, mL_g15, mL_p15, c0]
def se (T : List Nat) (q : Nat) : Int32 := if q < T.length then nI (T.getD q 0) else -nI 1
theorem M_see {T : List Nat} {p : Nat} (ht : mz tp T) (hp : p ≤ T.length) (hN : 500 < N) : mm_M_see N (some 118) (pm_M n f (mL (nI T.length) m1 (nI p) m3 m4 m5 m6 m7 m8 m9 m10 m11 m12 m13 m14 m15) dx tp sg lg cl cs rd op sk wd sd th fa ws kp li pr hb fi st im jf jx mk) = some (se T (blk T p), (pm_M n f (mL (nI T.length) m1 (nI (blk T p)) m3 m4 m5 m6 m7 m8 m9 m10 m11 m12 m13 m14 m15) dx tp sg lg cl cs rd op sk wd sd th fa ws kp li pr hb fi st im jf jx mk)) := by
  have hl := ht.1
  have key : ss_lp (mm_M_see_b0 N (some 118)) N (pm_M n f (mL (nI T.length) m1 (nI p) m3 m4 m5 m6 m7 m8 m9 m10 m11 m12 m13 m14 m15) dx tp sg lg cl cs rd op sk wd sd th fa ws kp li pr hb fi st im jf jx mk) = some (pm_M n f (mL (nI T.length) m1 (nI (blk T p)) m3 m4 m5 m6 m7 m8 m9 m10 m11 m12 m13 m14 m15) dx tp sg lg cl cs rd op sk wd sd th fa ws kp li pr hb fi st im jf jx mk) := by
    refine lp_sc (P := isB T) (L := T.length) (fun q => (pm_M n f (mL (nI T.length) m1 (nI q) m3 m4 m5 m6 m7 m8 m9 m10 m11 m12 m13 m14 m15) dx tp sg lg cl cs rd op sk wd sd th fa ws kp li pr hb fi st im jf jx mk)) (fun q => (pm_M n f (mL (nI T.length) m1 (nI q) m3 m4 m5 m6 m7 m8 m9 m10 m11 m12 m13 m14 m15) dx tp sg lg cl cs rd op sk wd sd th fa ws kp li pr hb fi st im jf jx mk)) hp (fun q h1 h2 hP => ?_) (fun q h1 h2 hP => ?_) (by omega)
    · have c0 : (nI T.length ≤ nI q) = False := eq_false (nI_ge h2 (by omega))
      have c1 : T.getD q 0 = 32 := by simpa [isB] using hP
      have c3 : (mb_8 (T.getD q 0) = nI 32) = True := eq_true ((mb_eq (by omega) (by omega)).mpr c1)
      unfold mm_M_see_b0
      simp only [pb_l2, pb_ll, nI_add, pb_mul, if_true, if_false, pb_bs, pb_b2n, pb_bz0, pb_bz1, pb_10, pb_01, pn_is, pn_g0, pn_g1, pn_g2, pn_g3, pn_g4, pn_g5, pn_g6, pn_g9, mL_g0, mL_p0, mL_g1, mL_p1, mL_g2, mL_p2, mL_g3, mL_p3, mL_g4, mL_p4, mL_g5, mL_p5, mL_g6, mL_p6, mL_g7, mL_p7, mL_g8, mL_p8, mL_g9, mL_p9, mL_g10, mL_p10, mL_g11, mL_p11, mL_g12, mL_p12, mL_g13, mL_p13, mL_g14, mL_p14, mL_g15, mL_p15, c0, mz_ai ht h2, c3]
    · unfold mm_M_see_b0
      by_cases c : q < T.length
      · have c0 : (nI T.length ≤ nI q) = False := eq_false (nI_ge c (by omega))
        have c1 : T.getD q 0 ≠ 32 := by simpa [isB] using hP c
        have hb := ht.2.1 q c
        have c3 : (mb_8 (T.getD q 0) = nI 32) = False := eq_false (fun q => c1 ((mb_eq hb (by omega)).mp q))
        simp only [pb_l2, pb_ll, nI_add, pb_mul, if_true, if_false, pb_bs, pb_b2n, pb_bz0, pb_bz1, pb_10, pb_01, pn_is, pn_g0, pn_g1, pn_g2, pn_g3, pn_g4, pn_g5, pn_g6, pn_g9, mL_g0, mL_p0, mL_g1, mL_p1, mL_g2, mL_p2, mL_g3, mL_p3, mL_g4, mL_p4, mL_g5, mL_p5, mL_g6, mL_p6, mL_g7, mL_p7, mL_g8, mL_p8, mL_g9, mL_p9, mL_g10, mL_p10, mL_g11, mL_p11, mL_g12, mL_p12, mL_g13, mL_p13, mL_g14, mL_p14, mL_g15, mL_p15, c0, mz_ai ht c, c3]
      · have c0 : (nI T.length ≤ nI q) = True := eq_true (nI_le (by omega) (by omega))
        simp only [pb_l2, pb_ll, nI_add, pb_mul, if_true, if_false, pb_bs, pb_b2n, pb_bz0, pb_bz1, pb_10, pb_01, pn_is, pn_g0, pn_g1, pn_g2, pn_g3, pn_g4, pn_g5, pn_g6, pn_g9, mL_g0, mL_p0, mL_g1, mL_p1, mL_g2, mL_p2, mL_g3, mL_p3, mL_g4, mL_p4, mL_g5, mL_p5, mL_g6, mL_p6, mL_g7, mL_p7, mL_g8, mL_p8, mL_g9, mL_p9, mL_g10, mL_p10, mL_g11, mL_p11, mL_g12, mL_p12, mL_g13, mL_p13, mL_g14, mL_p14, mL_g15, mL_p15, c0]
  have hf := blk_ub hp
  unfold mm_M_see mm_M_see_j66
  simp only [pb_l2, pb_ll, nI_add, pb_mul, if_true, if_false, pb_bs, pb_b2n, pb_bz0, pb_bz1, pb_10, pb_01, pn_is, pn_g0, pn_g1, pn_g2, pn_g3, pn_g4, pn_g5, pn_g6, pn_g9, mL_g0, mL_p0, mL_g1, mL_p1, mL_g2, mL_p2, mL_g3, mL_p3, mL_g4, mL_p4, mL_g5, mL_p5, mL_g6, mL_p6, mL_g7, mL_p7, mL_g8, mL_p8, mL_g9, mL_p9, mL_g10, mL_p10, mL_g11, mL_p11, mL_g12, mL_p12, mL_g13, mL_p13, mL_g14, mL_p14, mL_g15, mL_p15, key]
  generalize blk T p = q at hf ⊢
  unfold se
  by_cases c : q < T.length
  · have c0 : (nI T.length ≤ nI q) = False := eq_false (nI_ge c (by omega))
    simp only [pb_l2, pb_ll, nI_add, pb_mul, if_true, if_false, pb_bs, pb_b2n, pb_bz0, pb_bz1, pb_10, pb_01, pn_is, pn_g0, pn_g1, pn_g2, pn_g3, pn_g4, pn_g5, pn_g6, pn_g9, mL_g0, mL_p0, mL_g1, mL_p1, mL_g2, mL_p2, mL_g3, mL_p3, mL_g4, mL_p4, mL_g5, mL_p5, mL_g6, mL_p6, mL_g7, mL_p7, mL_g8, mL_p8, mL_g9, mL_p9, mL_g10, mL_p10, mL_g11, mL_p11, mL_g12, mL_p12, mL_g13, mL_p13, mL_g14, mL_p14, mL_g15, mL_p15, c0, mz_ai ht c, if_pos c, (mb_all _ (ht.2.1 q c)).2]
  · have c0 : (nI T.length ≤ nI q) = True := eq_true (nI_le (by omega) (by omega))
    simp only [pb_l2, pb_ll, nI_add, pb_mul, if_true, if_false, pb_bs, pb_b2n, pb_bz0, pb_bz1, pb_10, pb_01, pn_is, pn_g0, pn_g1, pn_g2, pn_g3, pn_g4, pn_g5, pn_g6, pn_g9, mL_g0, mL_p0, mL_g1, mL_p1, mL_g2, mL_p2, mL_g3, mL_p3, mL_g4, mL_p4, mL_g5, mL_p5, mL_g6, mL_p6, mL_g7, mL_p7, mL_g8, mL_p8, mL_g9, mL_p9, mL_g10, mL_p10, mL_g11, mL_p11, mL_g12, mL_p12, mL_g13, mL_p13, mL_g14, mL_p14, mL_g15, mL_p15, c0, if_neg c]
theorem M_pass {T : List Nat} {p : Nat} (ht : mz tp T) (hp : p ≤ T.length) (hN : 500 < N) : mm_M_passWord N (some 118) (pm_M n f (mL (nI T.length) m1 (nI p) m3 m4 m5 m6 m7 m8 m9 m10 m11 m12 m13 m14 m15) dx tp sg lg cl cs rd op sk wd sd th fa ws kp li pr hb fi st im jf jx mk) = some (pm_M n f (mL (nI T.length) m1 (nI (eL T p)) m3 m4 m5 m6 m7 m8 m9 m10 m11 m12 m13 m14 m15) dx tp sg lg cl cs rd op sk wd sd th fa ws kp li pr hb fi st im jf jx mk) := by
  have hl := ht.1
  have key : ss_lp (mm_M_passWord_b0 N (some 118)) N (pm_M n f (mL (nI T.length) m1 (nI p) m3 m4 m5 m6 m7 m8 m9 m10 m11 m12 m13 m14 m15) dx tp sg lg cl cs rd op sk wd sd th fa ws kp li pr hb fi st im jf jx mk) = some (pm_M n f (mL (nI T.length) m1 (nI (eL T p)) m3 m4 m5 m6 m7 m8 m9 m10 m11 m12 m13 m14 m15) dx tp sg lg cl cs rd op sk wd sd th fa ws kp li pr hb fi st im jf jx mk) := by
    refine lp_sc (P := isL T) (L := T.length) (fun q => (pm_M n f (mL (nI T.length) m1 (nI q) m3 m4 m5 m6 m7 m8 m9 m10 m11 m12 m13 m14 m15) dx tp sg lg cl cs rd op sk wd sd th fa ws kp li pr hb fi st im jf jx mk)) (fun q => (pm_M n f (mL (nI T.length) m1 (nI q) m3 m4 m5 m6 m7 m8 m9 m10 m11 m12 m13 m14 m15) dx tp sg lg cl cs rd op sk wd sd th fa ws kp li pr hb fi st im jf jx mk)) hp (fun q h1 h2 hP => ?_) (fun q h1 h2 hP => ?_) (by omega)
    · unfold mm_M_passWord_b0
      simp only [pb_l2, pb_ll, nI_add, pb_mul, if_true, if_false, pb_bs, pb_b2n, pb_bz0, pb_bz1, pb_10, pb_01, pn_is, pn_g0, pn_g1, pn_g2, pn_g3, pn_g4, pn_g5, pn_g6, pn_g9, mL_g0, mL_p0, mL_g1, mL_p1, mL_g2, mL_p2, mL_g3, mL_p3, mL_g4, mL_p4, mL_g5, mL_p5, mL_g6, mL_p6, mL_g7, mL_p7, mL_g8, mL_p8, mL_g9, mL_p9, mL_g10, mL_p10, mL_g11, mL_p11, mL_g12, mL_p12, mL_g13, mL_p13, mL_g14, mL_p14, mL_g15, mL_p15, M_let1 ht h2 hP]
    · unfold mm_M_passWord_b0
      simp only [pb_l2, pb_ll, nI_add, pb_mul, if_true, if_false, pb_bs, pb_b2n, pb_bz0, pb_bz1, pb_10, pb_01, pn_is, pn_g0, pn_g1, pn_g2, pn_g3, pn_g4, pn_g5, pn_g6, pn_g9, mL_g0, mL_p0, mL_g1, mL_p1, mL_g2, mL_p2, mL_g3, mL_p3, mL_g4, mL_p4, mL_g5, mL_p5, mL_g6, mL_p6, mL_g7, mL_p7, mL_g8, mL_p8, mL_g9, mL_p9, mL_g10, mL_p10, mL_g11, mL_p11, mL_g12, mL_p12, mL_g13, mL_p13, mL_g14, mL_p14, mL_g15, mL_p15, M_let0 ht (show q < 2147483648 by omega) hP]
  unfold mm_M_passWord
  simp only [pb_l2, pb_ll, nI_add, pb_mul, if_true, if_false, pb_bs, pb_b2n, pb_bz0, pb_bz1, pb_10, pb_01, pn_is, pn_g0, pn_g1, pn_g2, pn_g3, pn_g4, pn_g5, pn_g6, pn_g9, mL_g0, mL_p0, mL_g1, mL_p1, mL_g2, mL_p2, mL_g3, mL_p3, mL_g4, mL_p4, mL_g5, mL_p5, mL_g6, mL_p6, mL_g7, mL_p7, mL_g8, mL_p8, mL_g9, mL_p9, mL_g10, mL_p10, mL_g11, mL_p11, mL_g12, mL_p12, mL_g13, mL_p13, mL_g14, mL_p14, mL_g15, mL_p15, key]
theorem M_pack {T : List Nat} {q : Nat} {w : Int64} (ht : mz tp T) (hq : q ≤ T.length) (hN : 500 < N) : ss_lp (mm_M_isWord_b10 N (some 118) w (pm_M n f (mL (nI T.length) m1 (nI q) m3 m4 m5 m6 m7 m8 m9 m10 m11 m12 m13 m14 m15) dx tp sg lg cl cs rd op sk wd sd th fa ws kp li pr hb fi st im jf jx mk)) N (lN 0, nI 0) = some (lN (pkn T q (eL T q - q)), nI (eL T q - q)) := by
  have hl := ht.1
  have key := lp_sc2 (body := mm_M_isWord_b10 N (some 118) w (pm_M n f (mL (nI T.length) m1 (nI q) m3 m4 m5 m6 m7 m8 m9 m10 m11 m12 m13 m14 m15) dx tp sg lg cl cs rd op sk wd sd th fa ws kp li pr hb fi st im jf jx mk)) (P := isL T) (L := T.length) (fun r => (lN (pkn T q (r - q)), nI (r - q))) (fun r => (lN (pkn T q (r - q)), nI (r - q))) (p := q) (N := N) hq (fun r h1 h2 hP => ?_) (fun r h1 h2 _ hP => ?_) (by omega)
  · have e : q - q = 0 := Nat.sub_self q
    rw [e] at key
    exact key
  · have er : q + (r - q) = r := by omega
    have e1 : r + 1 - q = (r - q) + 1 := by omega
    have hb : ∀ i, i < r - q → T.getD (q + i) 0 ≤ 122 := fun i hi => (of_decide_eq_true (hP (q + i) (by omega) (by omega))).2
    have hc := of_decide_eq_true (hP r h1 (Nat.le_refl r))
    unfold mm_M_isWord_b10 mm_M_isWord_j50
    by_cases c : r - q < 8
    · have c0 : (nI 8 ≤ nI (r - q)) = False := eq_false (nI_ge c (by omega))
      have e2 : pkn T q (r - q + 1) = 256 * pkn T q (r - q) + T.getD r 0 := by
        show (if r - q < 8 then 256 * pkn T q (r - q) + T.getD (q + (r - q)) 0 else pkn T q (r - q)) = _
        rw [if_pos c, er]
      simp only [pb_l2, pb_ll, nI_add, pb_mul, if_true, if_false, pb_bs, pb_b2n, pb_bz0, pb_bz1, pb_10, pb_01, pn_is, pn_g0, pn_g1, pn_g2, pn_g3, pn_g4, pn_g5, pn_g6, pn_g9, mL_g0, mL_p0, mL_g1, mL_p1, mL_g2, mL_p2, mL_g3, mL_p3, mL_g4, mL_p4, mL_g5, mL_p5, mL_g6, mL_p6, mL_g7, mL_p7, mL_g8, mL_p8, mL_g9, mL_p9, mL_g10, mL_p10, mL_g11, mL_p11, mL_g12, mL_p12, mL_g13, mL_p13, mL_g14, mL_p14, mL_g15, mL_p15, er, e1, M_let1 ht h2 (hP r h1 (Nat.le_refl r)), c0, mz_ai ht h2, mb_nn (show T.getD r 0 < 128 by omega), sh8 (pkn_55 c hb) (show T.getD r 0 < 256 by omega), e2]
    · have c0 : (nI 8 ≤ nI (r - q)) = True := eq_true (nI_le (by omega) (by omega))
      have e2 : pkn T q (r - q + 1) = pkn T q (r - q) := by
        show (if r - q < 8 then 256 * pkn T q (r - q) + T.getD (q + (r - q)) 0 else pkn T q (r - q)) = _
        rw [if_neg c]
      simp only [pb_l2, pb_ll, nI_add, pb_mul, if_true, if_false, pb_bs, pb_b2n, pb_bz0, pb_bz1, pb_10, pb_01, pn_is, pn_g0, pn_g1, pn_g2, pn_g3, pn_g4, pn_g5, pn_g6, pn_g9, mL_g0, mL_p0, mL_g1, mL_p1, mL_g2, mL_p2, mL_g3, mL_p3, mL_g4, mL_p4, mL_g5, mL_p5, mL_g6, mL_p6, mL_g7, mL_p7, mL_g8, mL_p8, mL_g9, mL_p9, mL_g10, mL_p10, mL_g11, mL_p11, mL_g12, mL_p12, mL_g13, mL_p13, mL_g14, mL_p14, mL_g15, mL_p15, er, e1, M_let1 ht h2 (hP r h1 (Nat.le_refl r)), c0, e2]
  · have er : q + (r - q) = r := by omega
    unfold mm_M_isWord_b10
    simp only [pb_l2, pb_ll, nI_add, pb_mul, if_true, if_false, pb_bs, pb_b2n, pb_bz0, pb_bz1, pb_10, pb_01, pn_is, pn_g0, pn_g1, pn_g2, pn_g3, pn_g4, pn_g5, pn_g6, pn_g9, mL_g0, mL_p0, mL_g1, mL_p1, mL_g2, mL_p2, mL_g3, mL_p3, mL_g4, mL_p4, mL_g5, mL_p5, mL_g6, mL_p6, mL_g7, mL_p7, mL_g8, mL_p8, mL_g9, mL_p9, mL_g10, mL_p10, mL_g11, mL_p11, mL_g12, mL_p12, mL_g13, mL_p13, mL_g14, mL_p14, mL_g15, mL_p15, er, M_let0 ht (show r < 2147483648 by omega) hP]
theorem eL_le {T : List Nat} {q : Nat} : q ≤ eL T q := sc_le
theorem eL_ub {T : List Nat} {q : Nat} (h : q ≤ T.length) : eL T q ≤ T.length := sc_ub h
theorem eL_let {T : List Nat} {q i : Nat} (h : i < eL T q - q) : 97 ≤ T.getD (q + i) 0 ∧ T.getD (q + i) 0 ≤ 122 := of_decide_eq_true (sc_in (P := isL T) (L := T.length) (p := q) (by omega) (show q + i < eL T q by omega))
theorem M_word1 {T W : List Nat} {p k : Nat} (ht : mz tp T) (hp : p ≤ T.length) (hN : 500 < N) (hW : wl W) (hk : pkn W 0 W.length = k) (hw : wis T (blk T p) W) : mm_M_isWord N (some 118) (lN k) (pm_M n f (mL (nI T.length) m1 (nI p) m3 m4 m5 m6 m7 m8 m9 m10 m11 m12 m13 m14 m15) dx tp sg lg cl cs rd op sk wd sd th fa ws kp li pr hb fi st im jf jx mk) = some (nI 1, (pm_M n f (mL (nI T.length) m1 (nI (blk T p)) m3 m4 m5 m6 m7 m8 m9 m10 m11 m12 m13 m14 m15) dx tp sg lg cl cs rd op sk wd sd th fa ws kp li pr hb fi st im jf jx mk)) := by
  have hq := blk_ub hp
  obtain ⟨w1, w2⟩ := hw
  obtain ⟨l1, l2, l3⟩ := hW
  have e : ss_lp (mm_M_isWord_b10 N (some 118) (lN k) (pm_M n f (mL (nI T.length) m1 (nI (blk T p)) m3 m4 m5 m6 m7 m8 m9 m10 m11 m12 m13 m14 m15) dx tp sg lg cl cs rd op sk wd sd th fa ws kp li pr hb fi st im jf jx mk)) N (lN 0, nI 0) = some (lN (pkn T (blk T p) (eL T (blk T p) - blk T p)), nI (eL T (blk T p) - blk T p)) := M_pack ht hq hN
  rw [w1, pkn_cg _ w2, hk] at e
  unfold mm_M_isWord mm_M_isWord_j78 mm_M_isWord_j79
  have c1 : (nI W.length ≤ nI 0) = False := eq_false (nI_ge l1 (by omega))
  have c2 : (nI 9 ≤ nI W.length) = False := eq_false (nI_ge (by omega) (by omega))
  have c3 : (lg_cmp (lN k) (lN k) = nI 0) = True := eq_true ((pl_eq _ _).mpr rfl)
  simp only [pb_l2, pb_ll, nI_add, pb_mul, if_true, if_false, pb_bs, pb_b2n, pb_bz0, pb_bz1, pb_10, pb_01, pn_is, pn_g0, pn_g1, pn_g2, pn_g3, pn_g4, pn_g5, pn_g6, pn_g9, mL_g0, mL_p0, mL_g1, mL_p1, mL_g2, mL_p2, mL_g3, mL_p3, mL_g4, mL_p4, mL_g5, mL_p5, mL_g6, mL_p6, mL_g7, mL_p7, mL_g8, mL_p8, mL_g9, mL_p9, mL_g10, mL_p10, mL_g11, mL_p11, mL_g12, mL_p12, mL_g13, mL_p13, mL_g14, mL_p14, mL_g15, mL_p15, M_see ht hp hN, e, c1, c2, c3]
theorem M_word0 {T W : List Nat} {p k : Nat} (ht : mz tp T) (hp : p ≤ T.length) (hN : 500 < N) (hW : wl W) (hk : pkn W 0 W.length = k) (hw : ¬ wis T (blk T p) W) : mm_M_isWord N (some 118) (lN k) (pm_M n f (mL (nI T.length) m1 (nI p) m3 m4 m5 m6 m7 m8 m9 m10 m11 m12 m13 m14 m15) dx tp sg lg cl cs rd op sk wd sd th fa ws kp li pr hb fi st im jf jx mk) = some (nI 0, (pm_M n f (mL (nI T.length) m1 (nI (blk T p)) m3 m4 m5 m6 m7 m8 m9 m10 m11 m12 m13 m14 m15) dx tp sg lg cl cs rd op sk wd sd th fa ws kp li pr hb fi st im jf jx mk)) := by
  have hl := ht.1
  have hq := blk_ub hp
  obtain ⟨l1, l2, l3⟩ := hW
  have e : ss_lp (mm_M_isWord_b10 N (some 118) (lN k) (pm_M n f (mL (nI T.length) m1 (nI (blk T p)) m3 m4 m5 m6 m7 m8 m9 m10 m11 m12 m13 m14 m15) dx tp sg lg cl cs rd op sk wd sd th fa ws kp li pr hb fi st im jf jx mk)) N (lN 0, nI 0) = some (lN (pkn T (blk T p) (eL T (blk T p) - blk T p)), nI (eL T (blk T p) - blk T p)) := M_pack ht hq hN
  have hu := eL_ub hq
  unfold mm_M_isWord mm_M_isWord_j78 mm_M_isWord_j79
  by_cases c1 : eL T (blk T p) - blk T p = 0
  · have c1 : (nI (eL T (blk T p) - blk T p) ≤ nI 0) = True := eq_true (nI_le (by omega) (by omega))
    simp only [pb_l2, pb_ll, nI_add, pb_mul, if_true, if_false, pb_bs, pb_b2n, pb_bz0, pb_bz1, pb_10, pb_01, pn_is, pn_g0, pn_g1, pn_g2, pn_g3, pn_g4, pn_g5, pn_g6, pn_g9, mL_g0, mL_p0, mL_g1, mL_p1, mL_g2, mL_p2, mL_g3, mL_p3, mL_g4, mL_p4, mL_g5, mL_p5, mL_g6, mL_p6, mL_g7, mL_p7, mL_g8, mL_p8, mL_g9, mL_p9, mL_g10, mL_p10, mL_g11, mL_p11, mL_g12, mL_p12, mL_g13, mL_p13, mL_g14, mL_p14, mL_g15, mL_p15, M_see ht hp hN, e, c1]
  · have d1 : (nI (eL T (blk T p) - blk T p) ≤ nI 0) = False := eq_false (nI_ge (by omega) (by omega))
    by_cases c2 : 9 ≤ eL T (blk T p) - blk T p
    · have d2 : (nI 9 ≤ nI (eL T (blk T p) - blk T p)) = True := eq_true (nI_le c2 (by omega))
      simp only [pb_l2, pb_ll, nI_add, pb_mul, if_true, if_false, pb_bs, pb_b2n, pb_bz0, pb_bz1, pb_10, pb_01, pn_is, pn_g0, pn_g1, pn_g2, pn_g3, pn_g4, pn_g5, pn_g6, pn_g9, mL_g0, mL_p0, mL_g1, mL_p1, mL_g2, mL_p2, mL_g3, mL_p3, mL_g4, mL_p4, mL_g5, mL_p5, mL_g6, mL_p6, mL_g7, mL_p7, mL_g8, mL_p8, mL_g9, mL_p9, mL_g10, mL_p10, mL_g11, mL_p11, mL_g12, mL_p12, mL_g13, mL_p13, mL_g14, mL_p14, mL_g15, mL_p15, M_see ht hp hN, e, d1, d2]
    · have d2 : (nI 9 ≤ nI (eL T (blk T p) - blk T p)) = False := eq_false (nI_ge (by omega) (by omega))
      have d3 : (lg_cmp (lN (pkn T (blk T p) (eL T (blk T p) - blk T p))) (lN k) = nI 0) = False := eq_false (fun q => by
        have q := (pl_eq _ _).mp q
        have b1 := pkn_63 (T := T) (q := blk T p) (show eL T (blk T p) - blk T p ≤ 8 by omega) (fun i hi => (eL_let hi).2)
        have b2 := pkn_63 (T := W) (q := 0) l2 (fun i hi => by rw [Nat.zero_add]; exact (l3 i hi).2)
        have q2 : pkn T (blk T p) (eL T (blk T p) - blk T p) = pkn W 0 W.length := by
          have e1 : ∀ w, (lN w).toBitVec.toNat = w % 2 ^ 64 := fun w => rfl
          have := congrArg (fun z : Int64 => z.toBitVec.toNat) q
          simp only [e1] at this
          rw [Nat.mod_eq_of_lt (show pkn T (blk T p) (eL T (blk T p) - blk T p) < 2 ^ 64 by omega), Nat.mod_eq_of_lt (show k < 2 ^ 64 by omega)] at this
          omega
        have := pkn_inj _ _ (by omega) l2 (fun i hi => by have := eL_let hi; omega) (fun i hi => by have := l3 i hi; omega) q2
        exact hw ⟨this.1, fun i hi => this.2 i (by omega)⟩)
      simp only [pb_l2, pb_ll, nI_add, pb_mul, if_true, if_false, pb_bs, pb_b2n, pb_bz0, pb_bz1, pb_10, pb_01, pn_is, pn_g0, pn_g1, pn_g2, pn_g3, pn_g4, pn_g5, pn_g6, pn_g9, mL_g0, mL_p0, mL_g1, mL_p1, mL_g2, mL_p2, mL_g3, mL_p3, mL_g4, mL_p4, mL_g5, mL_p5, mL_g6, mL_p6, mL_g7, mL_p7, mL_g8, mL_p8, mL_g9, mL_p9, mL_g10, mL_p10, mL_g11, mL_p11, mL_g12, mL_p12, mL_g13, mL_p13, mL_g14, mL_p14, mL_g15, mL_p15, M_see ht hp hN, e, d1, d2, d3]
end ML
