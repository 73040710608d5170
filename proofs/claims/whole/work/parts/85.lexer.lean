/-! ===== reading the tape ===== -/
def scan (P : Nat → Bool) : Nat → Nat → Nat
  | 0, p => p
  | k + 1, p => if P p = true then scan P k (p + 1) else p
def sc (P : Nat → Bool) (L p : Nat) : Nat := scan P (L - p) p
theorem sc_t {P : Nat → Bool} {L p : Nat} (hp : p < L) (h : P p = true) : sc P L p = sc P L (p + 1) := by
  unfold sc
  obtain ⟨k, hk⟩ : ∃ k, L - p = k + 1 := ⟨L - p - 1, by omega⟩
  rw [hk, show L - (p + 1) = k by omega]
  show (if P p = true then scan P k (p + 1) else p) = _
  rw [if_pos h]
theorem sc_f {P : Nat → Bool} {L p : Nat} (h : p < L → P p = false) : sc P L p = p := by
  unfold sc
  rcases Nat.lt_or_ge p L with q | q
  · obtain ⟨k, hk⟩ : ∃ k, L - p = k + 1 := ⟨L - p - 1, by omega⟩
    rw [hk]
    show (if P p = true then scan P k (p + 1) else p) = p
    rw [h q]
    rfl
  · rw [show L - p = 0 by omega]
    rfl
theorem sc_ind {P : Nat → Bool} {L : Nat} (R : Nat → Nat → Prop) (h0 : ∀ p, (p < L → P p = false) → R p p) (h1 : ∀ p r, p < L → P p = true → R (p + 1) r → R p r) (p : Nat) : R p (sc P L p) := by
  have key : ∀ d p, L - p = d → R p (sc P L p) := by
    intro d
    induction d with
    | zero => intro p hd; rw [sc_f (fun q => by omega)]; exact h0 p (fun q => by omega)
    | succ d ih =>
      intro p hd
      cases hP : P p with
      | true => rw [sc_t (by omega) hP]; exact h1 p _ (by omega) hP (ih (p + 1) (by omega))
      | false => rw [sc_f (fun _ => hP)]; exact h0 p (fun _ => hP)
  exact key _ p rfl
theorem sc_le {P : Nat → Bool} {L p : Nat} : p ≤ sc P L p := sc_ind (fun p r => p ≤ r) (fun p _ => Nat.le_refl p) (fun p r _ _ h => by omega) p
theorem sc_ub {P : Nat → Bool} {L p : Nat} (h : p ≤ L) : sc P L p ≤ L := sc_ind (fun p r => p ≤ L → r ≤ L) (fun p _ h => h) (fun p r hp _ ih _ => ih (by omega)) p h
theorem sc_in {P : Nat → Bool} {L p q : Nat} (h1 : p ≤ q) (h2 : q < sc P L p) : P q = true :=
  sc_ind (fun p r => p ≤ q → q < r → P q = true) (fun p _ h1 h2 => by omega) (fun p r hp hP ih h1 h2 => by
    rcases Nat.eq_or_lt_of_le h1 with e | e
    · exact e ▸ hP
    · exact ih e h2) p h1 h2
theorem sc_end {P : Nat → Bool} {L p : Nat} (h : sc P L p < L) : P (sc P L p) = false := sc_ind (fun p r => r < L → P r = false) (fun p h => h) (fun _ _ _ _ ih => ih) p h
theorem sc_id {P : Nat → Bool} {L p : Nat} : sc P L (sc P L p) = sc P L p := sc_f sc_end
theorem lp_sc2 {S E : Type} {body : S → Option (S ⊕ E)} {P : Nat → Bool} {L : Nat} (st : Nat → S) (out : Nat → E) {p N : Nat} (hp : p ≤ L) (hs : ∀ q, p ≤ q → q < L → (∀ t, p ≤ t → t ≤ q → P t = true) → body (st q) = some (.inl (st (q + 1)))) (he : ∀ q, p ≤ q → q ≤ L → (∀ t, p ≤ t → t < q → P t = true) → (q < L → P q = false) → body (st q) = some (.inr (out q))) (hN : L - p < N) : ss_lp body N (st p) = some (out (sc P L p)) := by
  have key : ∀ d r N, L - r = d → p ≤ r → r ≤ L → d < N → (∀ t, p ≤ t → t < r → P t = true) → ss_lp body N (st r) = some (out (sc P L r)) := by
    intro d
    induction d with
    | zero =>
      intro r N hd h1 h2 hN ho
      obtain ⟨N, rfl⟩ : ∃ N', N = N' + 1 := ⟨N - 1, by omega⟩
      have c : r < L → P r = false := fun q => by omega
      rw [sc_f c]
      show (match body (st r) with | none => none | some (.inl s') => ss_lp body N s' | some (.inr e) => some e) = _
      rw [he r h1 h2 ho c]
    | succ d ih =>
      intro r N hd h1 h2 hN ho
      obtain ⟨N, rfl⟩ : ∃ N', N = N' + 1 := ⟨N - 1, by omega⟩
      show (match body (st r) with | none => none | some (.inl s') => ss_lp body N s' | some (.inr e) => some e) = _
      cases hP : P r with
      | true =>
        have ho2 : ∀ t, p ≤ t → t < r + 1 → P t = true := fun t q1 q2 => by
          rcases Nat.lt_or_ge t r with c | c
          · exact ho t q1 c
          · have e : t = r := by omega
            rw [e]; exact hP
        rw [hs r h1 (by omega) (fun t q1 q2 => ho2 t q1 (by omega)), sc_t (by omega) hP]
        exact ih (r + 1) N (by omega) (by omega) (by omega) (by omega) ho2
      | false =>
        rw [he r h1 h2 ho (fun _ => hP), sc_f (fun _ => hP)]
  exact key _ p N rfl (Nat.le_refl p) hp hN (fun t q1 q2 => by omega)
theorem lp_sc {S E : Type} {body : S → Option (S ⊕ E)} {P : Nat → Bool} {L : Nat} (st : Nat → S) (out : Nat → E) {p N : Nat} (hp : p ≤ L) (hs : ∀ q, p ≤ q → q < L → P q = true → body (st q) = some (.inl (st (q + 1)))) (he : ∀ q, p ≤ q → q ≤ L → (q < L → P q = false) → body (st q) = some (.inr (out q))) (hN : L - p < N) : ss_lp body N (st p) = some (out (sc P L p)) := lp_sc2 st out hp (fun q h1 h2 h3 => hs q h1 h2 (h3 q h1 (Nat.le_refl q))) (fun q h1 h2 _ h3 => he q h1 h2 h3) hN
def isB (T : List Nat) (i : Nat) : Bool := T.getD i 0 == 32
def isL (T : List Nat) (i : Nat) : Bool := decide (97 ≤ T.getD i 0 ∧ T.getD i 0 ≤ 122)
def isD (T : List Nat) (i : Nat) : Bool := decide (48 ≤ T.getD i 0 ∧ T.getD i 0 ≤ 57)
def blk (T : List Nat) (p : Nat) : Nat := sc (isB T) T.length p
def tk (T : List Nat) (f : Nat) : Nat := if f < T.length then if isL T f = true then 1 else if isD T f = true then 2 else 3 else 0
def an (T : List Nat) (f : Nat) : Prop := (T.getD f 0 = 60 ∨ T.getD f 0 = 62) ∧ f + 1 < T.length ∧ T.getD (f + 1) 0 = 61
noncomputable def en (T : List Nat) (f : Nat) : Nat := if f < T.length then if isL T f = true then sc (isL T) T.length (f + 1) else if isD T f = true then sc (isD T) T.length (f + 1) else @ite _ (an T f) (Classical.propDecidable _) (f + 2) (f + 1) else f
def tH (h : ss_Hp) (a b c d e : Int32) : ss_Hp := (h.1, fun p => if p = 1 then (2, [a, b, c, d, e], [], [some 2]) else h.2 p)
section TH
variable {h : ss_Hp} {a b c d e : Int32} {N : Nat}
theorem tH_1 : (tH h a b c d e).2 1 = (2, [a, b, c, d, e], [], [some 2]) := rfl
theorem tH_o {p : Nat} (hp : p ≠ 1) : (tH h a b c d e).2 p = h.2 p := if_neg hp
theorem tH_hs {a' b' c' d' e' : Int32} : ss_hs (tH h a b c d e) 1 (2, [a', b', c', d', e'], [], [some 2]) = tH h a' b' c' d' e' := Prod.ext rfl (funext fun p => by
  show (if p = 1 then _ else if p = 1 then _ else h.2 p) = if p = 1 then _ else h.2 p
  by_cases q : p = 1
  · rw [if_pos q, if_pos q]
  · rw [if_neg q, if_neg q, if_neg q])
theorem tH_is : ss_is (tH h a b c d e) (some 1) 2 = true := Eq.trans rfl rfl
theorem tH_g0 : ss_gi (tH h a b c d e) (some 1) 2 0 = some a := Eq.trans rfl rfl
theorem tH_g1 : ss_gi (tH h a b c d e) (some 1) 2 1 = some b := Eq.trans rfl rfl
theorem tH_g2 : ss_gi (tH h a b c d e) (some 1) 2 2 = some c := Eq.trans rfl rfl
theorem tH_g3 : ss_gi (tH h a b c d e) (some 1) 2 3 = some d := Eq.trans rfl rfl
theorem tH_g4 : ss_gi (tH h a b c d e) (some 1) 2 4 = some e := Eq.trans rfl rfl
theorem tH_r : ss_gr (tH h a b c d e) (some 1) 2 0 = some (some 2) := Eq.trans rfl rfl
theorem tH_p0 {y : Int32} : ss_pi (tH h a b c d e) (some 1) 2 0 y = some (tH h y b c d e) := congrArg some tH_hs
theorem tH_p1 {y : Int32} : ss_pi (tH h a b c d e) (some 1) 2 1 y = some (tH h a y c d e) := congrArg some tH_hs
theorem tH_p2 {y : Int32} : ss_pi (tH h a b c d e) (some 1) 2 2 y = some (tH h a b y d e) := congrArg some tH_hs
theorem tH_p3 {y : Int32} : ss_pi (tH h a b c d e) (some 1) 2 3 y = some (tH h a b c y e) := congrArg some tH_hs
theorem tH_p4 {y : Int32} : ss_pi (tH h a b c d e) (some 1) 2 4 y = some (tH h a b c d y) := congrArg some tH_hs
def tz (h : ss_Hp) (T : List Nat) : Prop := T.length ≤ 400 ∧ (∀ i, i < T.length → T.getD i 0 < 256) ∧ ∃ tb, h.2 2 = (20, tb, [], []) ∧ tb.length = 400 ∧ ∀ i, i < T.length → pv tb i = nI (T.getD i 0)
theorem tz_ai {T : List Nat} {i : Nat} (ht : tz h T) (hi : i < T.length) : ss_ai (tH h a b c d e) (some 2) 20 (nI i) = some (nI (T.getD i 0)) := by
  obtain ⟨h1, h2, tb, h3, h4, h5⟩ := ht
  rw [pb_ai ((tH_o (by omega)).trans h3) (by omega), pv_get (by omega), h5 i hi]
theorem T_let1 {T : List Nat} {i : Nat} (ht : tz h T) (hi : i < T.length) (hl : isL T i = true) : mm_T_isLetter N (some 1) (nI i) (tH h a b c d e) = some (nI 1) := by
  have hb := ht.2.1 i hi
  have hl := of_decide_eq_true hl
  have c1 : (nI (T.getD i 0) < nI 97) = False := eq_false (nI_nlt hl.1 (by omega))
  have c2 : (nI 122 < nI (T.getD i 0)) = False := eq_false (nI_nlt hl.2 (by omega))
  unfold mm_T_isLetter mm_T_isLetter_j26 mm_T_isLetter_j27
  simp only [pb_l2, pb_ll, nI_add, pb_mul, if_true, if_false, pb_bs, pb_b2n, pb_bz0, pb_bz1, pb_10, pb_01, tH_is, tH_g0, tH_g1, tH_g2, tH_g3, tH_g4, tH_p0, tH_p1, tH_p2, tH_p3, tH_p4, tH_r, tz_ai ht hi, c1, c2]
theorem T_let0 {T : List Nat} {i : Nat} (ht : tz h T) (hi : i < T.length) (hl : isL T i = false) : mm_T_isLetter N (some 1) (nI i) (tH h a b c d e) = some (nI 0) := by
  have hb := ht.2.1 i hi
  have hl := of_decide_eq_false hl
  unfold mm_T_isLetter mm_T_isLetter_j26 mm_T_isLetter_j27
  by_cases c1 : T.getD i 0 < 97
  · have c1 : (nI (T.getD i 0) < nI 97) = True := eq_true (nI_lt c1 (by omega))
    simp only [pb_l2, pb_ll, nI_add, pb_mul, if_true, if_false, pb_bs, pb_b2n, pb_bz0, pb_bz1, pb_10, pb_01, tH_is, tH_g0, tH_g1, tH_g2, tH_g3, tH_g4, tH_p0, tH_p1, tH_p2, tH_p3, tH_p4, tH_r, tz_ai ht hi, c1]
  · have c2 : (nI 122 < nI (T.getD i 0)) = True := eq_true (nI_lt (by omega) (by omega))
    have c1 : (nI (T.getD i 0) < nI 97) = False := eq_false (nI_nlt (by omega) (by omega))
    simp only [pb_l2, pb_ll, nI_add, pb_mul, if_true, if_false, pb_bs, pb_b2n, pb_bz0, pb_bz1, pb_10, pb_01, tH_is, tH_g0, tH_g1, tH_g2, tH_g3, tH_g4, tH_p0, tH_p1, tH_p2, tH_p3, tH_p4, tH_r, tz_ai ht hi, c1, c2]
theorem T_dig1 {T : List Nat} {i : Nat} (ht : tz h T) (hi : i < T.length) (hl : isD T i = true) : mm_T_isDigit N (some 1) (nI i) (tH h a b c d e) = some (nI 1) := by
  have hb := ht.2.1 i hi
  have hl := of_decide_eq_true hl
  have c1 : (nI (T.getD i 0) < nI 48) = False := eq_false (nI_nlt hl.1 (by omega))
  have c2 : (nI 57 < nI (T.getD i 0)) = False := eq_false (nI_nlt hl.2 (by omega))
  unfold mm_T_isDigit mm_T_isDigit_j26 mm_T_isDigit_j27
  simp only [pb_l2, pb_ll, nI_add, pb_mul, if_true, if_false, pb_bs, pb_b2n, pb_bz0, pb_bz1, pb_10, pb_01, tH_is, tH_g0, tH_g1, tH_g2, tH_g3, tH_g4, tH_p0, tH_p1, tH_p2, tH_p3, tH_p4, tH_r, tz_ai ht hi, c1, c2]
theorem T_dig0 {T : List Nat} {i : Nat} (ht : tz h T) (hi : i < T.length) (hl : isD T i = false) : mm_T_isDigit N (some 1) (nI i) (tH h a b c d e) = some (nI 0) := by
  have hb := ht.2.1 i hi
  have hl := of_decide_eq_false hl
  unfold mm_T_isDigit mm_T_isDigit_j26 mm_T_isDigit_j27
  by_cases c1 : T.getD i 0 < 48
  · have c1 : (nI (T.getD i 0) < nI 48) = True := eq_true (nI_lt c1 (by omega))
    simp only [pb_l2, pb_ll, nI_add, pb_mul, if_true, if_false, pb_bs, pb_b2n, pb_bz0, pb_bz1, pb_10, pb_01, tH_is, tH_g0, tH_g1, tH_g2, tH_g3, tH_g4, tH_p0, tH_p1, tH_p2, tH_p3, tH_p4, tH_r, tz_ai ht hi, c1]
  · have c2 : (nI 57 < nI (T.getD i 0)) = True := eq_true (nI_lt (by omega) (by omega))
    have c1 : (nI (T.getD i 0) < nI 48) = False := eq_false (nI_nlt (by omega) (by omega))
    simp only [pb_l2, pb_ll, nI_add, pb_mul, if_true, if_false, pb_bs, pb_b2n, pb_bz0, pb_bz1, pb_10, pb_01, tH_is, tH_g0, tH_g1, tH_g2, tH_g3, tH_g4, tH_p0, tH_p1, tH_p2, tH_p3, tH_p4, tH_r, tz_ai ht hi, c1, c2]
theorem T_skip {T : List Nat} {p : Nat} (ht : tz h T) (hp : p ≤ T.length) (hN : 500 < N) : ss_lp (mm_T_advance_b8 N (some 1)) N (tH h (nI T.length) b c (nI p) e) = some (tH h (nI T.length) b c (nI (blk T p)) e) := by
  have hl := ht.1
  refine lp_sc (P := isB T) (L := T.length) (fun q => tH h (nI T.length) b c (nI q) e) (fun q => tH h (nI T.length) b c (nI q) e) hp (fun q h1 h2 hP => ?_) (fun q h1 h2 hP => ?_) (by omega)
  · have c0 : (nI T.length ≤ nI q) = False := eq_false (nI_ge h2 (by omega))
    have c1 : T.getD q 0 = 32 := by simpa [isB] using hP
    have c2 := tz_ai (a := nI T.length) (b := b) (c := c) (d := nI q) (e := e) ht h2
    rw [c1] at c2
    unfold mm_T_advance_b8
    simp only [pb_l2, pb_ll, nI_add, pb_mul, if_true, if_false, pb_bs, pb_b2n, pb_bz0, pb_bz1, pb_10, pb_01, tH_is, tH_g0, tH_g1, tH_g2, tH_g3, tH_g4, tH_p0, tH_p1, tH_p2, tH_p3, tH_p4, tH_r, c0, c2]
  · unfold mm_T_advance_b8
    by_cases c : q < T.length
    · have c0 : (nI T.length ≤ nI q) = False := eq_false (nI_ge c (by omega))
      have c1 : T.getD q 0 ≠ 32 := by simpa [isB] using hP c
      have hb := ht.2.1 q c
      have c3 : (nI (T.getD q 0) = nI 32) = False := pb_nn c1 (by omega) (by omega)
      simp only [pb_l2, pb_ll, nI_add, pb_mul, if_true, if_false, pb_bs, pb_b2n, pb_bz0, pb_bz1, pb_10, pb_01, tH_is, tH_g0, tH_g1, tH_g2, tH_g3, tH_g4, tH_p0, tH_p1, tH_p2, tH_p3, tH_p4, tH_r, c0, tz_ai ht c, c3]
    · have c0 : (nI T.length ≤ nI q) = True := eq_true (nI_le (by omega) (by omega))
      simp only [pb_l2, pb_ll, nI_add, pb_mul, if_true, if_false, pb_bs, pb_b2n, pb_bz0, pb_bz1, pb_10, pb_01, tH_is, tH_g0, tH_g1, tH_g2, tH_g3, tH_g4, tH_p0, tH_p1, tH_p2, tH_p3, tH_p4, tH_r, c0]
theorem T_lets {T : List Nat} {p : Nat} (ht : tz h T) (hp : p ≤ T.length) (hN : 500 < N) : ss_lp (mm_T_advance_b99 N (some 1)) N (tH h (nI T.length) b c d (nI p)) = some (tH h (nI T.length) b c d (nI (sc (isL T) T.length p))) := by
  have hl := ht.1
  refine lp_sc (P := isL T) (L := T.length) (fun q => tH h (nI T.length) b c d (nI q)) (fun q => tH h (nI T.length) b c d (nI q)) hp (fun q h1 h2 hP => ?_) (fun q h1 h2 hP => ?_) (by omega)
  · have c0 : (nI T.length ≤ nI q) = False := eq_false (nI_ge h2 (by omega))
    unfold mm_T_advance_b99
    simp only [pb_l2, pb_ll, nI_add, pb_mul, if_true, if_false, pb_bs, pb_b2n, pb_bz0, pb_bz1, pb_10, pb_01, tH_is, tH_g0, tH_g1, tH_g2, tH_g3, tH_g4, tH_p0, tH_p1, tH_p2, tH_p3, tH_p4, tH_r, c0, T_let1 ht h2 hP]
  · unfold mm_T_advance_b99
    by_cases c : q < T.length
    · have c0 : (nI T.length ≤ nI q) = False := eq_false (nI_ge c (by omega))
      simp only [pb_l2, pb_ll, nI_add, pb_mul, if_true, if_false, pb_bs, pb_b2n, pb_bz0, pb_bz1, pb_10, pb_01, tH_is, tH_g0, tH_g1, tH_g2, tH_g3, tH_g4, tH_p0, tH_p1, tH_p2, tH_p3, tH_p4, tH_r, c0, T_let0 ht c (hP c)]
    · have c0 : (nI T.length ≤ nI q) = True := eq_true (nI_le (by omega) (by omega))
      simp only [pb_l2, pb_ll, nI_add, pb_mul, if_true, if_false, pb_bs, pb_b2n, pb_bz0, pb_bz1, pb_10, pb_01, tH_is, tH_g0, tH_g1, tH_g2, tH_g3, tH_g4, tH_p0, tH_p1, tH_p2, tH_p3, tH_p4, tH_r, c0]
theorem T_digs {T : List Nat} {p : Nat} (ht : tz h T) (hp : p ≤ T.length) (hN : 500 < N) : ss_lp (mm_T_advance_b150 N (some 1)) N (tH h (nI T.length) b c d (nI p)) = some (tH h (nI T.length) b c d (nI (sc (isD T) T.length p))) := by
  have hl := ht.1
  refine lp_sc (P := isD T) (L := T.length) (fun q => tH h (nI T.length) b c d (nI q)) (fun q => tH h (nI T.length) b c d (nI q)) hp (fun q h1 h2 hP => ?_) (fun q h1 h2 hP => ?_) (by omega)
  · have c0 : (nI T.length ≤ nI q) = False := eq_false (nI_ge h2 (by omega))
    unfold mm_T_advance_b150
    simp only [pb_l2, pb_ll, nI_add, pb_mul, if_true, if_false, pb_bs, pb_b2n, pb_bz0, pb_bz1, pb_10, pb_01, tH_is, tH_g0, tH_g1, tH_g2, tH_g3, tH_g4, tH_p0, tH_p1, tH_p2, tH_p3, tH_p4, tH_r, c0, T_dig1 ht h2 hP]
  · unfold mm_T_advance_b150
    by_cases c : q < T.length
    · have c0 : (nI T.length ≤ nI q) = False := eq_false (nI_ge c (by omega))
      simp only [pb_l2, pb_ll, nI_add, pb_mul, if_true, if_false, pb_bs, pb_b2n, pb_bz0, pb_bz1, pb_10, pb_01, tH_is, tH_g0, tH_g1, tH_g2, tH_g3, tH_g4, tH_p0, tH_p1, tH_p2, tH_p3, tH_p4, tH_r, c0, T_dig0 ht c (hP c)]
    · have c0 : (nI T.length ≤ nI q) = True := eq_true (nI_le (by omega) (by omega))
      simp only [pb_l2, pb_ll, nI_add, pb_mul, if_true, if_false, pb_bs, pb_b2n, pb_bz0, pb_bz1, pb_10, pb_01, tH_is, tH_g0, tH_g1, tH_g2, tH_g3, tH_g4, tH_p0, tH_p1, tH_p2, tH_p3, tH_p4, tH_r, c0]
theorem blk_ub {T : List Nat} {p : Nat} (hp : p ≤ T.length) : blk T p ≤ T.length := sc_ub hp
noncomputable def lx (h : ss_Hp) (T : List Nat) (F : Int32) (p : Nat) : ss_Hp := tH h (nI T.length) F (nI (tk T (blk T p))) (nI (blk T p)) (nI (en T (blk T p)))
theorem T_advance {T : List Nat} {p : Nat} (ht : tz h T) (hp : p ≤ T.length) (hN : 500 < N) : mm_T_advance N (some 1) (tH h (nI T.length) b c d (nI p)) = some (lx h T b p) := by
  have hl := ht.1
  have hf := blk_ub hp
  unfold mm_T_advance lx
  simp only [pb_l2, pb_ll, nI_add, pb_mul, if_true, if_false, pb_bs, pb_b2n, pb_bz0, pb_bz1, pb_10, pb_01, tH_is, tH_g0, tH_g1, tH_g2, tH_g3, tH_g4, tH_p0, tH_p1, tH_p2, tH_p3, tH_p4, tH_r, T_skip ht hp hN]
  generalize blk T p = f at hf ⊢
  by_cases cf : f < T.length
  · have c0 : (nI f < nI T.length) = True := eq_true (nI_lt cf (by omega))
    have hb := ht.2.1 f cf
    unfold tk en
    simp only [c0, if_true, if_pos cf]
    cases cL : isL T f with
    | true =>
      unfold mm_T_advance_j263
      simp only [pb_l2, pb_ll, nI_add, pb_mul, if_true, if_false, pb_bs, pb_b2n, pb_bz0, pb_bz1, pb_10, pb_01, tH_is, tH_g0, tH_g1, tH_g2, tH_g3, tH_g4, tH_p0, tH_p1, tH_p2, tH_p3, tH_p4, tH_r, T_let1 ht cf cL, T_lets ht (show f + 1 ≤ T.length by omega) hN]
    | false =>
      cases cD : isD T f with
      | true =>
        unfold mm_T_advance_j263
        simp only [pb_l2, pb_ll, nI_add, pb_mul, if_true, if_false, pb_bs, pb_b2n, pb_bz0, pb_bz1, pb_10, pb_01, tH_is, tH_g0, tH_g1, tH_g2, tH_g3, tH_g4, tH_p0, tH_p1, tH_p2, tH_p3, tH_p4, tH_r, T_let0 ht cf cL, T_dig1 ht cf cD, T_digs ht (show f + 1 ≤ T.length by omega) hN, Bool.false_eq_true]
      | false =>
        by_cases c6 : T.getD f 0 = 60 ∨ T.getD f 0 = 62
        · have key : mm_T_advance_j218 N (some 1) (tH h (nI T.length) b (nI 3) (nI f) (nI (f + 1))) = some (tH h (nI T.length) b (nI 3) (nI f) (nI (@ite _ (an T f) (Classical.propDecidable _) (f + 2) (f + 1)))) := by
            unfold mm_T_advance_j218 mm_T_advance_j223 mm_T_advance_j263
            by_cases c7 : f + 1 < T.length
            · have c8 : (nI T.length ≤ nI (f + 1)) = False := eq_false (nI_ge c7 (by omega))
              have hb2 := ht.2.1 (f + 1) c7
              by_cases c9 : T.getD (f + 1) 0 = 61
              · have ha : an T f := ⟨c6, c7, c9⟩
                have d2 := tz_ai (a := nI T.length) (b := b) (c := nI 3) (d := nI f) (e := nI (f + 1)) ht c7
                rw [c9] at d2
                simp only [pb_l2, pb_ll, nI_add, pb_mul, if_true, if_false, pb_bs, pb_b2n, pb_bz0, pb_bz1, pb_10, pb_01, tH_is, tH_g0, tH_g1, tH_g2, tH_g3, tH_g4, tH_p0, tH_p1, tH_p2, tH_p3, tH_p4, tH_r, c8, d2, if_pos ha]
              · have ha : ¬ an T f := fun q => c9 q.2.2
                have d3 : (nI (T.getD (f + 1) 0) = nI 61) = False := pb_nn c9 (by omega) (by omega)
                simp only [pb_l2, pb_ll, nI_add, pb_mul, if_true, if_false, pb_bs, pb_b2n, pb_bz0, pb_bz1, pb_10, pb_01, tH_is, tH_g0, tH_g1, tH_g2, tH_g3, tH_g4, tH_p0, tH_p1, tH_p2, tH_p3, tH_p4, tH_r, c8, tz_ai ht c7, d3, if_neg ha]
            · have c8 : (nI T.length ≤ nI (f + 1)) = True := eq_true (nI_le (by omega) (by omega))
              have ha : ¬ an T f := fun q => c7 q.2.1
              simp only [pb_l2, pb_ll, nI_add, pb_mul, if_true, if_false, pb_bs, pb_b2n, pb_bz0, pb_bz1, pb_10, pb_01, tH_is, tH_g0, tH_g1, tH_g2, tH_g3, tH_g4, tH_p0, tH_p1, tH_p2, tH_p3, tH_p4, tH_r, c8, if_neg ha]
          rcases c6 with c6 | c6
          · have d2 := tz_ai (a := nI T.length) (b := b) (c := nI 3) (d := nI f) (e := nI (f + 1)) ht cf
            rw [c6] at d2
            simp only [pb_l2, pb_ll, nI_add, pb_mul, if_true, if_false, pb_bs, pb_b2n, pb_bz0, pb_bz1, pb_10, pb_01, tH_is, tH_g0, tH_g1, tH_g2, tH_g3, tH_g4, tH_p0, tH_p1, tH_p2, tH_p3, tH_p4, tH_r, T_let0 ht cf cL, T_dig0 ht cf cD, d2, key, Bool.false_eq_true]
          · have d2 := tz_ai (a := nI T.length) (b := b) (c := nI 3) (d := nI f) (e := nI (f + 1)) ht cf
            rw [c6] at d2
            have d3 : (nI 62 = nI 60) = False := pb_nn (by omega) (by omega) (by omega)
            simp only [pb_l2, pb_ll, nI_add, pb_mul, if_true, if_false, pb_bs, pb_b2n, pb_bz0, pb_bz1, pb_10, pb_01, tH_is, tH_g0, tH_g1, tH_g2, tH_g3, tH_g4, tH_p0, tH_p1, tH_p2, tH_p3, tH_p4, tH_r, T_let0 ht cf cL, T_dig0 ht cf cD, d2, d3, key, Bool.false_eq_true]
        · have ha : ¬ an T f := fun q => c6 q.1
          have d3 : (nI (T.getD f 0) = nI 60) = False := pb_nn (fun q => c6 (Or.inl q)) (by omega) (by omega)
          have d4 : (nI (T.getD f 0) = nI 62) = False := pb_nn (fun q => c6 (Or.inr q)) (by omega) (by omega)
          unfold mm_T_advance_j223 mm_T_advance_j263
          simp only [pb_l2, pb_ll, nI_add, pb_mul, if_true, if_false, pb_bs, pb_b2n, pb_bz0, pb_bz1, pb_10, pb_01, tH_is, tH_g0, tH_g1, tH_g2, tH_g3, tH_g4, tH_p0, tH_p1, tH_p2, tH_p3, tH_p4, tH_r, T_let0 ht cf cL, T_dig0 ht cf cD, tz_ai ht cf, d3, d4, if_neg ha, Bool.false_eq_true]
  · have c0 : (nI f < nI T.length) = False := eq_false (nI_nlt (by omega) (by omega))
    unfold mm_T_advance_j263 tk en
    simp only [pb_l2, pb_ll, nI_add, pb_mul, if_true, if_false, pb_bs, pb_b2n, pb_bz0, pb_bz1, pb_10, pb_01, tH_is, tH_g0, tH_g1, tH_g2, tH_g3, tH_g4, tH_p0, tH_p1, tH_p2, tH_p3, tH_p4, tH_r, c0, if_neg cf]
end TH
