/-! ===== words and numbers ===== -/
def wb (Ws : List (List Nat)) : Nat → Nat
  | 0 => 0
  | k + 1 => wb Ws k + (Ws.getD k []).length + 1
def wok (J : Nat) (Ws : List (List Nat)) : Prop := J < 9 ∧ 0 < Ws.length ∧ wb Ws Ws.length = ss_sL.getD J 0 + 1 ∧ ss_sL.getD J 0 < 450 ∧ (∀ k, k < Ws.length → ∀ j, j < (Ws.getD k []).length → ss_ch J (wb Ws k + j) = nI ((Ws.getD k []).getD j 0)) ∧ (∀ k, k + 1 < Ws.length → ss_ch J (wb Ws k + (Ws.getD k []).length) = nI 32) ∧ ∀ k, k < Ws.length → wl (Ws.getD k [])
theorem lp_out {S E : Type} {body : S → Option (S ⊕ E)} {s : S} {e : E} {N : Nat} (h : body s = some (.inr e)) (hN : 0 < N) : ss_lp body N s = some e := by
  obtain ⟨M', rfl⟩ : ∃ M', N = M' + 1 := ⟨N - 1, by omega⟩
  show (match body s with | none => none | some (.inl s') => ss_lp body M' s' | some (.inr e) => some e) = _
  rw [h]
theorem wb_mono {Ws : List (List Nat)} {k : Nat} : ∀ d, wb Ws k + d ≤ wb Ws (k + d) := by
  intro d
  induction d with
  | zero => exact Nat.le_refl _
  | succ d ih =>
    show _ ≤ wb Ws (k + d) + (Ws.getD (k + d) []).length + 1
    omega
theorem wb_le {Ws : List (List Nat)} {k K : Nat} (h : k < K) : wb Ws k + (Ws.getD k []).length + 1 ≤ wb Ws K := by
  have h1 := wb_mono (Ws := Ws) (k := k + 1) (K - (k + 1))
  rw [show k + 1 + (K - (k + 1)) = K by omega] at h1
  have h2 : wb Ws (k + 1) = wb Ws k + (Ws.getD k []).length + 1 := rfl
  omega
theorem sc_at {J i : Nat} (hJ : J < 9) (hi : i < ss_sL.getD J 0) (h2 : ss_sL.getD J 0 < 450) : ss_sc J (nI i) = some (ss_ch J i) := by
  unfold ss_sc
  rw [nI_clamp (by omega), if_pos ⟨hJ, nI_pos (by omega), hi⟩]
theorem sl_at {J : Nat} (hJ : J < 9) : ss_sl J = some (nI (ss_sL.getD J 0)) := if_pos hJ
def sm (T : List Nat) (q : Nat) (W : List Nat) (j : Nat) : Prop := j ≤ eL T q - q ∧ ∀ i, i < j → T.getD (q + i) 0 = W.getD i 0
section WQ
variable {h : ss_Hp} {a b c d e : Int32} {N : Nat}
theorem T_wordN {J : Nat} (hJ : J < 9) (hc : (c = nI 1) = False) (hN : 500 < N) : mm_T_wordIn N (some 1) J (tH h a b c d e) = some (-nI 1) := by
  have key : ss_lp (mm_T_wordIn_b13 N (some 1) J (tH h a b c d e)) N (nI 0, d, nI 1, nI 0) = some (.inl ()) := by
    refine lp_out ?_ (by omega)
    unfold mm_T_wordIn_b13
    have c0 : (nI (ss_sL.getD J 0) < nI 0) = False := eq_false (nI_nlt (by omega) (by have := ss_sLb J hJ; omega))
    simp only [pb_l2, pb_ll, nI_add, pb_mul, if_true, if_false, pb_bs, pb_b2n, pb_bz0, pb_bz1, pb_10, pb_01, tH_is, tH_g0, tH_g1, tH_g2, tH_g3, tH_g4, tH_p0, tH_p1, tH_p2, tH_p3, tH_p4, tH_r, sl_at hJ, c0, hc]
  unfold mm_T_wordIn
  simp only [pb_l2, pb_ll, nI_add, pb_mul, if_true, if_false, pb_bs, pb_b2n, pb_bz0, pb_bz1, pb_10, pb_01, tH_is, tH_g0, tH_g1, tH_g2, tH_g3, tH_g4, tH_p0, tH_p1, tH_p2, tH_p3, tH_p4, tH_r, key]
theorem T_wordIn {J : Nat} {Ws : List (List Nat)} {T : List Nat} {q : Nat} (ht : tz h T) (hw : wok J Ws) (hq : q < T.length) (hN : 500 < N) : ∃ r, mm_T_wordIn N (some 1) J (tH h a b (nI 1) (nI q) (nI (eL T q))) = some r ∧ (r = -nI 1 ∧ (∀ k, k < Ws.length → ¬ wis T q (Ws.getD k [])) ∨ ∃ k, k < Ws.length ∧ r = nI k ∧ wis T q (Ws.getD k []) ∧ ∀ k', k' < k → ¬ wis T q (Ws.getD k' [])) := by
  obtain ⟨w1, w2, w3, w4, w5, w6, w7⟩ := hw
  have hl := ht.1
  have hu := eL_ub (T := T) (q := q) (by omega)
  have he := eL_le (T := T) (q := q)
  have key := pb_for (body := mm_T_wordIn_b13 N (some 1) J (tH h a b (nI 1) (nI q) (nI (eL T q)))) (ss_sL.getD J 0 + 1) (fun i s => ∃ k j, ((k < Ws.length ∧ j ≤ (Ws.getD k []).length) ∨ k = Ws.length ∧ j = 0) ∧ wb Ws k + j = i ∧ (∀ k', k' < k → ¬ wis T q (Ws.getD k' [])) ∧ s = (nI k, nI (q + j), @ite _ (sm T q (Ws.getD k []) j) (Classical.propDecidable _) (nI 1) (nI 0), nI i)) (fun e => e = .inl () ∧ (∀ k, k < Ws.length → ¬ wis T q (Ws.getD k [])) ∨ ∃ k, k < Ws.length ∧ e = .inr (nI k) ∧ wis T q (Ws.getD k []) ∧ ∀ k', k' < k → ¬ wis T q (Ws.getD k' [])) (N := N) (s := (nI 0, nI q, nI 1, nI 0)) (by omega) ⟨0, 0, Or.inl ⟨w2, Nat.zero_le _⟩, rfl, (fun k' hk => absurd hk (Nat.not_lt_zero k')), by rw [if_pos ⟨Nat.zero_le _, fun i hi => absurd hi (Nat.not_lt_zero i)⟩]; rfl⟩ (fun i s hi hs => ?_) (fun s hs => ?_)
  · obtain ⟨r, e1, e2⟩ := key
    unfold mm_T_wordIn
    rcases e2 with ⟨rfl, e2⟩ | ⟨k, hk, rfl, e2⟩
    · refine ⟨-nI 1, ?_, Or.inl ⟨rfl, e2⟩⟩
      simp only [pb_l2, pb_ll, nI_add, pb_mul, if_true, if_false, pb_bs, pb_b2n, pb_bz0, pb_bz1, pb_10, pb_01, tH_is, tH_g0, tH_g1, tH_g2, tH_g3, tH_g4, tH_p0, tH_p1, tH_p2, tH_p3, tH_p4, tH_r, e1]
    · refine ⟨nI k, ?_, Or.inr ⟨k, hk, rfl, e2⟩⟩
      simp only [pb_l2, pb_ll, nI_add, pb_mul, if_true, if_false, pb_bs, pb_b2n, pb_bz0, pb_bz1, pb_10, pb_01, tH_is, tH_g0, tH_g1, tH_g2, tH_g3, tH_g4, tH_p0, tH_p1, tH_p2, tH_p3, tH_p4, tH_r, e1]
  · obtain ⟨k, j, hkj, hi2, hno, rfl⟩ := hs
    have hkj : k < Ws.length ∧ j ≤ (Ws.getD k []).length := by
      rcases hkj with r | r
      · exact r
      · rw [r.1, r.2] at hi2
        omega
    have hle := wb_le (Ws := Ws) hkj.1
    have c0 : (nI (ss_sL.getD J 0) < nI i) = False := eq_false (nI_nlt (by omega) (by omega))
    rcases Nat.lt_or_ge j (Ws.getD k []).length with cj | cj
    · have ch : ss_sc J (nI i) = some (nI ((Ws.getD k []).getD j 0)) := by
        rw [sc_at w1 (by omega) w4, ← hi2, w5 k hkj.1 j cj]
      have hlet := (w7 k hkj.1).2.2 j cj
      have c1 : (nI i = nI (ss_sL.getD J 0)) = False := pb_nn (by omega) (by omega) (by omega)
      have c2 : (nI ((Ws.getD k []).getD j 0) = nI 32) = False := pb_nn (by omega) (by omega) (by omega)
      left
      refine ⟨(nI k, nI (q + j + 1), @ite _ (sm T q (Ws.getD k []) (j + 1)) (Classical.propDecidable _) (nI 1) (nI 0), nI (i + 1)), ?_, k, j + 1, Or.inl ⟨hkj.1, cj⟩, by omega, hno, rfl⟩
      unfold mm_T_wordIn_b13 mm_T_wordIn_j50 mm_T_wordIn_j55 mm_T_wordIn_j77 mm_T_wordIn_j128 mm_T_wordIn_j129 mm_T_wordIn_j134
      by_cases c3 : sm T q (Ws.getD k []) j
      · by_cases c4 : q + j < eL T q
        · have d4 : (nI (eL T q) ≤ nI (q + j)) = False := eq_false (nI_ge c4 (by omega))
          have hb := ht.2.1 (q + j) (by omega)
          by_cases c5 : T.getD (q + j) 0 = (Ws.getD k []).getD j 0
          · have d5 : sm T q (Ws.getD k []) (j + 1) := ⟨by omega, fun i hi => by
              rcases Nat.lt_or_ge i j with x | x
              · exact c3.2 i x
              · rw [show i = j by omega]; exact c5⟩
            simp only [pb_l2, pb_ll, nI_add, pb_mul, if_true, if_false, pb_bs, pb_b2n, pb_bz0, pb_bz1, pb_10, pb_01, tH_is, tH_g0, tH_g1, tH_g2, tH_g3, tH_g4, tH_p0, tH_p1, tH_p2, tH_p3, tH_p4, tH_r, sl_at w1, c0, c1, ch, c2, if_pos c3, d4, tz_ai ht (show q + j < T.length by omega), c5, if_pos d5]
          · have d5 : ¬ sm T q (Ws.getD k []) (j + 1) := fun x => c5 (x.2 j (by omega))
            have d6 : (nI ((Ws.getD k []).getD j 0) = nI (T.getD (q + j) 0)) = False := pb_nn (fun x => c5 x.symm) (by omega) (by omega)
            simp only [pb_l2, pb_ll, nI_add, pb_mul, if_true, if_false, pb_bs, pb_b2n, pb_bz0, pb_bz1, pb_10, pb_01, tH_is, tH_g0, tH_g1, tH_g2, tH_g3, tH_g4, tH_p0, tH_p1, tH_p2, tH_p3, tH_p4, tH_r, sl_at w1, c0, c1, ch, c2, if_pos c3, d4, tz_ai ht (show q + j < T.length by omega), d6, if_neg d5]
        · have d4 : (nI (eL T q) ≤ nI (q + j)) = True := eq_true (nI_le (by omega) (by omega))
          have d5 : ¬ sm T q (Ws.getD k []) (j + 1) := fun x => by have := x.1; omega
          simp only [pb_l2, pb_ll, nI_add, pb_mul, if_true, if_false, pb_bs, pb_b2n, pb_bz0, pb_bz1, pb_10, pb_01, tH_is, tH_g0, tH_g1, tH_g2, tH_g3, tH_g4, tH_p0, tH_p1, tH_p2, tH_p3, tH_p4, tH_r, sl_at w1, c0, c1, ch, c2, if_pos c3, d4, if_neg d5]
      · have d5 : ¬ sm T q (Ws.getD k []) (j + 1) := fun x => c3 ⟨by have := x.1; omega, fun i hi => x.2 i (by omega)⟩
        simp only [pb_l2, pb_ll, nI_add, pb_mul, if_true, if_false, pb_bs, pb_b2n, pb_bz0, pb_bz1, pb_10, pb_01, tH_is, tH_g0, tH_g1, tH_g2, tH_g3, tH_g4, tH_p0, tH_p1, tH_p2, tH_p3, tH_p4, tH_r, sl_at w1, c0, c1, ch, c2, if_neg c3, if_neg d5]
    · have ej : j = (Ws.getD k []).length := by omega
      have hlen := (w7 k hkj.1).2.1
      have nx : ∀ b : Int32, (b = nI 0) = False ∨ True := fun _ => Or.inr trivial
      have body : mm_T_wordIn_b13 N (some 1) J (tH h a b (nI 1) (nI q) (nI (eL T q))) (nI k, nI (q + j), @ite _ (sm T q (Ws.getD k []) j) (Classical.propDecidable _) (nI 1) (nI 0), nI i) = mm_T_wordIn_j50 N (some 1) J (tH h a b (nI 1) (nI q) (nI (eL T q))) (nI k) (nI (q + j)) (@ite _ (sm T q (Ws.getD k []) j) (Classical.propDecidable _) (nI 1) (nI 0)) (nI i) := by
        unfold mm_T_wordIn_b13
        rcases Nat.lt_or_ge (k + 1) Ws.length with ck | ck
        · have hle2 := wb_le (Ws := Ws) ck
          have h2 : wb Ws (k + 1) = wb Ws k + (Ws.getD k []).length + 1 := rfl
          have c1 : (nI i = nI (ss_sL.getD J 0)) = False := pb_nn (by omega) (by omega) (by omega)
          have ch : ss_sc J (nI i) = some (nI 32) := by
            rw [sc_at w1 (by omega) w4, ← hi2, ej, w6 k ck]
          simp only [pb_l2, pb_ll, nI_add, pb_mul, if_true, if_false, pb_bs, pb_b2n, pb_bz0, pb_bz1, pb_10, pb_01, tH_is, tH_g0, tH_g1, tH_g2, tH_g3, tH_g4, tH_p0, tH_p1, tH_p2, tH_p3, tH_p4, tH_r, sl_at w1, c0, c1, ch]
        · have ek : k + 1 = Ws.length := by omega
          have h2 : wb Ws (k + 1) = wb Ws k + (Ws.getD k []).length + 1 := rfl
          rw [ek, w3] at h2
          have ei : i = ss_sL.getD J 0 := by omega
          have c00 : (nI i < nI i) = False := eq_false (nI_nlt (Nat.le_refl i) (by omega))
          simp only [pb_l2, pb_ll, nI_add, pb_mul, if_true, if_false, pb_bs, pb_b2n, pb_bz0, pb_bz1, pb_10, pb_01, tH_is, tH_g0, tH_g1, tH_g2, tH_g3, tH_g4, tH_p0, tH_p1, tH_p2, tH_p3, tH_p4, tH_r, sl_at w1, ← ei, c00]
      rw [body]
      unfold mm_T_wordIn_j50 mm_T_wordIn_j55 mm_T_wordIn_j77 mm_T_wordIn_j134
      have fin : ¬ wis T q (Ws.getD k []) → ∃ k2 j2, ((k2 < Ws.length ∧ j2 ≤ (Ws.getD k2 []).length) ∨ k2 = Ws.length ∧ j2 = 0) ∧ wb Ws k2 + j2 = i + 1 ∧ (∀ k', k' < k2 → ¬ wis T q (Ws.getD k' [])) ∧ ((nI (k + 1), nI q, nI 1, nI (i + 1)) : Int32 × Int32 × Int32 × Int32) = (nI k2, nI (q + j2), @ite _ (sm T q (Ws.getD k2 []) j2) (Classical.propDecidable _) (nI 1) (nI 0), nI (i + 1)) := fun hnw => by
        refine ⟨k + 1, 0, ?_, ?_, fun k' hk' => ?_, ?_⟩
        · rcases Nat.lt_or_ge (k + 1) Ws.length with ck | ck
          · exact Or.inl ⟨ck, Nat.zero_le _⟩
          · exact Or.inr ⟨by omega, rfl⟩
        · show wb Ws k + (Ws.getD k []).length + 1 + 0 = _
          omega
        · rcases Nat.lt_or_ge k' k with x | x
          · exact hno k' x
          · rw [show k' = k by omega]; exact hnw
        · rw [if_pos ⟨Nat.zero_le _, fun i hi => absurd hi (Nat.not_lt_zero i)⟩]; rfl
      by_cases c3 : sm T q (Ws.getD k []) j
      · by_cases c4 : q + j = eL T q
        · right
          have hwis : wis T q (Ws.getD k []) := ⟨by omega, fun i hi => c3.2 i (by omega)⟩
          refine ⟨.inr (nI k), ?_, Or.inr ⟨k, hkj.1, rfl, hwis, hno⟩⟩
          simp only [pb_l2, pb_ll, nI_add, pb_mul, if_true, if_false, pb_bs, pb_b2n, pb_bz0, pb_bz1, pb_10, pb_01, tH_is, tH_g0, tH_g1, tH_g2, tH_g3, tH_g4, tH_p0, tH_p1, tH_p2, tH_p3, tH_p4, tH_r, if_pos c3, c4]
        · left
          have d4 : (nI (q + j) = nI (eL T q)) = False := pb_nn c4 (by have := c3.1; omega) (by omega)
          refine ⟨(nI (k + 1), nI q, nI 1, nI (i + 1)), ?_, fin (fun x => c4 (by have := x.1; omega))⟩
          simp only [pb_l2, pb_ll, nI_add, pb_mul, if_true, if_false, pb_bs, pb_b2n, pb_bz0, pb_bz1, pb_10, pb_01, tH_is, tH_g0, tH_g1, tH_g2, tH_g3, tH_g4, tH_p0, tH_p1, tH_p2, tH_p3, tH_p4, tH_r, if_pos c3, d4]
      · left
        refine ⟨(nI (k + 1), nI q, nI 1, nI (i + 1)), ?_, fin (fun x => c3 ⟨by have := x.1; omega, fun i hi => x.2 i (by omega)⟩)⟩
        simp only [pb_l2, pb_ll, nI_add, pb_mul, if_true, if_false, pb_bs, pb_b2n, pb_bz0, pb_bz1, pb_10, pb_01, tH_is, tH_g0, tH_g1, tH_g2, tH_g3, tH_g4, tH_p0, tH_p1, tH_p2, tH_p3, tH_p4, tH_r, if_neg c3]
  · obtain ⟨k, j, hkj, hi2, hno, rfl⟩ := hs
    have ek : k = Ws.length := by
      rcases hkj with r | r
      · have := wb_le (Ws := Ws) r.1
        omega
      · exact r.1
    refine ⟨.inl (), ?_, Or.inl ⟨rfl, fun k' hk' => hno k' (by omega)⟩⟩
    unfold mm_T_wordIn_b13
    have c0 : (nI (ss_sL.getD J 0) < nI (ss_sL.getD J 0 + 1)) = True := eq_true (nI_lt (by omega) (by omega))
    simp only [pb_l2, pb_ll, nI_add, pb_mul, if_true, if_false, pb_bs, pb_b2n, pb_bz0, pb_bz1, pb_10, pb_01, tH_is, tH_g0, tH_g1, tH_g2, tH_g3, tH_g4, tH_p0, tH_p1, tH_p2, tH_p3, tH_p4, tH_r, sl_at w1, c0]
end WQ
