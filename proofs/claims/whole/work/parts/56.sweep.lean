/-! ===== the winter of the class: sweeping ===== -/
theorem pb_held (x : Int32) : (if x < nI 999 then x else nI 999) = sa_held x := by
  unfold sa_held
  by_cases c : x < nI 999
  · rw [if_pos c, if_pos (Int32.le_of_lt c)]
  · rw [if_neg c]
    by_cases c2 : x ≤ nI 999
    · rw [if_pos c2]
      exact (Int32.le_antisymm c2 (Int32.not_lt.mp c)).symm
    · rw [if_neg c2]
theorem sa_held_n {x : Nat} (hx : x < 2 ^ 31) : sa_held (nI x) = nI (min x 999) := by
  unfold sa_held
  by_cases c : x ≤ 999
  · rw [if_pos (nI_le c (by omega)), Nat.min_eq_left c]
  · rw [if_neg (nI_ge (by omega) hx), Nat.min_eq_right (by omega)]
/-- what the said ints keep to: k steps, m houses, day d -/
def sa_R (a : List Int32) (k m d : Nat) : Prop := sa_ok a k m d ∧ (∀ s, s < 8 → ∃ q, q ≤ 999 ∧ pv a (14 + s) = nI q ∧ (k ≤ s → q = 0)) ∧ (∀ i, i < m → ∃ q, 0 < q ∧ q ≤ 99 ∧ pv a (38 + 2 * i + 1) = nI q) ∧ (∃ q, 0 < q ∧ q ≤ 9 ∧ pv a 0 = nI q) ∧ (∃ q, 0 < q ∧ q ≤ 30 ∧ pv a 1 = nI q) ∧ ∃ b, b < 16 ∧ pv a 13 = nI b
theorem sa_much_n {a : List Int32} {i s q u : Nat} (h1 : pv a (14 + s) = nI q) (h2 : pv a (38 + 2 * i + 1) = nI u) (hq : q < 2 ^ 31) (hu : u < 2 ^ 31) : sa_much a i s = nI (min q u) := by
  unfold sa_much
  rw [h1, h2]
  by_cases c : q ≤ u
  · rw [if_pos (nI_le c hu), Nat.min_eq_left c]
  · rw [if_neg (nI_ge (by omega) hq), Nat.min_eq_right (by omega)]
theorem sa_take1_sn {a : List Int32} {i s q u j : Nat} (hl : a.length = 124) (hs : s < 8) (hj : j < 8) (h1 : pv a (14 + s) = nI q) (h2 : pv a (38 + 2 * i + 1) = nI u) (hq : q < 2 ^ 31) (hu : u < 2 ^ 31) : pv (sa_take1 a i s) (14 + j) = if j = s then nI (q - min q u) else pv a (14 + j) := by
  unfold sa_take1
  rw [sa_much_n h1 h2 hq hu, h1, pk_sub (by omega)]
  have e : ∀ l : List Int32, l.length = 124 → pv (l.set (14 + s) (nI (q - min q u))) (14 + j) = if j = s then nI (q - min q u) else pv l (14 + j) := fun l h => by
    rw [pv_set (by omega)]
    by_cases c : j = s
    · rw [if_pos c, if_pos (by omega)]
    · rw [if_neg c, if_neg (by omega)]
  split
  · exact e a hl
  · rw [pv_ne (by omega)]
    exact e a hl
theorem sa_R_take {a : List Int32} {k m d i s : Nat} (h : sa_R a k m d) (hi : i < m) (hs : s < k) : sa_R (sa_take a i s) k m d := by
  obtain ⟨ok, sn, str, fl, dp, wk⟩ := h
  have hk := ok.2.1.1
  have hl := ok.1
  have hw := ok.2.2.2.2.1 s hs
  have pve : ∀ j, j ≠ 11 → (j < 14 ∨ 22 ≤ j) → pv (sa_take a i s) j = pv a j := fun j h1 h2 => by
    rcases hw with hw | ⟨t, ht, hw⟩
    · exact sa_take_pv (t := 0) (by omega) (Or.inl hw) h1 h2
    · exact sa_take_pv (t := t) (by omega) (Or.inr ⟨by omega, hw⟩) h1 h2
  refine ⟨sa_ok_take ok hs, fun j hj => ?_, fun i' hi' => by rw [pve _ (by omega) (by omega)]; exact str i' hi', by rw [pve 0 (by omega) (by omega)]; exact fl, by rw [pve 1 (by omega) (by omega)]; exact dp, by rw [pve 13 (by omega) (by omega)]; exact wk⟩
  obtain ⟨q, q1, q2, q3⟩ := sn s (by omega)
  obtain ⟨u, u1, u2, u3⟩ := str i hi
  have t1 : ∀ j, j < 8 → pv (sa_take1 a i s) (14 + j) = if j = s then nI (q - min q u) else pv a (14 + j) := fun j hj => sa_take1_sn hl (by omega) hj q2 u3 (by omega) (by omega)
  have t2 : ∀ j, j < 8 → ∃ q, q ≤ 999 ∧ pv (sa_take1 a i s) (14 + j) = nI q ∧ (k ≤ j → q = 0) := fun j hj => by
    rw [t1 j hj]
    by_cases c : j = s
    · rw [if_pos c]
      exact ⟨_, by omega, rfl, by omega⟩
    · rw [if_neg c]
      exact sn j hj
  unfold sa_take
  rcases hw with hw | ⟨t, ht, hw⟩
  · rw [if_pos hw]
    exact t2 j hj
  · have hn : ¬ nI t < nI 0 := nI_nlt (by omega) (by omega)
    have hc : sa_wall a s = t := by unfold sa_wall; rw [hw]; exact nI_clamp (by omega)
    rw [hw, if_neg hn, hc, pv_set (by rw [sa_take1_len]; omega)]
    by_cases c : j = t
    · subst c
      obtain ⟨x, x1, x2, x3⟩ := t2 j hj
      rw [if_pos rfl, x2, sa_much_n q2 u3 (by omega) (by omega), nI_add, sa_held_n (by omega)]
      exact ⟨_, by omega, rfl, by omega⟩
    · rw [if_neg (by omega)]
      exact t2 j hj
theorem sa_nt_sn {a fa : List Int32} {w : Int32} {k m d : Nat} (h : sa_R a k m d) : ∀ j, j ≤ k → ∀ s, s < 8 → ∃ q, q ≤ 999 ∧ pv (sa_nt a fa w j).1 (14 + s) = nI q ∧ (k ≤ s → q = 0) := by
  obtain ⟨ok, sn, str, ⟨f, f1, f2, f3⟩, dp, wk⟩ := h
  intro j
  induction j with
  | zero => intro _ s hs; exact sn s hs
  | succ j ih =>
    intro hj s hs
    have hk := ok.2.1.1
    rw [sa_nt]
    split
    · obtain ⟨q, q1, q2, q3⟩ := ih (by omega) j (by omega)
      have hl := (sa_nt_len a fa w j).1
      rw [pv_set (by rw [hl, ok.1]; omega)]
      by_cases c : s = j
      · subst c
        rw [if_pos rfl, q2, sa_nt_low _ _ _ _ _ (by omega), f3, nI_add, sa_held_n (by omega)]
        exact ⟨_, by omega, rfl, by omega⟩
      · rw [if_neg (by omega)]
        exact ih (by omega) s hs
    · exact ih (by omega) s hs
theorem sa_nt_high (a fa : List Int32) (w : Int32) (k j : Nat) (hk : k ≤ 8) (hj : 22 ≤ j) : pv (sa_nt a fa w k).1 j = pv a j := by
  induction k with
  | zero => rfl
  | succ k ih =>
    unfold sa_nt
    split
    · show pv (List.set _ _ _) j = _
      rw [pv_ne (by omega)]; exact ih (by omega)
    · exact ih (by omega)
theorem sa_night_pv {a fa : List Int32} {k j : Nat} (hk : k ≤ 8) (h : j < 10 ∨ 22 ≤ j) : pv (sa_night a fa k) j = pv a j := by
  unfold sa_night
  rw [pv_ne (by omega), pv_ne (by omega), pv_ne (by omega), pv_ne (by omega)]
  rcases h with h | h
  · exact sa_nt_low _ _ _ _ _ (by omega)
  · exact sa_nt_high _ _ _ _ _ hk h
theorem sa_night_len (a fa : List Int32) (k : Nat) : (sa_night a fa k).length = a.length := by
  simp [sa_night, sa_nt_len]
theorem sa_night_sn {a fa : List Int32} {k s : Nat} (hs : s < 8) : pv (sa_night a fa k) (14 + s) = pv (sa_nt a fa (pv a 11) k).1 (14 + s) := by
  unfold sa_night
  rw [pv_ne (by omega), pv_ne (by omega), pv_ne (by omega), pv_ne (by omega)]
theorem sa_night_10 {a fa : List Int32} {k : Nat} (hl : a.length = 124) : pv (sa_night a fa k) 10 = pv a 10 + nI 1 := by
  unfold sa_night
  rw [pv_eq (by simp [sa_nt_len, hl])]
theorem sa_night_11 {a fa : List Int32} {k : Nat} (hl : a.length = 124) : pv (sa_night a fa k) 11 = nI 0 := by
  unfold sa_night
  rw [pv_ne (by omega), pv_ne (by omega), pv_eq (by simp [sa_nt_len, hl])]
theorem sa_night_12 {a fa : List Int32} {k : Nat} (hl : a.length = 124) : pv (sa_night a fa k) 12 = pv a 11 := by
  unfold sa_night
  rw [pv_ne (by omega), pv_ne (by omega), pv_ne (by omega), pv_eq (by simp [sa_nt_len, hl])]
theorem sa_night_13 {a fa : List Int32} {k : Nat} (hl : a.length = 124) : pv (sa_night a fa k) 13 = nI 0 := by
  unfold sa_night
  rw [pv_ne (by omega), pv_eq (by simp [sa_nt_len, hl])]
theorem sa_R_night {a fa : List Int32} {k m d : Nat} (h : sa_R a k m d) (hd : d + 1 < 100000) : sa_R (sa_night a fa k) k m (d + 1) := by
  have hsn := sa_nt_sn (fa := fa) (w := pv a 11) h k (Nat.le_refl k)
  obtain ⟨ok, sn, str, fl, dp, wk⟩ := h
  obtain ⟨h1, h2, h3, h4, h5, h6, h7⟩ := ok
  have pve : ∀ j, (j < 10 ∨ 22 ≤ j) → pv (sa_night a fa k) j = pv a j := fun j hj => sa_night_pv h2.1 hj
  refine ⟨⟨(sa_night_len a fa k).trans h1, ⟨h2.1, by rw [pve 2 (by omega)]; exact h2.2⟩, ⟨h3.1, by rw [pve 3 (by omega)]; exact h3.2⟩, ⟨hd, by rw [sa_night_10 h1, h4.2, nI_add]⟩, fun s hs => by rw [pve _ (by omega)]; exact h5 s hs, fun s hs => by rw [pve _ (by omega)]; exact h6 s hs, fun i hi => by rw [pve _ (by omega)]; exact h7 i hi⟩, fun s hs => by rw [sa_night_sn hs]; exact hsn s hs, fun i hi => by rw [pve _ (by omega)]; exact str i hi, by rw [pve 0 (by omega)]; exact fl, by rw [pve 1 (by omega)]; exact dp, ⟨0, by omega, sa_night_13 h1⟩⟩
theorem sa_clo_bits (a : List Int32) : ∀ k, k ≤ 8 → ∃ m, m < 2 ^ k ∧ sa_clo a k = nI m ∧ ∀ o, o < k → m.testBit o = !decide (pv a (14 + o) < pv a 1) := by
  intro k
  induction k with
  | zero => intro _; exact ⟨0, by decide, rfl, fun o ho => by omega⟩
  | succ k ih =>
    intro hk
    obtain ⟨m, hm, e, hb⟩ := ih (by omega)
    have hp : 2 ^ (k + 1) = 2 ^ k + 2 ^ k := by rw [Nat.pow_succ]; omega
    have hmk : m.testBit k = false := Nat.testBit_lt_two_pow hm
    rw [sa_clo, e]
    split
    · next c =>
      refine ⟨m, by omega, by rw [pb_or]; simp, fun o ho => ?_⟩
      by_cases co : o = k
      · subst co; rw [hmk]; simp [c]
      · exact hb o (by omega)
    · next c =>
      rw [pb_sh1 k (by omega), pb_or]
      refine ⟨m ||| 2 ^ k, Nat.or_lt_two_pow (by omega) (by omega), rfl, fun o ho => ?_⟩
      rw [Nat.testBit_or, Nat.testBit_two_pow]
      by_cases co : o = k
      · subst co; simp [c]
      · rw [hb o (by omega)]
        have : ¬ k = o := fun z => co z.symm
        simp [this]
theorem sa_clo_bit {a : List Int32} {k o : Nat} (hk : k ≤ 8) (ho : o < k) : ((sa_clo a k >>> nI o) &&& nI 1 = nI 1) = ¬ (pv a (14 + o) < pv a 1) := by
  obtain ⟨m, hm, e, hb⟩ := sa_clo_bits a k hk
  have : m < 2 ^ 8 := Nat.lt_of_lt_of_le hm (Nat.pow_le_pow_right (by omega) hk)
  rw [e, pb_bit (by omega) (by omega), hb o ho]
  simp
section QW
variable {n : Nat} {g : Nat → ss_Cl} {rc : Int32} {ti : List Int32} {tb : List Int32} {vt : Option Nat} {ri : List Int32} {cd : List Int32} {sx : List Int32} {rl : List (Option Nat)} {wi : List Int32} {wv : Option Nat} {gi : List Int32} {gs : List Int32} {gw : List Int32} {nd : List Int32} {ns : List Int32} {nw : List Int32} {il : List (Option Nat)} {ai : List Int32} {yv : Option Nat} {yr : Option Nat} {yi : List Int32} {ys : List Int32} {yw : List Int32} {yt : List Int32} {yh : List Int32} {yf : List Int32} {yo : List Int64} {yk : List Int64} {fr : List Int32} {fg : List Int32} {pl : List Int32} {pc : List Int32} {pg : List Int32} {N : Nat}
theorem pq_lay {s : Nat} {x : Int32} (hs : s < ys.length) (h8 : ys.length = 8) : mm_G_lay N (some 103) (nI s) x (pk_C n g rc ti tb vt ri cd sx rl wi wv gi gs gw nd ns nw il ai yv yr yi ys yw yt yh yf yo yk fr fg pl pc pg) = some (pk_C n g rc ti tb vt ri cd sx rl wi wv gi gs gw nd ns nw il ai yv yr yi (ys.set s (sa_held (pv ys s + x))) yw yt yh yf yo yk fr fg pl pc pg) := by
  unfold mm_G_lay
  simp (disch := ((try simp only [List.length_set]); omega)) only [pb_its, pb_l2, nI_add, pb_mul, if_true, if_false, pb_bs, pb_b2n, pb_bz0, pb_bz1, pb_10, pb_01, pb_i31, List.length_set, pk_is0, pk_r0_0, pk_r0_1, pk_r0_2, pk_r0_3, pk_r0_4, pk_r0_5, pk_r0_6, pk_r0_7, pk_r0_8, pk_r0_9, pk_i0, pk_q0, pk_is1, pk_r1_0, pk_i1, pk_q1, pk_a2, pk_u2, pk_is3, pk_r3_0, pk_r3_1, pk_r3_2, pk_p3_2, pk_is20, pk_r20_0, pk_r20_1, pk_r20_2, pk_i20, pk_q20, pk_a21, pk_u21, pk_a22, pk_u22, pk_is24, pk_r24_0, pk_p24_0, pk_r24_1, pk_r24_2, pk_r24_3, pk_r24_4, pk_i24, pk_q24, pk_is33, pk_r33_0, pk_r33_1, pk_i33, pk_q33, pk_a34, pk_u34, pk_a35, pk_u35, pk_a36, pk_u36, pk_a37, pk_u37, pk_a38, pk_u38, pk_is40, pk_r40_0, pk_i40, pk_q40, pk_is102, pk_r102_0, pk_r102_1, pk_r102_2, pk_r102_3, pk_r102_4, pk_r102_5, pk_r102_6, pk_p102_6, pk_r102_7, pk_p102_7, pk_is103, pk_r103_0, pk_r103_1, pk_i103, pk_q103, pk_a104, pk_u104, pk_a105, pk_u105, pk_a106, pk_u106, pk_a107, pk_u107, pk_a108, pk_u108, pk_a109, pk_u109, pk_a110, pk_u110, pk_is111, pk_r111_0, pk_r111_1, pk_r111_2, pk_r111_3, pk_r111_4, pk_a112, pk_u112, pk_a113, pk_u113, pk_is114, pk_r114_0, pk_r114_1, pk_r114_2, pk_r114_3, pk_r114_4, pk_a115, pk_u115, pk_a116, pk_u116, pk_a117, pk_u117, pb_held]
theorem pq_sweepBy {i s k m d : Nat} {a : List Int32} {bu : Int32} (hR : sa_R a k m d) (hyh : yh.length = 8) (hi : i < m) (hs : s < k) (h0 : ¬ pv a (14 + s) = nI 0) : mm_Wi_sweepBy N (some 102) (nI i) (nI s) (pk_C n g rc ti tb vt ri cd sx rl wi wv gi gs gw nd ns nw il ai yv yr [pv a 11, pv a 12, bu, pv a 10] (sl a 14 8) (sl a 22 8) [pv a 39, pv a 41, pv a 43, pv a 45] yh yf yo yk fr fg pl pc pg) = some (sa_much a i s, (pk_C n g rc ti tb vt ri cd sx rl wi wv gi gs gw nd ns nw il ai yv yr [pv (sa_take a i s) 11, pv (sa_take a i s) 12, bu ||| nI 1 <<< nI i, pv (sa_take a i s) 10] (sl (sa_take a i s) 14 8) (sl (sa_take a i s) 22 8) [pv (sa_take a i s) 39, pv (sa_take a i s) 41, pv (sa_take a i s) 43, pv (sa_take a i s) 45] (sa_takeT a yh i s) yf yo yk fr fg pl pc pg)) := by
  obtain ⟨ok, sn, str, fl, dp, wk⟩ := hR
  have hk := ok.2.1.1
  have hm := ok.2.2.1.1
  have hl := ok.1
  have hw := ok.2.2.2.2.1 s hs
  obtain ⟨q, q1, q2, q3⟩ := sn s (by omega)
  obtain ⟨u, u1, u2, u3⟩ := str i hi
  have hq0 : q ≠ 0 := fun z => h0 (by rw [q2, z])
  have hmu := sa_much_n q2 u3 (by omega) (by omega)
  have hpos : ¬ sa_much a i s ≤ nI 0 := by rw [hmu]; exact nI_ge (by omega) (by omega)
  have hmin : (if pv a (14 + s) < pv a (38 + 2 * i + 1) then pv a (14 + s) else pv a (38 + 2 * i + 1)) = sa_much a i s := by
    rw [hmu, q2, u3]
    by_cases c : q < u
    · rw [if_pos (nI_lt c (by omega)), Nat.min_eq_left (by omega)]
    · rw [if_neg (nI_nlt (by omega) (by omega)), Nat.min_eq_right (by omega)]
  have pve : ∀ j, j ≠ 11 → (j < 14 ∨ 22 ≤ j) → pv (sa_take a i s) j = pv a j := fun j h1 h2 => by
    rcases hw with hw | ⟨t, ht, hw⟩
    · exact sa_take_pv (t := 0) (by omega) (Or.inl hw) h1 h2
    · exact sa_take_pv (t := t) (by omega) (Or.inr ⟨by omega, hw⟩) h1 h2
  have e1 : sa_take1 a i s = (a.set (14 + s) (pv a (14 + s) - sa_much a i s)).set 11 (pv a 11 ||| nI 1 <<< nI s) := by unfold sa_take1; rw [if_neg hpos]
  have ew : sl (sa_take a i s) 22 8 = sl a 22 8 := sl_of (fun j hj => pve _ (by omega) (by omega))
  rw [ew, pve 10 (by omega) (by omega), pve 12 (by omega) (by omega), pve 39 (by omega) (by omega), pve 41 (by omega) (by omega), pve 43 (by omega) (by omega), pve 45 (by omega) (by omega)]
  have hl2 : (sl a 14 8).length = 8 := sl_len _ _ _
  have e2 : sl (sa_take1 a i s) 14 8 = (sl a 14 8).set s (pv a (14 + s) - sa_much a i s) := by
    rw [e1, sl_ne (by omega), sl_set (by omega) (by omega)]
  have e3 : pv (sa_take1 a i s) 11 = pv a 11 ||| nI 1 <<< nI s := by rw [e1, pv_eq (by simp; omega)]
  unfold mm_Wi_sweepBy mm_Wi_sweepBy_j106 sa_takeT
  rcases hw with hw | ⟨t, ht, hw⟩
  · have e4 : sa_take a i s = sa_take1 a i s := by unfold sa_take; rw [if_pos hw]
    rw [e4, e3, e2, if_pos hw]
    simp (disch := ((try simp only [List.length_set]); omega)) only [pb_its, pb_l2, nI_add, pb_mul, if_true, if_false, pb_bs, pb_b2n, pb_bz0, pb_bz1, pb_10, pb_01, pb_i31, List.length_set, pk_is0, pk_r0_0, pk_r0_1, pk_r0_2, pk_r0_3, pk_r0_4, pk_r0_5, pk_r0_6, pk_r0_7, pk_r0_8, pk_r0_9, pk_i0, pk_q0, pk_is1, pk_r1_0, pk_i1, pk_q1, pk_a2, pk_u2, pk_is3, pk_r3_0, pk_r3_1, pk_r3_2, pk_p3_2, pk_is20, pk_r20_0, pk_r20_1, pk_r20_2, pk_i20, pk_q20, pk_a21, pk_u21, pk_a22, pk_u22, pk_is24, pk_r24_0, pk_p24_0, pk_r24_1, pk_r24_2, pk_r24_3, pk_r24_4, pk_i24, pk_q24, pk_is33, pk_r33_0, pk_r33_1, pk_i33, pk_q33, pk_a34, pk_u34, pk_a35, pk_u35, pk_a36, pk_u36, pk_a37, pk_u37, pk_a38, pk_u38, pk_is40, pk_r40_0, pk_i40, pk_q40, pk_is102, pk_r102_0, pk_r102_1, pk_r102_2, pk_r102_3, pk_r102_4, pk_r102_5, pk_r102_6, pk_p102_6, pk_r102_7, pk_p102_7, pk_is103, pk_r103_0, pk_r103_1, pk_i103, pk_q103, pk_a104, pk_u104, pk_a105, pk_u105, pk_a106, pk_u106, pk_a107, pk_u107, pk_a108, pk_u108, pk_a109, pk_u109, pk_a110, pk_u110, pk_is111, pk_r111_0, pk_r111_1, pk_r111_2, pk_r111_3, pk_r111_4, pk_a112, pk_u112, pk_a113, pk_u113, pk_is114, pk_r114_0, pk_r114_1, pk_r114_2, pk_r114_3, pk_r114_4, pk_a115, pk_u115, pk_a116, pk_u116, pk_a117, pk_u117, pk_x106 (show i < 4 by omega), pk_x104 (show s < 8 by omega), hmin, sl_pv (show s < 8 by omega), hl2, pk_x103_0, pk_x103_2, pk_y103_0, pk_y103_2, pk_x105 (show s < 8 by omega), hw]
  · have hn : ¬ nI t < nI 0 := nI_nlt (by omega) (by omega)
    have hn8 : ¬ nI 8 ≤ nI t := nI_ge (by omega) (by omega)
    have hc : sa_wall a s = t := by unfold sa_wall; rw [hw]; exact nI_clamp (by omega)
    have hwn : ¬ pv a (22 + s) < nI 0 := by rw [hw]; exact hn
    have e4 : sa_take a i s = (sa_take1 a i s).set (14 + t) (sa_held (pv (sa_take1 a i s) (14 + t) + sa_much a i s)) := by unfold sa_take; rw [if_neg hwn, hc]
    have e5 : sl (sa_take a i s) 14 8 = ((sl a 14 8).set s (pv a (14 + s) - sa_much a i s)).set t (sa_held (pv ((sl a 14 8).set s (pv a (14 + s) - sa_much a i s)) t + sa_much a i s)) := by
      rw [e4, ← sl_set (by omega) (by rw [sa_take1_len]; omega), e2, ← e2, sl_pv (by omega)]
    rw [e5, e4, pv_ne (by omega), e3, if_neg hwn, hc]
    simp (disch := ((try simp only [List.length_set]); omega)) only [pb_its, pb_l2, nI_add, pb_mul, if_true, if_false, pb_bs, pb_b2n, pb_bz0, pb_bz1, pb_10, pb_01, pb_i31, List.length_set, pk_is0, pk_r0_0, pk_r0_1, pk_r0_2, pk_r0_3, pk_r0_4, pk_r0_5, pk_r0_6, pk_r0_7, pk_r0_8, pk_r0_9, pk_i0, pk_q0, pk_is1, pk_r1_0, pk_i1, pk_q1, pk_a2, pk_u2, pk_is3, pk_r3_0, pk_r3_1, pk_r3_2, pk_p3_2, pk_is20, pk_r20_0, pk_r20_1, pk_r20_2, pk_i20, pk_q20, pk_a21, pk_u21, pk_a22, pk_u22, pk_is24, pk_r24_0, pk_p24_0, pk_r24_1, pk_r24_2, pk_r24_3, pk_r24_4, pk_i24, pk_q24, pk_is33, pk_r33_0, pk_r33_1, pk_i33, pk_q33, pk_a34, pk_u34, pk_a35, pk_u35, pk_a36, pk_u36, pk_a37, pk_u37, pk_a38, pk_u38, pk_is40, pk_r40_0, pk_i40, pk_q40, pk_is102, pk_r102_0, pk_r102_1, pk_r102_2, pk_r102_3, pk_r102_4, pk_r102_5, pk_r102_6, pk_p102_6, pk_r102_7, pk_p102_7, pk_is103, pk_r103_0, pk_r103_1, pk_i103, pk_q103, pk_a104, pk_u104, pk_a105, pk_u105, pk_a106, pk_u106, pk_a107, pk_u107, pk_a108, pk_u108, pk_a109, pk_u109, pk_a110, pk_u110, pk_is111, pk_r111_0, pk_r111_1, pk_r111_2, pk_r111_3, pk_r111_4, pk_a112, pk_u112, pk_a113, pk_u113, pk_is114, pk_r114_0, pk_r114_1, pk_r114_2, pk_r114_3, pk_r114_4, pk_a115, pk_u115, pk_a116, pk_u116, pk_a117, pk_u117, pk_x106 (show i < 4 by omega), pk_x104 (show s < 8 by omega), hmin, sl_pv (show s < 8 by omega), hl2, pk_x103_0, pk_x103_2, pk_y103_0, pk_y103_2, pk_x105 (show s < 8 by omega), hw, hn, hn8, pq_lay]
end QW
