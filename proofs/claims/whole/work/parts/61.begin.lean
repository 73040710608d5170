/-! ===== the winter begun ===== -/
theorem pb_hs2 (h : ss_Hp) (p : Nat) (c c' : ss_Cl) : ss_hs (ss_hs h p c) p c' = ss_hs h p c' := by
  refine Prod.ext rfl (funext fun k => ?_)
  show (if k = p then c' else if k = p then c else h.2 k) = if k = p then c' else h.2 k
  by_cases e : k = p
  · rw [if_pos e, if_pos e]
  · rw [if_neg e, if_neg e, if_neg e]
theorem pb_hse (h : ss_Hp) (p : Nat) (c : ss_Cl) : (ss_hs h p c).2 p = c := by
  show (if p = p then c else h.2 p) = c
  rw [if_pos rfl]
theorem pb_hsn (h : ss_Hp) {p k : Nat} (c : ss_Cl) (e : k ≠ p) : (ss_hs h p c).2 k = h.2 k := by
  show (if k = p then c else h.2 k) = h.2 k
  rw [if_neg e]
theorem pb_cp {h : ss_Hp} {q p n : Nat} {S S' : List Int32} (hq : h.2 q = (20, S, [], [])) (hp : h.2 p = (20, S', [], [])) (h1 : S.length = n) (h2 : S'.length = n) (hn : n < 2 ^ 31) : ss_cp h (some q) (nI 0) (some p) (nI 0) (nI n) = some (ss_hs h p (20, S, [], [])) := by
  have e0 : (nI 0).toNatClampNeg = 0 := nI_clamp (by omega)
  have e1 : (nI n).toNatClampNeg = n := nI_clamp hn
  have z0 : ¬ nI 0 < 0 := nI_pos (by omega)
  have z1 : ¬ nI n < 0 := nI_pos hn
  have t1 : S.take n = S := List.take_of_length_le (by omega)
  have t2 : S'.drop n = [] := List.drop_of_length_le (by omega)
  simp [ss_cp, hq, hp, e0, e1, z0, z1, h1, h2, t1, t2]
theorem pb_copy {h : ss_Hp} {N p p1 p2 q q1 q2 : Nat} {j0 j1 j2 j3 : Int32} {J' S W S' W' : List Int32} (hp : h.2 p = (0, J', [], [some p1, some p2])) (hp1 : h.2 p1 = (20, S', [], [])) (hp2 : h.2 p2 = (20, W', [], [])) (hq : h.2 q = (0, [j0, j1, j2, j3], [], [some q1, some q2])) (hq1 : h.2 q1 = (20, S, [], [])) (hq2 : h.2 q2 = (20, W, [], [])) (l0 : J'.length = 4) (l1 : S.length = 8) (l2 : W.length = 8) (l3 : S'.length = 8) (l4 : W'.length = 8) (d1 : p1 ≠ p2) (d2 : q2 ≠ p1) (d3 : q ≠ p) : mm_G_copyFrom N (some p) (some q) h = some (ss_hs (ss_hs (ss_hs h p1 (20, S, [], [])) p2 (20, W, [], [])) p (0, [j0, j1, j2, j3], [], [some p1, some p2])) := by
  have n1 : p ≠ p1 := fun e => by rw [e, hp1] at hp; cases hp
  have n2 : p ≠ p2 := fun e => by rw [e, hp2] at hp; cases hp
  have n3 : q ≠ p1 := fun e => by rw [e, hp1] at hq; cases hq
  have n4 : q ≠ p2 := fun e => by rw [e, hp2] at hq; cases hq
  have a1 : (ss_hs h p1 (20, S, [], [])).2 p = (0, J', [], [some p1, some p2]) := by rw [pb_hsn _ _ n1]; exact hp
  have a2 : (ss_hs h p1 (20, S, [], [])).2 q = (0, [j0, j1, j2, j3], [], [some q1, some q2]) := by rw [pb_hsn _ _ n3]; exact hq
  have a3 : (ss_hs h p1 (20, S, [], [])).2 p2 = (20, W', [], []) := by rw [pb_hsn _ _ d1.symm]; exact hp2
  have a4 : (ss_hs h p1 (20, S, [], [])).2 q2 = (20, W, [], []) := by rw [pb_hsn _ _ d2]; exact hq2
  generalize hh : ss_hs (ss_hs h p1 (20, S, [], [])) p2 (20, W, [], []) = h2
  have b1 : h2.2 p = (0, J', [], [some p1, some p2]) := by rw [← hh, pb_hsn _ _ n2]; exact a1
  have b2 : h2.2 q = (0, [j0, j1, j2, j3], [], [some q1, some q2]) := by rw [← hh, pb_hsn _ _ n4]; exact a2
  have c2 : ∀ c, (ss_hs h2 p c).2 q = (0, [j0, j1, j2, j3], [], [some q1, some q2]) := fun c => by rw [pb_hsn _ _ d3]; exact b2
  obtain ⟨i0, i1, i2, i3, rfl⟩ : ∃ i0 i1 i2 i3, J' = [i0, i1, i2, i3] := by
    match J', l0 with
    | [i0, i1, i2, i3], _ => exact ⟨i0, i1, i2, i3, rfl⟩
  unfold mm_G_copyFrom
  simp only [pb_l2, pb_bs, pb_is hp, if_true, pb_gr hq, pb_gr hp, List.getElem?_cons_zero, pb_cp hq1 hp1 l1 l3 (by omega : 8 < 2 ^ 31), pb_gr a1, pb_gr a2, List.getElem?_cons_succ, pb_cp a4 a3 l2 l4 (by omega : 8 < 2 ^ 31), hh, pb_gi b2, pb_pi b1 (show 0 < [i0, i1, i2, i3].length by simp), pb_gi (c2 _), pb_pi (pb_hse h2 p _) (show 1 < [_, i1, i2, i3].length by simp), pb_pi (pb_hse h2 p _) (show 2 < [_, _, i2, i3].length by simp), pb_pi (pb_hse h2 p _) (show 3 < [_, _, _, i3].length by simp), pb_hs2, List.set_cons_zero, List.set_cons_succ]
def zl (l : List Int32) : Nat → List Int32
  | 0 => l
  | i + 1 => (zl l i).set i (nI 0)
theorem zl_len (l : List Int32) (i : Nat) : (zl l i).length = l.length := by
  induction i with
  | zero => rfl
  | succ i ih => rw [zl, List.length_set, ih]
theorem zl_pv (l : List Int32) (i j : Nat) (hi : i ≤ l.length) (hj : j < i) : pv (zl l i) j = nI 0 := by
  induction i with
  | zero => omega
  | succ i ih =>
    rw [zl, pv_set (by rw [zl_len]; omega)]
    by_cases e : j = i
    · rw [if_pos e]
    · rw [if_neg e]; exact ih (by omega) (by omega)
theorem z8_pv {i : Nat} : pv z8 i = nI 0 := by
  unfold z8 pv
  rw [List.getD_eq_getElem?_getD, List.getElem?_replicate]
  split <;> rfl
theorem zl8 {l : List Int32} (h : l.length = 8) : zl l 8 = z8 := pv_ext (by rw [zl_len, h]; rfl) (fun i hi => by rw [zl_pv l 8 i (by omega) (by rw [zl_len] at hi; omega), z8_pv])
section SB
variable {n : Nat} {g : Nat → ss_Cl} {rc : Int32} {ti : List Int32} {tb : List Int32} {vt : Option Nat} {ri : List Int32} {cd : List Int32} {sx : List Int32} {rl : List (Option Nat)} {wi : List Int32} {wv : Option Nat} {gi : List Int32} {gs : List Int32} {gw : List Int32} {nd : List Int32} {ns : List Int32} {nw : List Int32} {il : List (Option Nat)} {ai : List Int32} {yv : Option Nat} {yr : Option Nat} {yi : List Int32} {ys : List Int32} {yw : List Int32} {yt : List Int32} {yh : List Int32} {yf : List Int32} {yo : List Int64} {yk : List Int64} {fr : List Int32} {fg : List Int32} {pl : List Int32} {pc : List Int32} {pg : List Int32} {N : Nat}
theorem pk_s24 (w : List Int32) : ss_hs (pk_C n g rc ti tb vt ri cd sx rl wi wv gi gs gw nd ns nw il ai yv yr yi ys yw yt yh yf yo yk fr fg pl pc pg) 24 (8, w, [], [wv, some 33, some 36, some 37, some 38]) = (pk_C n g rc ti tb vt ri cd sx rl w wv gi gs gw nd ns nw il ai yv yr yi ys yw yt yh yf yo yk fr fg pl pc pg) := pk_hs1 rfl (by decide)
theorem pk_s33 (w : List Int32) : ss_hs (pk_C n g rc ti tb vt ri cd sx rl wi wv gi gs gw nd ns nw il ai yv yr yi ys yw yt yh yf yo yk fr fg pl pc pg) 33 (0, w, [], [some 34, some 35]) = (pk_C n g rc ti tb vt ri cd sx rl wi wv w gs gw nd ns nw il ai yv yr yi ys yw yt yh yf yo yk fr fg pl pc pg) := pk_hs1 rfl (by decide)
theorem pk_s34 (w : List Int32) : ss_hs (pk_C n g rc ti tb vt ri cd sx rl wi wv gi gs gw nd ns nw il ai yv yr yi ys yw yt yh yf yo yk fr fg pl pc pg) 34 (20, w, [], []) = (pk_C n g rc ti tb vt ri cd sx rl wi wv gi w gw nd ns nw il ai yv yr yi ys yw yt yh yf yo yk fr fg pl pc pg) := pk_hs1 rfl (by decide)
theorem pk_s35 (w : List Int32) : ss_hs (pk_C n g rc ti tb vt ri cd sx rl wi wv gi gs gw nd ns nw il ai yv yr yi ys yw yt yh yf yo yk fr fg pl pc pg) 35 (20, w, [], []) = (pk_C n g rc ti tb vt ri cd sx rl wi wv gi gs w nd ns nw il ai yv yr yi ys yw yt yh yf yo yk fr fg pl pc pg) := pk_hs1 rfl (by decide)
theorem pk_s36 (w : List Int32) : ss_hs (pk_C n g rc ti tb vt ri cd sx rl wi wv gi gs gw nd ns nw il ai yv yr yi ys yw yt yh yf yo yk fr fg pl pc pg) 36 (20, w, [], []) = (pk_C n g rc ti tb vt ri cd sx rl wi wv gi gs gw w ns nw il ai yv yr yi ys yw yt yh yf yo yk fr fg pl pc pg) := pk_hs1 rfl (by decide)
theorem pk_s37 (w : List Int32) : ss_hs (pk_C n g rc ti tb vt ri cd sx rl wi wv gi gs gw nd ns nw il ai yv yr yi ys yw yt yh yf yo yk fr fg pl pc pg) 37 (20, w, [], []) = (pk_C n g rc ti tb vt ri cd sx rl wi wv gi gs gw nd w nw il ai yv yr yi ys yw yt yh yf yo yk fr fg pl pc pg) := pk_hs1 rfl (by decide)
theorem pk_s38 (w : List Int32) : ss_hs (pk_C n g rc ti tb vt ri cd sx rl wi wv gi gs gw nd ns nw il ai yv yr yi ys yw yt yh yf yo yk fr fg pl pc pg) 38 (20, w, [], []) = (pk_C n g rc ti tb vt ri cd sx rl wi wv gi gs gw nd ns w il ai yv yr yi ys yw yt yh yf yo yk fr fg pl pc pg) := pk_hs1 rfl (by decide)
theorem pk_s103 (w : List Int32) : ss_hs (pk_C n g rc ti tb vt ri cd sx rl wi wv gi gs gw nd ns nw il ai yv yr yi ys yw yt yh yf yo yk fr fg pl pc pg) 103 (0, w, [], [some 104, some 105]) = (pk_C n g rc ti tb vt ri cd sx rl wi wv gi gs gw nd ns nw il ai yv yr w ys yw yt yh yf yo yk fr fg pl pc pg) := pk_hs2 rfl (by decide)
theorem pk_s104 (w : List Int32) : ss_hs (pk_C n g rc ti tb vt ri cd sx rl wi wv gi gs gw nd ns nw il ai yv yr yi ys yw yt yh yf yo yk fr fg pl pc pg) 104 (20, w, [], []) = (pk_C n g rc ti tb vt ri cd sx rl wi wv gi gs gw nd ns nw il ai yv yr yi w yw yt yh yf yo yk fr fg pl pc pg) := pk_hs2 rfl (by decide)
theorem pk_s105 (w : List Int32) : ss_hs (pk_C n g rc ti tb vt ri cd sx rl wi wv gi gs gw nd ns nw il ai yv yr yi ys yw yt yh yf yo yk fr fg pl pc pg) 105 (20, w, [], []) = (pk_C n g rc ti tb vt ri cd sx rl wi wv gi gs gw nd ns nw il ai yv yr yi ys w yt yh yf yo yk fr fg pl pc pg) := pk_hs2 rfl (by decide)
theorem pk_s106 (w : List Int32) : ss_hs (pk_C n g rc ti tb vt ri cd sx rl wi wv gi gs gw nd ns nw il ai yv yr yi ys yw yt yh yf yo yk fr fg pl pc pg) 106 (20, w, [], []) = (pk_C n g rc ti tb vt ri cd sx rl wi wv gi gs gw nd ns nw il ai yv yr yi ys yw w yh yf yo yk fr fg pl pc pg) := pk_hs2 rfl (by decide)
theorem pk_s107 (w : List Int32) : ss_hs (pk_C n g rc ti tb vt ri cd sx rl wi wv gi gs gw nd ns nw il ai yv yr yi ys yw yt yh yf yo yk fr fg pl pc pg) 107 (20, w, [], []) = (pk_C n g rc ti tb vt ri cd sx rl wi wv gi gs gw nd ns nw il ai yv yr yi ys yw yt w yf yo yk fr fg pl pc pg) := pk_hs2 rfl (by decide)
theorem pk_s108 (w : List Int32) : ss_hs (pk_C n g rc ti tb vt ri cd sx rl wi wv gi gs gw nd ns nw il ai yv yr yi ys yw yt yh yf yo yk fr fg pl pc pg) 108 (20, w, [], []) = (pk_C n g rc ti tb vt ri cd sx rl wi wv gi gs gw nd ns nw il ai yv yr yi ys yw yt yh w yo yk fr fg pl pc pg) := pk_hs2 rfl (by decide)
theorem pk_s112 (w : List Int32) : ss_hs (pk_C n g rc ti tb vt ri cd sx rl wi wv gi gs gw nd ns nw il ai yv yr yi ys yw yt yh yf yo yk fr fg pl pc pg) 112 (20, w, [], []) = (pk_C n g rc ti tb vt ri cd sx rl wi wv gi gs gw nd ns nw il ai yv yr yi ys yw yt yh yf yo yk w fg pl pc pg) := pk_hs2 rfl (by decide)
theorem pk_s113 (w : List Int32) : ss_hs (pk_C n g rc ti tb vt ri cd sx rl wi wv gi gs gw nd ns nw il ai yv yr yi ys yw yt yh yf yo yk fr fg pl pc pg) 113 (22, w, [], []) = (pk_C n g rc ti tb vt ri cd sx rl wi wv gi gs gw nd ns nw il ai yv yr yi ys yw yt yh yf yo yk fr w pl pc pg) := pk_hs2 rfl (by decide)
theorem pk_s115 (w : List Int32) : ss_hs (pk_C n g rc ti tb vt ri cd sx rl wi wv gi gs gw nd ns nw il ai yv yr yi ys yw yt yh yf yo yk fr fg pl pc pg) 115 (20, w, [], []) = (pk_C n g rc ti tb vt ri cd sx rl wi wv gi gs gw nd ns nw il ai yv yr yi ys yw yt yh yf yo yk fr fg w pc pg) := pk_hs2 rfl (by decide)
theorem pk_s116 (w : List Int32) : ss_hs (pk_C n g rc ti tb vt ri cd sx rl wi wv gi gs gw nd ns nw il ai yv yr yi ys yw yt yh yf yo yk fr fg pl pc pg) 116 (20, w, [], []) = (pk_C n g rc ti tb vt ri cd sx rl wi wv gi gs gw nd ns nw il ai yv yr yi ys yw yt yh yf yo yk fr fg pl w pg) := pk_hs2 rfl (by decide)
theorem pk_s117 (w : List Int32) : ss_hs (pk_C n g rc ti tb vt ri cd sx rl wi wv gi gs gw nd ns nw il ai yv yr yi ys yw yt yh yf yo yk fr fg pl pc pg) 117 (20, w, [], []) = (pk_C n g rc ti tb vt ri cd sx rl wi wv gi gs gw nd ns nw il ai yv yr yi ys yw yt yh yf yo yk fr fg pl pc w) := pk_hs2 rfl (by decide)
theorem cl_F_w {T : List Nat} {a : List Int32} {fo x : Int32} {RS : List (List ru_C)} {US : List (List Int32)} {I : Nat → Option (List Int32 × Int32 × Int32)} {yr' : Option Nat} {yi' ys' yw' yt' yh' yf' : List Int32} {yo' yk' : List Int64} (F : cl_F n g rc ti tb vt ri cd sx rl wi wv gi gs gw nd ns nw il ai yv yr yi ys yw yt yh yf yo yk fr fg pl pc pg T a fo x RS US I) (hw : cw_L yi' ys' yw' yt' yh' yf' yo' yk') : cl_F n g rc ti tb vt ri cd sx rl wi wv gi gs gw nd ns nw il ai yv yr' yi' ys' yw' yt' yh' yf' yo' yk' fr fg pl pc pg T a fo x RS US I := ⟨F.1, F.2.1, F.2.2.1, F.2.2.2.1, F.2.2.2.2.1, F.2.2.2.2.2.1, F.2.2.2.2.2.2.1, F.2.2.2.2.2.2.2.1, hw, F.2.2.2.2.2.2.2.2.2⟩
theorem pq_begin {v q q1 q2 : Nat} {r : Option Nat} {j0 j1 j2 j3 s0 s1 s2 s3 : Int32} {S W : List Int32} (hv : v = 25 ∨ 142 ≤ v) (hv5 : ∃ I2, g v = (5, I2, [], [some (v + 1), some (v + 2), some (v + 3), some (v + 4), some (v + 5)])) (hv2 : g (v + 2) = (20, [s0, s1, s2, s3], [], [])) (hq : ∀ yv yr, (pk_C n g rc ti tb vt ri cd sx rl wi wv gi gs gw nd ns nw il ai yv yr yi ys yw yt yh yf yo yk fr fg pl pc pg).2 q = (0, [j0, j1, j2, j3], [], [some q1, some q2])) (hq1 : ∀ yv yr, (pk_C n g rc ti tb vt ri cd sx rl wi wv gi gs gw nd ns nw il ai yv yr yi ys yw yt yh yf yo yk fr fg pl pc pg).2 q1 = (20, S, [], [])) (hq2 : ∀ yv yr, (pk_C n g rc ti tb vt ri cd sx rl wi wv gi gs gw nd ns nw il ai yv yr yi ys yw yt yh yf yo yk fr fg pl pc pg).2 q2 = (20, W, [], [])) (hne : q ≠ 103 ∧ q2 ≠ 104) (l1 : S.length = 8) (l2 : W.length = 8) (hw : cw_L yi ys yw yt yh yf yo yk) (hN : 8 < N) : mm_Wi_begin N (some 102) r (some q) (pk_C n g rc ti tb vt ri cd sx rl wi wv gi gs gw nd ns nw il ai (some v) yr yi ys yw yt yh yf yo yk fr fg pl pc pg) = some (pk_C n g rc ti tb vt ri cd sx rl wi wv gi gs gw nd ns nw il ai (some v) r [j0, j1, j2, j3] S W [s0, s1, s2, s3] z8 z8 yo yk fr fg pl pc pg) := by
  obtain ⟨w1, w2, w3, w4, w5, w6, w7, w8⟩ := hw
  obtain ⟨I2, hv5⟩ := hv5
  have hf0 : pk_fr v := by unfold pk_fr; omega
  have hf2 : pk_fr (v + 2) := by unfold pk_fr; omega
  have e1 : mm_G_copyFrom N (some 103) (some q) (pk_C n g rc ti tb vt ri cd sx rl wi wv gi gs gw nd ns nw il ai (some v) r yi ys yw yt yh yf yo yk fr fg pl pc pg) = some (pk_C n g rc ti tb vt ri cd sx rl wi wv gi gs gw nd ns nw il ai (some v) r [j0, j1, j2, j3] S W yt yh yf yo yk fr fg pl pc pg) := by
    rw [pb_copy pk_c103 pk_c104 pk_c105 (hq (some v) r) (hq1 (some v) r) (hq2 (some v) r) w1 l1 l2 w2 w3 (by omega) (by omega) (by omega), pk_s104, pk_s105, pk_s103]
  have e2 : ss_cp (pk_C n g rc ti tb vt ri cd sx rl wi wv gi gs gw nd ns nw il ai (some v) r [j0, j1, j2, j3] S W yt yh yf yo yk fr fg pl pc pg) (some (v + 2)) (nI 0) (some 106) (nI 0) (nI 4) = some (pk_C n g rc ti tb vt ri cd sx rl wi wv gi gs gw nd ns nw il ai (some v) r [j0, j1, j2, j3] S W [s0, s1, s2, s3] yh yf yo yk fr fg pl pc pg) := by
    rw [pb_cp (n := 4) ((pk_out hf2).trans hv2) pk_c106 rfl w4 (by omega), pk_s106]
  have e3 : ss_lp (mm_Wi_begin_b32 N (some 102)) N (nI 0, (pk_C n g rc ti tb vt ri cd sx rl wi wv gi gs gw nd ns nw il ai (some v) r [j0, j1, j2, j3] S W [s0, s1, s2, s3] yh yf yo yk fr fg pl pc pg)) = some (pk_C n g rc ti tb vt ri cd sx rl wi wv gi gs gw nd ns nw il ai (some v) r [j0, j1, j2, j3] S W [s0, s1, s2, s3] (zl yh 8) (zl yf 8) yo yk fr fg pl pc pg) := by
    refine pb_lp (fun i => (nI i, (pk_C n g rc ti tb vt ri cd sx rl wi wv gi gs gw nd ns nw il ai (some v) r [j0, j1, j2, j3] S W [s0, s1, s2, s3] (zl yh i) (zl yf i) yo yk fr fg pl pc pg))) 8 hN (fun i hi => ?_) ?_
    · unfold mm_Wi_begin_b32
      have h6 : ¬ nI 8 ≤ nI i := nI_ge hi (by omega)
      have h7 : i < (zl yh i).length := by rw [zl_len]; omega
      have h8 : i < (zl yf i).length := by rw [zl_len]; omega
      simp (disch := ((try simp only [List.length_set]); omega)) only [pb_its, pb_l2, nI_add, pb_mul, if_true, if_false, pb_bs, pb_b2n, pb_bz0, pb_bz1, pb_10, pb_01, pb_i31, List.length_set, pk_is0, pk_r0_0, pk_r0_1, pk_r0_2, pk_r0_3, pk_r0_4, pk_r0_5, pk_r0_6, pk_r0_7, pk_r0_8, pk_r0_9, pk_i0, pk_q0, pk_is1, pk_r1_0, pk_i1, pk_q1, pk_a2, pk_u2, pk_is3, pk_r3_0, pk_r3_1, pk_r3_2, pk_p3_2, pk_is20, pk_r20_0, pk_r20_1, pk_r20_2, pk_i20, pk_q20, pk_a21, pk_u21, pk_a22, pk_u22, pk_is24, pk_r24_0, pk_p24_0, pk_r24_1, pk_r24_2, pk_r24_3, pk_r24_4, pk_i24, pk_q24, pk_is33, pk_r33_0, pk_r33_1, pk_i33, pk_q33, pk_a34, pk_u34, pk_a35, pk_u35, pk_a36, pk_u36, pk_a37, pk_u37, pk_a38, pk_u38, pk_is40, pk_r40_0, pk_i40, pk_q40, pk_is102, pk_r102_0, pk_r102_1, pk_r102_2, pk_r102_3, pk_r102_4, pk_r102_5, pk_r102_6, pk_p102_6, pk_r102_7, pk_p102_7, pk_is103, pk_r103_0, pk_r103_1, pk_i103, pk_q103, pk_a104, pk_u104, pk_a105, pk_u105, pk_a106, pk_u106, pk_a107, pk_u107, pk_a108, pk_u108, pk_a109, pk_u109, pk_a110, pk_u110, pk_is111, pk_r111_0, pk_r111_1, pk_r111_2, pk_r111_3, pk_r111_4, pk_a112, pk_u112, pk_a113, pk_u113, pk_is114, pk_r114_0, pk_r114_1, pk_r114_2, pk_r114_3, pk_r114_4, pk_a115, pk_u115, pk_a116, pk_u116, pk_a117, pk_u117, h6]
      rfl
    · unfold mm_Wi_begin_b32
      simp (disch := ((try simp only [List.length_set]); omega)) only [pb_its, pb_l2, nI_add, pb_mul, if_true, if_false, pb_bs, pb_b2n, pb_bz0, pb_bz1, pb_10, pb_01, pb_i31, List.length_set, pk_is0, pk_r0_0, pk_r0_1, pk_r0_2, pk_r0_3, pk_r0_4, pk_r0_5, pk_r0_6, pk_r0_7, pk_r0_8, pk_r0_9, pk_i0, pk_q0, pk_is1, pk_r1_0, pk_i1, pk_q1, pk_a2, pk_u2, pk_is3, pk_r3_0, pk_r3_1, pk_r3_2, pk_p3_2, pk_is20, pk_r20_0, pk_r20_1, pk_r20_2, pk_i20, pk_q20, pk_a21, pk_u21, pk_a22, pk_u22, pk_is24, pk_r24_0, pk_p24_0, pk_r24_1, pk_r24_2, pk_r24_3, pk_r24_4, pk_i24, pk_q24, pk_is33, pk_r33_0, pk_r33_1, pk_i33, pk_q33, pk_a34, pk_u34, pk_a35, pk_u35, pk_a36, pk_u36, pk_a37, pk_u37, pk_a38, pk_u38, pk_is40, pk_r40_0, pk_i40, pk_q40, pk_is102, pk_r102_0, pk_r102_1, pk_r102_2, pk_r102_3, pk_r102_4, pk_r102_5, pk_r102_6, pk_p102_6, pk_r102_7, pk_p102_7, pk_is103, pk_r103_0, pk_r103_1, pk_i103, pk_q103, pk_a104, pk_u104, pk_a105, pk_u105, pk_a106, pk_u106, pk_a107, pk_u107, pk_a108, pk_u108, pk_a109, pk_u109, pk_a110, pk_u110, pk_is111, pk_r111_0, pk_r111_1, pk_r111_2, pk_r111_3, pk_r111_4, pk_a112, pk_u112, pk_a113, pk_u113, pk_is114, pk_r114_0, pk_r114_1, pk_r114_2, pk_r114_3, pk_r114_4, pk_a115, pk_u115, pk_a116, pk_u116, pk_a117, pk_u117, nI_le (Nat.le_refl 8) (by omega : 8 < 2 ^ 31)]
  have e5 : ss_gr (pk_C n g rc ti tb vt ri cd sx rl wi wv gi gs gw nd ns nw il ai (some v) r [j0, j1, j2, j3] S W yt yh yf yo yk fr fg pl pc pg) (some v) 5 1 = some (some (v + 2)) := pk_or hf0 hv5 rfl
  unfold mm_Wi_begin
  simp (disch := ((try simp only [List.length_set]); omega)) only [pb_its, pb_l2, nI_add, pb_mul, if_true, if_false, pb_bs, pb_b2n, pb_bz0, pb_bz1, pb_10, pb_01, pb_i31, List.length_set, pk_is0, pk_r0_0, pk_r0_1, pk_r0_2, pk_r0_3, pk_r0_4, pk_r0_5, pk_r0_6, pk_r0_7, pk_r0_8, pk_r0_9, pk_i0, pk_q0, pk_is1, pk_r1_0, pk_i1, pk_q1, pk_a2, pk_u2, pk_is3, pk_r3_0, pk_r3_1, pk_r3_2, pk_p3_2, pk_is20, pk_r20_0, pk_r20_1, pk_r20_2, pk_i20, pk_q20, pk_a21, pk_u21, pk_a22, pk_u22, pk_is24, pk_r24_0, pk_p24_0, pk_r24_1, pk_r24_2, pk_r24_3, pk_r24_4, pk_i24, pk_q24, pk_is33, pk_r33_0, pk_r33_1, pk_i33, pk_q33, pk_a34, pk_u34, pk_a35, pk_u35, pk_a36, pk_u36, pk_a37, pk_u37, pk_a38, pk_u38, pk_is40, pk_r40_0, pk_i40, pk_q40, pk_is102, pk_r102_0, pk_r102_1, pk_r102_2, pk_r102_3, pk_r102_4, pk_r102_5, pk_r102_6, pk_p102_6, pk_r102_7, pk_p102_7, pk_is103, pk_r103_0, pk_r103_1, pk_i103, pk_q103, pk_a104, pk_u104, pk_a105, pk_u105, pk_a106, pk_u106, pk_a107, pk_u107, pk_a108, pk_u108, pk_a109, pk_u109, pk_a110, pk_u110, pk_is111, pk_r111_0, pk_r111_1, pk_r111_2, pk_r111_3, pk_r111_4, pk_a112, pk_u112, pk_a113, pk_u113, pk_is114, pk_r114_0, pk_r114_1, pk_r114_2, pk_r114_3, pk_r114_4, pk_a115, pk_u115, pk_a116, pk_u116, pk_a117, pk_u117, e1, e5, e2, e3, zl8 w5, zl8 w6]
end SB
theorem rq_R_fr {g g' : Nat → ss_Cl} (e : ∀ p, 142 ≤ p → g' p = g p) {r : Option Nat} {ro : Option (List ru_C)} (h : rq_R g r ro) : rq_R g' r ro := by
  cases ro with
  | none => exact h
  | some R =>
    obtain ⟨q, e1, h0, h1, code, starts, h2, h3, h4, h5⟩ := h
    exact ⟨q, e1, h0, h1, code, starts, by rw [e q (by omega)]; exact h2, by rw [e (q + 1) (by omega)]; exact h3, by rw [e (q + 2) (by omega)]; exact h4, h5⟩
/-- all as the text told it -/
def sa_first (a : List Int32) : List Int32 := sa_lay a ([nI 0, nI 0, nI 0, nI 0] ++ (sl a 46 8 ++ sl a 54 8))
theorem sa_first_len {a : List Int32} (ha : a.length = 124) : (sa_first a).length = 124 := sa_lay_len ha (by simp [sl_len])
theorem sa_first_pv {a : List Int32} {j : Nat} (ha : a.length = 124) : pv (sa_first a) j = if j < 10 ∨ 30 ≤ j then pv a j else if j < 14 then nI 0 else pv a (j + 32) := by
  unfold sa_first
  rw [sa_lay_pv ha (by simp [sl_len])]
  by_cases c : j < 10 ∨ 30 ≤ j
  · rw [if_pos c, if_pos c]
  · rw [if_neg c, if_neg c]
    by_cases c1 : j < 14
    · rw [if_pos c1]
      have : j = 10 ∨ j = 11 ∨ j = 12 ∨ j = 13 := by omega
      rcases this with h | h | h | h <;> subst h <;> rfl
    · rw [if_neg c1]
      have e1 : pv ([nI 0, nI 0, nI 0, nI 0] ++ (sl a 46 8 ++ sl a 54 8)) (j - 10) = pv (sl a 46 8 ++ sl a 54 8) (j - 14) := by
        unfold pv
        rw [List.getD_eq_getElem?_getD, List.getD_eq_getElem?_getD, List.getElem?_append_right (by simp; omega)]
        congr 2
      rw [e1]
      by_cases c2 : j < 22
      · have e2 : pv (sl a 46 8 ++ sl a 54 8) (j - 14) = pv (sl a 46 8) (j - 14) := by
          unfold pv
          rw [List.getD_eq_getElem?_getD, List.getD_eq_getElem?_getD, List.getElem?_append_left (by rw [sl_len]; omega)]
        rw [e2, sl_pv (by omega)]
        congr 1
        omega
      · have e2 : pv (sl a 46 8 ++ sl a 54 8) (j - 14) = pv (sl a 54 8) (j - 22) := by
          unfold pv
          rw [List.getD_eq_getElem?_getD, List.getD_eq_getElem?_getD, List.getElem?_append_right (by rw [sl_len]; omega), sl_len]
          congr 2
        rw [e2, sl_pv (by omega)]
        congr 1
        omega
theorem cb_begin {N : Nat} {h0 h : ss_Hp} {T : List Nat} {a : List Int32} {fo x : Int32} {RS : List (List ru_C)} {US : List (List Int32)} {I : Nat → Option (List Int32 × Int32 × Int32)} {Z : Nat → List Int32} {v : Nat} {r : Option Nat} {ro : Option (List ru_C)} (hc : cb_h h0 h T a fo x RS US I Z) (ht : ¬ pv a 0 ≤ nI 0) (hv : ss_gr h (some 24) 8 0 = some (some v)) (hr : rq_R h.2 r ro) (hN : 8 < N) : ∃ h', mm_Wi_begin N (some 102) r (some 33) h = some h' ∧ cw_h h0 h' T a fo x RS US I Z ro a (pv a 13) z8 z8 := by
  obtain ⟨n, g, rc, ti, tb, vt, ri, cd, sx, rl, wi, wv, gi, gs, gw, nd, ns, nw, il, ai, yv, yr, yi, ys, yw, yt, yh, yf, yo, yk, fr, fg, pl, pc, pg, rfl, F, hg, z⟩ := hc
  obtain ⟨Fn, Frc, Ft, Fr, Fl, ⟨Fw, ⟨v', Fv, Fq⟩, Fg, Fs, Fwl, Fno⟩, Fi, ⟨nx, Fa, Fu⟩, Fy, Ff⟩ := id F
  have hy : yv = some v' := Fr.2.2.2.2.2.2.1.trans (Fr.2.2.2.2.2.1.symm.trans Fv)
  subst hy
  rw [pk_r24_0, Fv] at hv
  have hv := Option.some.inj (Option.some.inj hv)
  subst hv
  have hgw := Fwl.2 ht
  subst Fg Fs hgw
  obtain ⟨Fq0, Fq1, Fq2, Fq3, Fq4, Fq5⟩ := Fq
  have h5 : ∃ I2, g v' = (5, I2, [], [some (v' + 1), some (v' + 2), some (v' + 3), some (v' + 4), some (v' + 5)]) := by
    obtain ⟨h0, tl, nds, g0, g1, g3, g4, gl, gn⟩ := Fq0
    exact ⟨_, g0⟩
  refine ⟨_, pq_begin (q := 33) (q1 := 34) (q2 := 35) Fq0.1 h5 Fq2 (fun _ _ => pk_c33) (fun _ _ => pk_c34) (fun _ _ => pk_c35) (by omega) (sl_len _ _ _) (sl_len _ _ _) Fy hN, ?_⟩
  refine ⟨n, g, rc, ti, tb, vt, ri, cd, sx, rl, _, _, _, _, _, nd, ns, nw, il, _, _, _, _, _, _, _, _, _, _, _, fr, fg, pl, pc, pg, rfl, cl_F_w F ⟨rfl, sl_len _ _ _, sl_len _ _ _, rfl, rfl, rfl, Fy.2.2.2.2.2.2.1, Fy.2.2.2.2.2.2.2⟩, hg, z, ⟨rfl, rfl, rfl, rfl, rfl, rfl⟩, ⟨v', rfl, Fv, Fq0⟩, rq_R_fr (fun p hp => (pk_out (by unfold pk_fr; omega)).symm) hr⟩
theorem cb_first {N : Nat} {h0 h : ss_Hp} {T : List Nat} {a : List Int32} {fo x : Int32} {RS : List (List ru_C)} {US : List (List Int32)} {I : Nat → Option (List Int32 × Int32 × Int32)} {Z : Nat → List Int32} {v : Nat} {r : Option Nat} {ro : Option (List ru_C)} (hc : cb_h h0 h T a fo x RS US I Z) (hl : a.length = 124) (ht : ¬ pv a 0 ≤ nI 0) (hv : ss_gr h (some 24) 8 0 = some (some v)) (hr : rq_R h.2 r ro) (hN : 8 < N) : ∃ h', mm_Wi_begin N (some 102) r (some (v + 5)) h = some h' ∧ cw_h h0 h' T a fo x RS US I Z ro (sa_first a) (pv (sa_first a) 13) z8 z8 := by
  obtain ⟨n, g, rc, ti, tb, vt, ri, cd, sx, rl, wi, wv, gi, gs, gw, nd, ns, nw, il, ai, yv, yr, yi, ys, yw, yt, yh, yf, yo, yk, fr, fg, pl, pc, pg, rfl, F, hg, z⟩ := hc
  obtain ⟨Fn, Frc, Ft, Fr, Fl, ⟨Fw, ⟨v', Fv, Fq⟩, Fg, Fs, Fwl, Fno⟩, Fi, ⟨nx, Fa, Fu⟩, Fy, Ff⟩ := id F
  have hy : yv = some v' := Fr.2.2.2.2.2.2.1.trans (Fr.2.2.2.2.2.1.symm.trans Fv)
  subst hy
  rw [pk_r24_0, Fv] at hv
  have hv := Option.some.inj (Option.some.inj hv)
  subst hv
  obtain ⟨Fq0, Fq1, Fq2, Fq3, Fq4, w, Fq5, Fq6, Fq7⟩ := Fq
  have hw7 := Fq7 ht
  subst hw7
  have h5 : ∃ I2, g v' = (5, I2, [], [some (v' + 1), some (v' + 2), some (v' + 3), some (v' + 4), some (v' + 5)]) := by
    obtain ⟨h0, tl, nds, g0, g1, g3, g4, gl, gn⟩ := Fq0
    exact ⟨_, g0⟩
  have hp := fun j => sa_first_pv (a := a) (j := j) hl
  have e46 : sl (sa_first a) 14 8 = sl a 46 8 := pv_ext (by rw [sl_len, sl_len]) (fun i hi => by rw [sl_len] at hi; rw [sl_pv hi, sl_pv hi, hp, if_neg (by omega), if_neg (by omega)]; congr 1; omega)
  have e54 : sl (sa_first a) 22 8 = sl a 54 8 := pv_ext (by rw [sl_len, sl_len]) (fun i hi => by rw [sl_len] at hi; rw [sl_pv hi, sl_pv hi, hp, if_neg (by omega), if_neg (by omega)]; congr 1; omega)
  have hz : ∀ j, 10 ≤ j → j < 14 → pv (sa_first a) j = nI 0 := fun j h1 h2 => by rw [hp, if_neg (by omega), if_pos h2]
  have hh : ∀ j, 30 ≤ j → pv (sa_first a) j = pv a j := fun j h1 => by rw [hp, if_pos (Or.inr h1)]
  refine ⟨_, pq_begin (q := v' + 5) (q1 := v' + 6) (q2 := v' + 7) Fq0.1 h5 Fq2 (fun _ _ => (pk_out (qv_fr Fq0 (by omega))).trans Fq3) (fun _ _ => (pk_out (qv_fr Fq0 (by omega))).trans Fq4) (fun _ _ => (pk_out (qv_fr Fq0 (by omega))).trans Fq6) (by have := Fq0.1; omega) (sl_len _ _ _) (sl_len _ _ _) Fy hN, ?_⟩
  refine ⟨n, g, rc, ti, tb, vt, ri, cd, sx, rl, _, _, _, _, _, nd, ns, nw, il, _, _, _, _, _, _, _, _, _, _, _, fr, fg, pl, pc, pg, rfl, cl_F_w F ⟨rfl, sl_len _ _ _, sl_len _ _ _, rfl, rfl, rfl, Fy.2.2.2.2.2.2.1, Fy.2.2.2.2.2.2.2⟩, hg, z, ⟨?_, e46.symm, e54.symm, ?_, rfl, rfl⟩, ⟨v', rfl, Fv, qv_of Fq0 (fun j hj => by rw [hp, if_pos (by omega)])⟩, rq_R_fr (fun p hp => (pk_out (by unfold pk_fr; omega)).symm) hr⟩
  · rw [hz 10 (by omega) (by omega), hz 11 (by omega) (by omega), hz 12 (by omega) (by omega), hz 13 (by omega) (by omega)]
  · rw [hh 39 (by omega), hh 41 (by omega), hh 43 (by omega), hh 45 (by omega)]
theorem cb_ruleAt {N : Nat} {h0 h : ss_Hp} {T : List Nat} {a : List Int32} {fo x : Int32} {RS : List (List ru_C)} {US : List (List Int32)} {I : Nat → Option (List Int32 × Int32 × Int32)} {Z : Nat → List Int32} {u : Int32} (hc : cb_h h0 h T a fo x RS US I Z) (hu : u = -nI 1 ∨ ∃ r, r < RS.length ∧ u = nI r) (h6 : RS.length ≤ 6) : ∃ q, mm_F_ruleAt N (some 111) u h = some q ∧ rq_R h.2 q (ro_of u RS) := by
  obtain ⟨n, g, rc, ti, tb, vt, ri, cd, sx, rl, wi, wv, gi, gs, gw, nd, ns, nw, il, ai, yv, yr, yi, ys, yw, yt, yh, yf, yo, yk, fr, fg, pl, pc, pg, rfl, F, hg, z⟩ := hc
  obtain ⟨fl1, fl2⟩ := F.2.2.2.2.1
  unfold mm_F_ruleAt mm_F_ruleAt_j22 mm_F_ruleAt_j23
  rcases hu with rfl | ⟨r, hr, rfl⟩
  · refine ⟨none, ?_, ?_⟩
    · simp (disch := ((try simp only [List.length_set]); omega)) only [pb_its, pb_l2, nI_add, pb_mul, if_true, if_false, pb_bs, pb_b2n, pb_bz0, pb_bz1, pb_10, pb_01, pb_i31, List.length_set, pk_is0, pk_r0_0, pk_r0_1, pk_r0_2, pk_r0_3, pk_r0_4, pk_r0_5, pk_r0_6, pk_r0_7, pk_r0_8, pk_r0_9, pk_i0, pk_q0, pk_is1, pk_r1_0, pk_i1, pk_q1, pk_a2, pk_u2, pk_is3, pk_r3_0, pk_r3_1, pk_r3_2, pk_p3_2, pk_is20, pk_r20_0, pk_r20_1, pk_r20_2, pk_i20, pk_q20, pk_a21, pk_u21, pk_a22, pk_u22, pk_is24, pk_r24_0, pk_p24_0, pk_r24_1, pk_r24_2, pk_r24_3, pk_r24_4, pk_i24, pk_q24, pk_is33, pk_r33_0, pk_r33_1, pk_i33, pk_q33, pk_a34, pk_u34, pk_a35, pk_u35, pk_a36, pk_u36, pk_a37, pk_u37, pk_a38, pk_u38, pk_is40, pk_r40_0, pk_i40, pk_q40, pk_is102, pk_r102_0, pk_r102_1, pk_r102_2, pk_r102_3, pk_r102_4, pk_r102_5, pk_r102_6, pk_p102_6, pk_r102_7, pk_p102_7, pk_is103, pk_r103_0, pk_r103_1, pk_i103, pk_q103, pk_a104, pk_u104, pk_a105, pk_u105, pk_a106, pk_u106, pk_a107, pk_u107, pk_a108, pk_u108, pk_a109, pk_u109, pk_a110, pk_u110, pk_is111, pk_r111_0, pk_r111_1, pk_r111_2, pk_r111_3, pk_r111_4, pk_a112, pk_u112, pk_a113, pk_u113, pk_is114, pk_r114_0, pk_r114_1, pk_r114_2, pk_r114_3, pk_r114_4, pk_a115, pk_u115, pk_a116, pk_u116, pk_a117, pk_u117, eq_true pb_m1]
    · unfold ro_of
      rw [if_pos pb_m1]
      rfl
  · obtain ⟨p, p1, p2⟩ := (fl2 r (by omega)).1 hr
    have n0 : ¬ nI r < nI 0 := nI_nlt (by omega) (by omega)
    have n6 : ¬ nI 6 ≤ nI r := nI_ge (by omega) (by omega)
    have hlen : ss_len (pk_C n g rc ti tb vt ri cd sx rl wi wv gi gs gw nd ns nw il ai yv yr yi ys yw yt yh yf yo yk fr fg pl pc pg) (some 23) 25 = some (nI 6) := by
      have : ss_len (pk_C n g rc ti tb vt ri cd sx rl wi wv gi gs gw nd ns nw il ai yv yr yi ys yw yt yh yf yo yk fr fg pl pc pg) (some 23) 25 = some (nI rl.length) := Eq.trans rfl rfl
      rw [this, fl1]
    have har : ss_ar (pk_C n g rc ti tb vt ri cd sx rl wi wv gi gs gw nd ns nw il ai yv yr yi ys yw yt yh yf yo yk fr fg pl pc pg) (some 23) 25 (nI r) = some (some p) := by rw [pb_ar pk_c23 (by omega : r < 2 ^ 31)]; exact p1
    refine ⟨some p, ?_, ?_⟩
    · simp (disch := ((try simp only [List.length_set]); omega)) only [pb_its, pb_l2, nI_add, pb_mul, if_true, if_false, pb_bs, pb_b2n, pb_bz0, pb_bz1, pb_10, pb_01, pb_i31, List.length_set, pk_is0, pk_r0_0, pk_r0_1, pk_r0_2, pk_r0_3, pk_r0_4, pk_r0_5, pk_r0_6, pk_r0_7, pk_r0_8, pk_r0_9, pk_i0, pk_q0, pk_is1, pk_r1_0, pk_i1, pk_q1, pk_a2, pk_u2, pk_is3, pk_r3_0, pk_r3_1, pk_r3_2, pk_p3_2, pk_is20, pk_r20_0, pk_r20_1, pk_r20_2, pk_i20, pk_q20, pk_a21, pk_u21, pk_a22, pk_u22, pk_is24, pk_r24_0, pk_p24_0, pk_r24_1, pk_r24_2, pk_r24_3, pk_r24_4, pk_i24, pk_q24, pk_is33, pk_r33_0, pk_r33_1, pk_i33, pk_q33, pk_a34, pk_u34, pk_a35, pk_u35, pk_a36, pk_u36, pk_a37, pk_u37, pk_a38, pk_u38, pk_is40, pk_r40_0, pk_i40, pk_q40, pk_is102, pk_r102_0, pk_r102_1, pk_r102_2, pk_r102_3, pk_r102_4, pk_r102_5, pk_r102_6, pk_p102_6, pk_r102_7, pk_p102_7, pk_is103, pk_r103_0, pk_r103_1, pk_i103, pk_q103, pk_a104, pk_u104, pk_a105, pk_u105, pk_a106, pk_u106, pk_a107, pk_u107, pk_a108, pk_u108, pk_a109, pk_u109, pk_a110, pk_u110, pk_is111, pk_r111_0, pk_r111_1, pk_r111_2, pk_r111_3, pk_r111_4, pk_a112, pk_u112, pk_a113, pk_u113, pk_is114, pk_r114_0, pk_r114_1, pk_r114_2, pk_r114_3, pk_r114_4, pk_a115, pk_u115, pk_a116, pk_u116, pk_a117, pk_u117, n0, hlen, n6, har]
    · unfold ro_of
      rw [if_neg n0, nI_clamp (by omega), List.getElem?_eq_getElem hr]
      refine ⟨p, rfl, rc_R_fr (g := g) (fun q hq => pk_out (by unfold pk_fr; omega)) ?_⟩
      rw [List.getD_eq_getElem?_getD, List.getElem?_eq_getElem hr] at p2
      exact p2
theorem cb_start {N : Nat} {h0 h : ss_Hp} {T : List Nat} {a : List Int32} {fo x : Int32} {RS : List (List ru_C)} {US : List (List Int32)} {I : Nat → Option (List Int32 × Int32 × Int32)} {Z : Nat → List Int32} (hc : cb_h h0 h T a fo x RS US I Z) (ht : ¬ pv a 0 ≤ nI 0) (hu : fo = -nI 1 ∨ ∃ r, r < RS.length ∧ fo = nI r) (h6 : RS.length ≤ 6) (hN : 8 < N) : ∃ h', mm_F_start N (some 111) h = some h' ∧ cw_h h0 h' T a fo x RS US I Z (ro_of fo RS) a (pv a 13) z8 z8 := by
  obtain ⟨v, ⟨⟨bV, bI, bT, bF, bD, bS, bH⟩, ⟨bR0, bR1, bR2, bR3, bR4⟩, ⟨bFo, bX, bNo⟩, ⟨bG0, bG1, bG2, bG3⟩, bOwn, bStr, bBes, bSn, bWl, bNd, bCl⟩⟩ := cb_r hc
  obtain ⟨q, e1, e2⟩ := cb_ruleAt (N := N) hc hu h6
  obtain ⟨h', e3, e4⟩ := cb_begin (N := N) hc ht bV e2 hN
  refine ⟨h', ?_, e4⟩
  have hk := cb_ck hc
  unfold mm_F_start
  simp (disch := omega) only [pb_its, pb_l2, pb_ll, nI_add, pb_mul, if_true, if_false, pb_bs, pb_b2n, pb_bz0, pb_bz1, pb_10, pb_01, pb_i31, ck_is0 hk, ck_r0_0 hk, ck_r0_1 hk, ck_r0_2 hk, ck_r0_3 hk, ck_r0_4 hk, ck_r0_5 hk, ck_r0_6 hk, ck_r0_7 hk, ck_r0_8 hk, ck_r0_9 hk, ck_is1 hk, ck_r1_0 hk, ck_is3 hk, ck_r3_0 hk, ck_r3_1 hk, ck_is20 hk, ck_r20_0 hk, ck_r20_1 hk, ck_r20_2 hk, ck_is24 hk, ck_r24_1 hk, ck_r24_2 hk, ck_r24_3 hk, ck_r24_4 hk, ck_is33 hk, ck_r33_0 hk, ck_r33_1 hk, ck_is40 hk, ck_r40_0 hk, ck_is102 hk, ck_r102_0 hk, ck_r102_1 hk, ck_r102_2 hk, ck_r102_3 hk, ck_r102_4 hk, ck_r102_5 hk, ck_is103 hk, ck_r103_0 hk, ck_r103_1 hk, ck_is111 hk, ck_r111_0 hk, ck_r111_1 hk, ck_r111_2 hk, ck_r111_3 hk, ck_r111_4 hk, ck_is114 hk, ck_r114_0 hk, ck_r114_1 hk, ck_r114_2 hk, ck_r114_3 hk, ck_r114_4 hk, bV, bI, bT, bF, bD, bS, bH, bR0, bR1, bR2, bR3, bR4, bFo, bX, bNo, bG0, bG1, bG2, bG3, e1, e3]
