/-! ===== the class by its fields and arrays, one row each (printed by gen50.py) ===== -/
theorem pb_bs {α β : Type} (a : α) (f : α → Option β) : (some a).bind f = f a := Eq.trans rfl rfl
theorem pb_b2n {α β γ : Type} (a : α) (b : β) (f : α → β → Option γ) : ss_b2 (some (a, b)) f = f a b := Eq.trans rfl rfl
theorem pb_l2 (n : Nat) : (OfNat.ofNat n : Int32) = nI n := Eq.trans rfl rfl
def pk_H (n : Nat) (g : Nat → ss_Cl) (L1 L2 : List ss_Cl) : ss_Hp := (n, fun k => if k < 34 then L1.getD k (g k) else if 94 ≤ k ∧ k < 110 then L2.getD (k - 94) (g k) else g k)
theorem pk_hs1 {n : Nat} {g : Nat → ss_Cl} {L1 L2 : List ss_Cl} {a : Nat} {c : ss_Cl} (hl : L1.length = 34) (ha : a < 34) : ss_hs (pk_H n g L1 L2) a c = pk_H n g (L1.set a c) L2 := by
  refine Prod.ext rfl (funext fun k => ?_)
  simp only [ss_hs, pk_H]
  by_cases e : k = a
  · subst e
    rw [if_pos rfl, if_pos ha]
    simp [hl, ha]
  · rw [if_neg e]
    simp only [List.getD_eq_getElem?_getD, List.getElem?_set_ne (fun z => e z.symm)]
theorem pk_hs2 {n : Nat} {g : Nat → ss_Cl} {L1 L2 : List ss_Cl} {a : Nat} {c : ss_Cl} (hl : L2.length = 16) (ha : 94 ≤ a ∧ a < 110) : ss_hs (pk_H n g L1 L2) a c = pk_H n g L1 (L2.set (a - 94) c) := by
  refine Prod.ext rfl (funext fun k => ?_)
  simp only [ss_hs, pk_H]
  by_cases e : k = a
  · subst e
    have h1 : ¬ k < 34 := by omega
    have h2 : k - 94 < 16 := by omega
    rw [if_pos rfl, if_neg h1, if_pos ha]
    simp [hl, h2]
  · rw [if_neg e]
    by_cases h1 : k < 34
    · rw [if_pos h1, if_pos h1]
    · rw [if_neg h1, if_neg h1]
      by_cases h2 : 94 ≤ k ∧ k < 110
      · have h3 : ¬ a - 94 = k - 94 := by omega
        rw [if_pos h2, if_pos h2]
        simp only [List.getD_eq_getElem?_getD, List.getElem?_set_ne h3]
      · rw [if_neg h2, if_neg h2]
def pk_C (n : Nat) (g : Nat → ss_Cl) (rc : Int32) (ti : List Int32) (tb : List Int32) (vt : Option Nat) (ri : List Int32) (cd : List Int32) (sx : List Int32) (rl : List (Option Nat)) (wi : List Int32) (wv : Option Nat) (gi : List Int32) (gs : List Int32) (gw : List Int32) (nd : List Int32) (ns : List Int32) (nw : List Int32) (il : List (Option Nat)) (ai : List Int32) (yv : Option Nat) (yr : Option Nat) (yi : List Int32) (ys : List Int32) (yw : List Int32) (yt : List Int32) (yh : List Int32) (yf : List Int32) (yo : List Int64) (yk : List Int64) (fr : List Int32) (fg : List Int32) (pl : List Int32) (pc : List Int32) (pg : List Int32) : ss_Hp := pk_H n g [(11, [rc], [], [some 1, some 3, some 12, some 15, some 16, some 31, some 32, some 94, some 103, some 106]), (2, ti, [], [some 2]), (20, tb, [], []), (6, [], [], [some 1, vt]), g 4, g 5, g 6, g 7, g 8, g 9, g 10, g 11, (4, ri, [], [some 1, some 13, some 14]), (20, cd, [], []), (20, sx, [], []), (25, [], [], rl), (8, wi, [], [wv, some 25, some 28, some 29, some 30]), g 17, g 18, g 19, g 20, g 21, g 22, g 23, g 24, (0, gi, [], [some 26, some 27]), (20, gs, [], []), (20, gw, [], []), (20, nd, [], []), (20, ns, [], []), (20, nw, [], []), (26, [], [], il), (3, ai, [], [some 33]), (24, [], [], [some 34, some 37, some 40, some 43, some 46, some 49, some 52, some 55, some 58, some 61, some 64, some 67, some 70, some 73, some 76, some 79, some 82, some 85, some 88, some 91])] [(7, [], [], [some 95, some 98, some 99, some 100, some 101, some 102, yv, yr]), (0, yi, [], [some 96, some 97]), (20, ys, [], []), (20, yw, [], []), (20, yt, [], []), (20, yh, [], []), (20, yf, [], []), (23, [], yo, []), (23, [], yk, []), (9, [], [], [some 16, some 15, some 94, some 104, some 105]), (20, fr, [], []), (22, fg, [], []), (10, [], [], [some 16, some 94, some 107, some 108, some 109]), (20, pl, [], []), (20, pc, [], []), (20, pg, [], [])]
section PK
variable {n : Nat} {g : Nat → ss_Cl} {rc : Int32} {ti : List Int32} {tb : List Int32} {vt : Option Nat} {ri : List Int32} {cd : List Int32} {sx : List Int32} {rl : List (Option Nat)} {wi : List Int32} {wv : Option Nat} {gi : List Int32} {gs : List Int32} {gw : List Int32} {nd : List Int32} {ns : List Int32} {nw : List Int32} {il : List (Option Nat)} {ai : List Int32} {yv : Option Nat} {yr : Option Nat} {yi : List Int32} {ys : List Int32} {yw : List Int32} {yt : List Int32} {yh : List Int32} {yf : List Int32} {yo : List Int64} {yk : List Int64} {fr : List Int32} {fg : List Int32} {pl : List Int32} {pc : List Int32} {pg : List Int32} {N : Nat}
theorem pk_c0 : (pk_C n g rc ti tb vt ri cd sx rl wi wv gi gs gw nd ns nw il ai yv yr yi ys yw yt yh yf yo yk fr fg pl pc pg).2 0 = (11, [rc], [], [some 1, some 3, some 12, some 15, some 16, some 31, some 32, some 94, some 103, some 106]) := rfl
theorem pk_is0 : ss_is (pk_C n g rc ti tb vt ri cd sx rl wi wv gi gs gw nd ns nw il ai yv yr yi ys yw yt yh yf yo yk fr fg pl pc pg) (some 0) 11 = true := Eq.trans rfl rfl
theorem pk_r0_0 : ss_gr (pk_C n g rc ti tb vt ri cd sx rl wi wv gi gs gw nd ns nw il ai yv yr yi ys yw yt yh yf yo yk fr fg pl pc pg) (some 0) 11 0 = some (some 1) := Eq.trans rfl rfl
theorem pk_r0_1 : ss_gr (pk_C n g rc ti tb vt ri cd sx rl wi wv gi gs gw nd ns nw il ai yv yr yi ys yw yt yh yf yo yk fr fg pl pc pg) (some 0) 11 1 = some (some 3) := Eq.trans rfl rfl
theorem pk_r0_2 : ss_gr (pk_C n g rc ti tb vt ri cd sx rl wi wv gi gs gw nd ns nw il ai yv yr yi ys yw yt yh yf yo yk fr fg pl pc pg) (some 0) 11 2 = some (some 12) := Eq.trans rfl rfl
theorem pk_r0_3 : ss_gr (pk_C n g rc ti tb vt ri cd sx rl wi wv gi gs gw nd ns nw il ai yv yr yi ys yw yt yh yf yo yk fr fg pl pc pg) (some 0) 11 3 = some (some 15) := Eq.trans rfl rfl
theorem pk_r0_4 : ss_gr (pk_C n g rc ti tb vt ri cd sx rl wi wv gi gs gw nd ns nw il ai yv yr yi ys yw yt yh yf yo yk fr fg pl pc pg) (some 0) 11 4 = some (some 16) := Eq.trans rfl rfl
theorem pk_r0_5 : ss_gr (pk_C n g rc ti tb vt ri cd sx rl wi wv gi gs gw nd ns nw il ai yv yr yi ys yw yt yh yf yo yk fr fg pl pc pg) (some 0) 11 5 = some (some 31) := Eq.trans rfl rfl
theorem pk_r0_6 : ss_gr (pk_C n g rc ti tb vt ri cd sx rl wi wv gi gs gw nd ns nw il ai yv yr yi ys yw yt yh yf yo yk fr fg pl pc pg) (some 0) 11 6 = some (some 32) := Eq.trans rfl rfl
theorem pk_r0_7 : ss_gr (pk_C n g rc ti tb vt ri cd sx rl wi wv gi gs gw nd ns nw il ai yv yr yi ys yw yt yh yf yo yk fr fg pl pc pg) (some 0) 11 7 = some (some 94) := Eq.trans rfl rfl
theorem pk_r0_8 : ss_gr (pk_C n g rc ti tb vt ri cd sx rl wi wv gi gs gw nd ns nw il ai yv yr yi ys yw yt yh yf yo yk fr fg pl pc pg) (some 0) 11 8 = some (some 103) := Eq.trans rfl rfl
theorem pk_r0_9 : ss_gr (pk_C n g rc ti tb vt ri cd sx rl wi wv gi gs gw nd ns nw il ai yv yr yi ys yw yt yh yf yo yk fr fg pl pc pg) (some 0) 11 9 = some (some 106) := Eq.trans rfl rfl
theorem pk_i0 : ss_gi (pk_C n g rc ti tb vt ri cd sx rl wi wv gi gs gw nd ns nw il ai yv yr yi ys yw yt yh yf yo yk fr fg pl pc pg) (some 0) 11 0 = some rc := Eq.trans rfl rfl
theorem pk_q0 (w : Int32) : ss_pi (pk_C n g rc ti tb vt ri cd sx rl wi wv gi gs gw nd ns nw il ai yv yr yi ys yw yt yh yf yo yk fr fg pl pc pg) (some 0) 11 0 w = some (pk_C n g w ti tb vt ri cd sx rl wi wv gi gs gw nd ns nw il ai yv yr yi ys yw yt yh yf yo yk fr fg pl pc pg) := by
  rw [pb_pi pk_c0 (by simp) w]
  exact congrArg some (pk_hs1 rfl (by decide))
theorem pk_c1 : (pk_C n g rc ti tb vt ri cd sx rl wi wv gi gs gw nd ns nw il ai yv yr yi ys yw yt yh yf yo yk fr fg pl pc pg).2 1 = (2, ti, [], [some 2]) := rfl
theorem pk_is1 : ss_is (pk_C n g rc ti tb vt ri cd sx rl wi wv gi gs gw nd ns nw il ai yv yr yi ys yw yt yh yf yo yk fr fg pl pc pg) (some 1) 2 = true := Eq.trans rfl rfl
theorem pk_r1_0 : ss_gr (pk_C n g rc ti tb vt ri cd sx rl wi wv gi gs gw nd ns nw il ai yv yr yi ys yw yt yh yf yo yk fr fg pl pc pg) (some 1) 2 0 = some (some 2) := Eq.trans rfl rfl
theorem pk_i1 {j : Nat} (hj : j < ti.length) : ss_gi (pk_C n g rc ti tb vt ri cd sx rl wi wv gi gs gw nd ns nw il ai yv yr yi ys yw yt yh yf yo yk fr fg pl pc pg) (some 1) 2 j = some (pv ti j) := (pb_gi pk_c1 j).trans (pv_get hj)
theorem pk_q1 {j : Nat} (hj : j < ti.length) (w : Int32) : ss_pi (pk_C n g rc ti tb vt ri cd sx rl wi wv gi gs gw nd ns nw il ai yv yr yi ys yw yt yh yf yo yk fr fg pl pc pg) (some 1) 2 j w = some (pk_C n g rc (ti.set j w) tb vt ri cd sx rl wi wv gi gs gw nd ns nw il ai yv yr yi ys yw yt yh yf yo yk fr fg pl pc pg) := by
  rw [pb_pi pk_c1 hj w]
  exact congrArg some (pk_hs1 rfl (by decide))
theorem pk_c2 : (pk_C n g rc ti tb vt ri cd sx rl wi wv gi gs gw nd ns nw il ai yv yr yi ys yw yt yh yf yo yk fr fg pl pc pg).2 2 = (20, tb, [], []) := rfl
theorem pk_a2 {i : Nat} (hl : i < tb.length) (hi : i < 2147483648) : ss_ai (pk_C n g rc ti tb vt ri cd sx rl wi wv gi gs gw nd ns nw il ai yv yr yi ys yw yt yh yf yo yk fr fg pl pc pg) (some 2) 20 (nI i) = some (pv tb i) := (pb_ai pk_c2 hi).trans (pv_get hl)
theorem pk_u2 {i : Nat} (hl : i < tb.length) (hi : i < 2147483648) (w : Int32) : ss_ui (pk_C n g rc ti tb vt ri cd sx rl wi wv gi gs gw nd ns nw il ai yv yr yi ys yw yt yh yf yo yk fr fg pl pc pg) (some 2) 20 (nI i) w = some (pk_C n g rc ti (tb.set i w) vt ri cd sx rl wi wv gi gs gw nd ns nw il ai yv yr yi ys yw yt yh yf yo yk fr fg pl pc pg) := by
  rw [pb_ui pk_c2 hi hl w]
  exact congrArg some (pk_hs1 rfl (by decide))
theorem pk_c3 : (pk_C n g rc ti tb vt ri cd sx rl wi wv gi gs gw nd ns nw il ai yv yr yi ys yw yt yh yf yo yk fr fg pl pc pg).2 3 = (6, [], [], [some 1, vt]) := rfl
theorem pk_is3 : ss_is (pk_C n g rc ti tb vt ri cd sx rl wi wv gi gs gw nd ns nw il ai yv yr yi ys yw yt yh yf yo yk fr fg pl pc pg) (some 3) 6 = true := Eq.trans rfl rfl
theorem pk_r3_0 : ss_gr (pk_C n g rc ti tb vt ri cd sx rl wi wv gi gs gw nd ns nw il ai yv yr yi ys yw yt yh yf yo yk fr fg pl pc pg) (some 3) 6 0 = some (some 1) := Eq.trans rfl rfl
theorem pk_r3_1 : ss_gr (pk_C n g rc ti tb vt ri cd sx rl wi wv gi gs gw nd ns nw il ai yv yr yi ys yw yt yh yf yo yk fr fg pl pc pg) (some 3) 6 1 = some vt := Eq.trans rfl rfl
theorem pk_p3_1 (w : Option Nat) : ss_pr (pk_C n g rc ti tb vt ri cd sx rl wi wv gi gs gw nd ns nw il ai yv yr yi ys yw yt yh yf yo yk fr fg pl pc pg) (some 3) 6 1 w = some (pk_C n g rc ti tb w ri cd sx rl wi wv gi gs gw nd ns nw il ai yv yr yi ys yw yt yh yf yo yk fr fg pl pc pg) := by
  rw [pb_pr pk_c3 (by simp) w]
  exact congrArg some (pk_hs1 rfl (by decide))
theorem pk_c12 : (pk_C n g rc ti tb vt ri cd sx rl wi wv gi gs gw nd ns nw il ai yv yr yi ys yw yt yh yf yo yk fr fg pl pc pg).2 12 = (4, ri, [], [some 1, some 13, some 14]) := rfl
theorem pk_is12 : ss_is (pk_C n g rc ti tb vt ri cd sx rl wi wv gi gs gw nd ns nw il ai yv yr yi ys yw yt yh yf yo yk fr fg pl pc pg) (some 12) 4 = true := Eq.trans rfl rfl
theorem pk_r12_0 : ss_gr (pk_C n g rc ti tb vt ri cd sx rl wi wv gi gs gw nd ns nw il ai yv yr yi ys yw yt yh yf yo yk fr fg pl pc pg) (some 12) 4 0 = some (some 1) := Eq.trans rfl rfl
theorem pk_r12_1 : ss_gr (pk_C n g rc ti tb vt ri cd sx rl wi wv gi gs gw nd ns nw il ai yv yr yi ys yw yt yh yf yo yk fr fg pl pc pg) (some 12) 4 1 = some (some 13) := Eq.trans rfl rfl
theorem pk_r12_2 : ss_gr (pk_C n g rc ti tb vt ri cd sx rl wi wv gi gs gw nd ns nw il ai yv yr yi ys yw yt yh yf yo yk fr fg pl pc pg) (some 12) 4 2 = some (some 14) := Eq.trans rfl rfl
theorem pk_i12 {j : Nat} (hj : j < ri.length) : ss_gi (pk_C n g rc ti tb vt ri cd sx rl wi wv gi gs gw nd ns nw il ai yv yr yi ys yw yt yh yf yo yk fr fg pl pc pg) (some 12) 4 j = some (pv ri j) := (pb_gi pk_c12 j).trans (pv_get hj)
theorem pk_q12 {j : Nat} (hj : j < ri.length) (w : Int32) : ss_pi (pk_C n g rc ti tb vt ri cd sx rl wi wv gi gs gw nd ns nw il ai yv yr yi ys yw yt yh yf yo yk fr fg pl pc pg) (some 12) 4 j w = some (pk_C n g rc ti tb vt (ri.set j w) cd sx rl wi wv gi gs gw nd ns nw il ai yv yr yi ys yw yt yh yf yo yk fr fg pl pc pg) := by
  rw [pb_pi pk_c12 hj w]
  exact congrArg some (pk_hs1 rfl (by decide))
theorem pk_c13 : (pk_C n g rc ti tb vt ri cd sx rl wi wv gi gs gw nd ns nw il ai yv yr yi ys yw yt yh yf yo yk fr fg pl pc pg).2 13 = (20, cd, [], []) := rfl
theorem pk_a13 {i : Nat} (hl : i < cd.length) (hi : i < 2147483648) : ss_ai (pk_C n g rc ti tb vt ri cd sx rl wi wv gi gs gw nd ns nw il ai yv yr yi ys yw yt yh yf yo yk fr fg pl pc pg) (some 13) 20 (nI i) = some (pv cd i) := (pb_ai pk_c13 hi).trans (pv_get hl)
theorem pk_u13 {i : Nat} (hl : i < cd.length) (hi : i < 2147483648) (w : Int32) : ss_ui (pk_C n g rc ti tb vt ri cd sx rl wi wv gi gs gw nd ns nw il ai yv yr yi ys yw yt yh yf yo yk fr fg pl pc pg) (some 13) 20 (nI i) w = some (pk_C n g rc ti tb vt ri (cd.set i w) sx rl wi wv gi gs gw nd ns nw il ai yv yr yi ys yw yt yh yf yo yk fr fg pl pc pg) := by
  rw [pb_ui pk_c13 hi hl w]
  exact congrArg some (pk_hs1 rfl (by decide))
theorem pk_c14 : (pk_C n g rc ti tb vt ri cd sx rl wi wv gi gs gw nd ns nw il ai yv yr yi ys yw yt yh yf yo yk fr fg pl pc pg).2 14 = (20, sx, [], []) := rfl
theorem pk_a14 {i : Nat} (hl : i < sx.length) (hi : i < 2147483648) : ss_ai (pk_C n g rc ti tb vt ri cd sx rl wi wv gi gs gw nd ns nw il ai yv yr yi ys yw yt yh yf yo yk fr fg pl pc pg) (some 14) 20 (nI i) = some (pv sx i) := (pb_ai pk_c14 hi).trans (pv_get hl)
theorem pk_u14 {i : Nat} (hl : i < sx.length) (hi : i < 2147483648) (w : Int32) : ss_ui (pk_C n g rc ti tb vt ri cd sx rl wi wv gi gs gw nd ns nw il ai yv yr yi ys yw yt yh yf yo yk fr fg pl pc pg) (some 14) 20 (nI i) w = some (pk_C n g rc ti tb vt ri cd (sx.set i w) rl wi wv gi gs gw nd ns nw il ai yv yr yi ys yw yt yh yf yo yk fr fg pl pc pg) := by
  rw [pb_ui pk_c14 hi hl w]
  exact congrArg some (pk_hs1 rfl (by decide))
theorem pk_c15 : (pk_C n g rc ti tb vt ri cd sx rl wi wv gi gs gw nd ns nw il ai yv yr yi ys yw yt yh yf yo yk fr fg pl pc pg).2 15 = (25, [], [], rl) := rfl
theorem pk_c16 : (pk_C n g rc ti tb vt ri cd sx rl wi wv gi gs gw nd ns nw il ai yv yr yi ys yw yt yh yf yo yk fr fg pl pc pg).2 16 = (8, wi, [], [wv, some 25, some 28, some 29, some 30]) := rfl
theorem pk_is16 : ss_is (pk_C n g rc ti tb vt ri cd sx rl wi wv gi gs gw nd ns nw il ai yv yr yi ys yw yt yh yf yo yk fr fg pl pc pg) (some 16) 8 = true := Eq.trans rfl rfl
theorem pk_r16_0 : ss_gr (pk_C n g rc ti tb vt ri cd sx rl wi wv gi gs gw nd ns nw il ai yv yr yi ys yw yt yh yf yo yk fr fg pl pc pg) (some 16) 8 0 = some wv := Eq.trans rfl rfl
theorem pk_p16_0 (w : Option Nat) : ss_pr (pk_C n g rc ti tb vt ri cd sx rl wi wv gi gs gw nd ns nw il ai yv yr yi ys yw yt yh yf yo yk fr fg pl pc pg) (some 16) 8 0 w = some (pk_C n g rc ti tb vt ri cd sx rl wi w gi gs gw nd ns nw il ai yv yr yi ys yw yt yh yf yo yk fr fg pl pc pg) := by
  rw [pb_pr pk_c16 (by simp) w]
  exact congrArg some (pk_hs1 rfl (by decide))
theorem pk_r16_1 : ss_gr (pk_C n g rc ti tb vt ri cd sx rl wi wv gi gs gw nd ns nw il ai yv yr yi ys yw yt yh yf yo yk fr fg pl pc pg) (some 16) 8 1 = some (some 25) := Eq.trans rfl rfl
theorem pk_r16_2 : ss_gr (pk_C n g rc ti tb vt ri cd sx rl wi wv gi gs gw nd ns nw il ai yv yr yi ys yw yt yh yf yo yk fr fg pl pc pg) (some 16) 8 2 = some (some 28) := Eq.trans rfl rfl
theorem pk_r16_3 : ss_gr (pk_C n g rc ti tb vt ri cd sx rl wi wv gi gs gw nd ns nw il ai yv yr yi ys yw yt yh yf yo yk fr fg pl pc pg) (some 16) 8 3 = some (some 29) := Eq.trans rfl rfl
theorem pk_r16_4 : ss_gr (pk_C n g rc ti tb vt ri cd sx rl wi wv gi gs gw nd ns nw il ai yv yr yi ys yw yt yh yf yo yk fr fg pl pc pg) (some 16) 8 4 = some (some 30) := Eq.trans rfl rfl
theorem pk_i16 {j : Nat} (hj : j < wi.length) : ss_gi (pk_C n g rc ti tb vt ri cd sx rl wi wv gi gs gw nd ns nw il ai yv yr yi ys yw yt yh yf yo yk fr fg pl pc pg) (some 16) 8 j = some (pv wi j) := (pb_gi pk_c16 j).trans (pv_get hj)
theorem pk_q16 {j : Nat} (hj : j < wi.length) (w : Int32) : ss_pi (pk_C n g rc ti tb vt ri cd sx rl wi wv gi gs gw nd ns nw il ai yv yr yi ys yw yt yh yf yo yk fr fg pl pc pg) (some 16) 8 j w = some (pk_C n g rc ti tb vt ri cd sx rl (wi.set j w) wv gi gs gw nd ns nw il ai yv yr yi ys yw yt yh yf yo yk fr fg pl pc pg) := by
  rw [pb_pi pk_c16 hj w]
  exact congrArg some (pk_hs1 rfl (by decide))
theorem pk_c25 : (pk_C n g rc ti tb vt ri cd sx rl wi wv gi gs gw nd ns nw il ai yv yr yi ys yw yt yh yf yo yk fr fg pl pc pg).2 25 = (0, gi, [], [some 26, some 27]) := rfl
theorem pk_is25 : ss_is (pk_C n g rc ti tb vt ri cd sx rl wi wv gi gs gw nd ns nw il ai yv yr yi ys yw yt yh yf yo yk fr fg pl pc pg) (some 25) 0 = true := Eq.trans rfl rfl
theorem pk_r25_0 : ss_gr (pk_C n g rc ti tb vt ri cd sx rl wi wv gi gs gw nd ns nw il ai yv yr yi ys yw yt yh yf yo yk fr fg pl pc pg) (some 25) 0 0 = some (some 26) := Eq.trans rfl rfl
theorem pk_r25_1 : ss_gr (pk_C n g rc ti tb vt ri cd sx rl wi wv gi gs gw nd ns nw il ai yv yr yi ys yw yt yh yf yo yk fr fg pl pc pg) (some 25) 0 1 = some (some 27) := Eq.trans rfl rfl
theorem pk_i25 {j : Nat} (hj : j < gi.length) : ss_gi (pk_C n g rc ti tb vt ri cd sx rl wi wv gi gs gw nd ns nw il ai yv yr yi ys yw yt yh yf yo yk fr fg pl pc pg) (some 25) 0 j = some (pv gi j) := (pb_gi pk_c25 j).trans (pv_get hj)
theorem pk_q25 {j : Nat} (hj : j < gi.length) (w : Int32) : ss_pi (pk_C n g rc ti tb vt ri cd sx rl wi wv gi gs gw nd ns nw il ai yv yr yi ys yw yt yh yf yo yk fr fg pl pc pg) (some 25) 0 j w = some (pk_C n g rc ti tb vt ri cd sx rl wi wv (gi.set j w) gs gw nd ns nw il ai yv yr yi ys yw yt yh yf yo yk fr fg pl pc pg) := by
  rw [pb_pi pk_c25 hj w]
  exact congrArg some (pk_hs1 rfl (by decide))
theorem pk_c26 : (pk_C n g rc ti tb vt ri cd sx rl wi wv gi gs gw nd ns nw il ai yv yr yi ys yw yt yh yf yo yk fr fg pl pc pg).2 26 = (20, gs, [], []) := rfl
theorem pk_a26 {i : Nat} (hl : i < gs.length) (hi : i < 2147483648) : ss_ai (pk_C n g rc ti tb vt ri cd sx rl wi wv gi gs gw nd ns nw il ai yv yr yi ys yw yt yh yf yo yk fr fg pl pc pg) (some 26) 20 (nI i) = some (pv gs i) := (pb_ai pk_c26 hi).trans (pv_get hl)
theorem pk_u26 {i : Nat} (hl : i < gs.length) (hi : i < 2147483648) (w : Int32) : ss_ui (pk_C n g rc ti tb vt ri cd sx rl wi wv gi gs gw nd ns nw il ai yv yr yi ys yw yt yh yf yo yk fr fg pl pc pg) (some 26) 20 (nI i) w = some (pk_C n g rc ti tb vt ri cd sx rl wi wv gi (gs.set i w) gw nd ns nw il ai yv yr yi ys yw yt yh yf yo yk fr fg pl pc pg) := by
  rw [pb_ui pk_c26 hi hl w]
  exact congrArg some (pk_hs1 rfl (by decide))
theorem pk_c27 : (pk_C n g rc ti tb vt ri cd sx rl wi wv gi gs gw nd ns nw il ai yv yr yi ys yw yt yh yf yo yk fr fg pl pc pg).2 27 = (20, gw, [], []) := rfl
theorem pk_a27 {i : Nat} (hl : i < gw.length) (hi : i < 2147483648) : ss_ai (pk_C n g rc ti tb vt ri cd sx rl wi wv gi gs gw nd ns nw il ai yv yr yi ys yw yt yh yf yo yk fr fg pl pc pg) (some 27) 20 (nI i) = some (pv gw i) := (pb_ai pk_c27 hi).trans (pv_get hl)
theorem pk_u27 {i : Nat} (hl : i < gw.length) (hi : i < 2147483648) (w : Int32) : ss_ui (pk_C n g rc ti tb vt ri cd sx rl wi wv gi gs gw nd ns nw il ai yv yr yi ys yw yt yh yf yo yk fr fg pl pc pg) (some 27) 20 (nI i) w = some (pk_C n g rc ti tb vt ri cd sx rl wi wv gi gs (gw.set i w) nd ns nw il ai yv yr yi ys yw yt yh yf yo yk fr fg pl pc pg) := by
  rw [pb_ui pk_c27 hi hl w]
  exact congrArg some (pk_hs1 rfl (by decide))
theorem pk_c28 : (pk_C n g rc ti tb vt ri cd sx rl wi wv gi gs gw nd ns nw il ai yv yr yi ys yw yt yh yf yo yk fr fg pl pc pg).2 28 = (20, nd, [], []) := rfl
theorem pk_a28 {i : Nat} (hl : i < nd.length) (hi : i < 2147483648) : ss_ai (pk_C n g rc ti tb vt ri cd sx rl wi wv gi gs gw nd ns nw il ai yv yr yi ys yw yt yh yf yo yk fr fg pl pc pg) (some 28) 20 (nI i) = some (pv nd i) := (pb_ai pk_c28 hi).trans (pv_get hl)
theorem pk_u28 {i : Nat} (hl : i < nd.length) (hi : i < 2147483648) (w : Int32) : ss_ui (pk_C n g rc ti tb vt ri cd sx rl wi wv gi gs gw nd ns nw il ai yv yr yi ys yw yt yh yf yo yk fr fg pl pc pg) (some 28) 20 (nI i) w = some (pk_C n g rc ti tb vt ri cd sx rl wi wv gi gs gw (nd.set i w) ns nw il ai yv yr yi ys yw yt yh yf yo yk fr fg pl pc pg) := by
  rw [pb_ui pk_c28 hi hl w]
  exact congrArg some (pk_hs1 rfl (by decide))
theorem pk_c29 : (pk_C n g rc ti tb vt ri cd sx rl wi wv gi gs gw nd ns nw il ai yv yr yi ys yw yt yh yf yo yk fr fg pl pc pg).2 29 = (20, ns, [], []) := rfl
theorem pk_a29 {i : Nat} (hl : i < ns.length) (hi : i < 2147483648) : ss_ai (pk_C n g rc ti tb vt ri cd sx rl wi wv gi gs gw nd ns nw il ai yv yr yi ys yw yt yh yf yo yk fr fg pl pc pg) (some 29) 20 (nI i) = some (pv ns i) := (pb_ai pk_c29 hi).trans (pv_get hl)
theorem pk_u29 {i : Nat} (hl : i < ns.length) (hi : i < 2147483648) (w : Int32) : ss_ui (pk_C n g rc ti tb vt ri cd sx rl wi wv gi gs gw nd ns nw il ai yv yr yi ys yw yt yh yf yo yk fr fg pl pc pg) (some 29) 20 (nI i) w = some (pk_C n g rc ti tb vt ri cd sx rl wi wv gi gs gw nd (ns.set i w) nw il ai yv yr yi ys yw yt yh yf yo yk fr fg pl pc pg) := by
  rw [pb_ui pk_c29 hi hl w]
  exact congrArg some (pk_hs1 rfl (by decide))
theorem pk_c30 : (pk_C n g rc ti tb vt ri cd sx rl wi wv gi gs gw nd ns nw il ai yv yr yi ys yw yt yh yf yo yk fr fg pl pc pg).2 30 = (20, nw, [], []) := rfl
theorem pk_a30 {i : Nat} (hl : i < nw.length) (hi : i < 2147483648) : ss_ai (pk_C n g rc ti tb vt ri cd sx rl wi wv gi gs gw nd ns nw il ai yv yr yi ys yw yt yh yf yo yk fr fg pl pc pg) (some 30) 20 (nI i) = some (pv nw i) := (pb_ai pk_c30 hi).trans (pv_get hl)
theorem pk_u30 {i : Nat} (hl : i < nw.length) (hi : i < 2147483648) (w : Int32) : ss_ui (pk_C n g rc ti tb vt ri cd sx rl wi wv gi gs gw nd ns nw il ai yv yr yi ys yw yt yh yf yo yk fr fg pl pc pg) (some 30) 20 (nI i) w = some (pk_C n g rc ti tb vt ri cd sx rl wi wv gi gs gw nd ns (nw.set i w) il ai yv yr yi ys yw yt yh yf yo yk fr fg pl pc pg) := by
  rw [pb_ui pk_c30 hi hl w]
  exact congrArg some (pk_hs1 rfl (by decide))
theorem pk_c31 : (pk_C n g rc ti tb vt ri cd sx rl wi wv gi gs gw nd ns nw il ai yv yr yi ys yw yt yh yf yo yk fr fg pl pc pg).2 31 = (26, [], [], il) := rfl
theorem pk_c32 : (pk_C n g rc ti tb vt ri cd sx rl wi wv gi gs gw nd ns nw il ai yv yr yi ys yw yt yh yf yo yk fr fg pl pc pg).2 32 = (3, ai, [], [some 33]) := rfl
theorem pk_is32 : ss_is (pk_C n g rc ti tb vt ri cd sx rl wi wv gi gs gw nd ns nw il ai yv yr yi ys yw yt yh yf yo yk fr fg pl pc pg) (some 32) 3 = true := Eq.trans rfl rfl
theorem pk_r32_0 : ss_gr (pk_C n g rc ti tb vt ri cd sx rl wi wv gi gs gw nd ns nw il ai yv yr yi ys yw yt yh yf yo yk fr fg pl pc pg) (some 32) 3 0 = some (some 33) := Eq.trans rfl rfl
theorem pk_i32 {j : Nat} (hj : j < ai.length) : ss_gi (pk_C n g rc ti tb vt ri cd sx rl wi wv gi gs gw nd ns nw il ai yv yr yi ys yw yt yh yf yo yk fr fg pl pc pg) (some 32) 3 j = some (pv ai j) := (pb_gi pk_c32 j).trans (pv_get hj)
theorem pk_q32 {j : Nat} (hj : j < ai.length) (w : Int32) : ss_pi (pk_C n g rc ti tb vt ri cd sx rl wi wv gi gs gw nd ns nw il ai yv yr yi ys yw yt yh yf yo yk fr fg pl pc pg) (some 32) 3 j w = some (pk_C n g rc ti tb vt ri cd sx rl wi wv gi gs gw nd ns nw il (ai.set j w) yv yr yi ys yw yt yh yf yo yk fr fg pl pc pg) := by
  rw [pb_pi pk_c32 hj w]
  exact congrArg some (pk_hs1 rfl (by decide))
theorem pk_c33 : (pk_C n g rc ti tb vt ri cd sx rl wi wv gi gs gw nd ns nw il ai yv yr yi ys yw yt yh yf yo yk fr fg pl pc pg).2 33 = (24, [], [], [some 34, some 37, some 40, some 43, some 46, some 49, some 52, some 55, some 58, some 61, some 64, some 67, some 70, some 73, some 76, some 79, some 82, some 85, some 88, some 91]) := rfl
theorem pk_c94 : (pk_C n g rc ti tb vt ri cd sx rl wi wv gi gs gw nd ns nw il ai yv yr yi ys yw yt yh yf yo yk fr fg pl pc pg).2 94 = (7, [], [], [some 95, some 98, some 99, some 100, some 101, some 102, yv, yr]) := rfl
theorem pk_is94 : ss_is (pk_C n g rc ti tb vt ri cd sx rl wi wv gi gs gw nd ns nw il ai yv yr yi ys yw yt yh yf yo yk fr fg pl pc pg) (some 94) 7 = true := Eq.trans rfl rfl
theorem pk_r94_0 : ss_gr (pk_C n g rc ti tb vt ri cd sx rl wi wv gi gs gw nd ns nw il ai yv yr yi ys yw yt yh yf yo yk fr fg pl pc pg) (some 94) 7 0 = some (some 95) := Eq.trans rfl rfl
theorem pk_r94_1 : ss_gr (pk_C n g rc ti tb vt ri cd sx rl wi wv gi gs gw nd ns nw il ai yv yr yi ys yw yt yh yf yo yk fr fg pl pc pg) (some 94) 7 1 = some (some 98) := Eq.trans rfl rfl
theorem pk_r94_2 : ss_gr (pk_C n g rc ti tb vt ri cd sx rl wi wv gi gs gw nd ns nw il ai yv yr yi ys yw yt yh yf yo yk fr fg pl pc pg) (some 94) 7 2 = some (some 99) := Eq.trans rfl rfl
theorem pk_r94_3 : ss_gr (pk_C n g rc ti tb vt ri cd sx rl wi wv gi gs gw nd ns nw il ai yv yr yi ys yw yt yh yf yo yk fr fg pl pc pg) (some 94) 7 3 = some (some 100) := Eq.trans rfl rfl
theorem pk_r94_4 : ss_gr (pk_C n g rc ti tb vt ri cd sx rl wi wv gi gs gw nd ns nw il ai yv yr yi ys yw yt yh yf yo yk fr fg pl pc pg) (some 94) 7 4 = some (some 101) := Eq.trans rfl rfl
theorem pk_r94_5 : ss_gr (pk_C n g rc ti tb vt ri cd sx rl wi wv gi gs gw nd ns nw il ai yv yr yi ys yw yt yh yf yo yk fr fg pl pc pg) (some 94) 7 5 = some (some 102) := Eq.trans rfl rfl
theorem pk_r94_6 : ss_gr (pk_C n g rc ti tb vt ri cd sx rl wi wv gi gs gw nd ns nw il ai yv yr yi ys yw yt yh yf yo yk fr fg pl pc pg) (some 94) 7 6 = some yv := Eq.trans rfl rfl
theorem pk_p94_6 (w : Option Nat) : ss_pr (pk_C n g rc ti tb vt ri cd sx rl wi wv gi gs gw nd ns nw il ai yv yr yi ys yw yt yh yf yo yk fr fg pl pc pg) (some 94) 7 6 w = some (pk_C n g rc ti tb vt ri cd sx rl wi wv gi gs gw nd ns nw il ai w yr yi ys yw yt yh yf yo yk fr fg pl pc pg) := by
  rw [pb_pr pk_c94 (by simp) w]
  exact congrArg some (pk_hs2 rfl (by decide))
theorem pk_r94_7 : ss_gr (pk_C n g rc ti tb vt ri cd sx rl wi wv gi gs gw nd ns nw il ai yv yr yi ys yw yt yh yf yo yk fr fg pl pc pg) (some 94) 7 7 = some yr := Eq.trans rfl rfl
theorem pk_p94_7 (w : Option Nat) : ss_pr (pk_C n g rc ti tb vt ri cd sx rl wi wv gi gs gw nd ns nw il ai yv yr yi ys yw yt yh yf yo yk fr fg pl pc pg) (some 94) 7 7 w = some (pk_C n g rc ti tb vt ri cd sx rl wi wv gi gs gw nd ns nw il ai yv w yi ys yw yt yh yf yo yk fr fg pl pc pg) := by
  rw [pb_pr pk_c94 (by simp) w]
  exact congrArg some (pk_hs2 rfl (by decide))
theorem pk_c95 : (pk_C n g rc ti tb vt ri cd sx rl wi wv gi gs gw nd ns nw il ai yv yr yi ys yw yt yh yf yo yk fr fg pl pc pg).2 95 = (0, yi, [], [some 96, some 97]) := rfl
theorem pk_is95 : ss_is (pk_C n g rc ti tb vt ri cd sx rl wi wv gi gs gw nd ns nw il ai yv yr yi ys yw yt yh yf yo yk fr fg pl pc pg) (some 95) 0 = true := Eq.trans rfl rfl
theorem pk_r95_0 : ss_gr (pk_C n g rc ti tb vt ri cd sx rl wi wv gi gs gw nd ns nw il ai yv yr yi ys yw yt yh yf yo yk fr fg pl pc pg) (some 95) 0 0 = some (some 96) := Eq.trans rfl rfl
theorem pk_r95_1 : ss_gr (pk_C n g rc ti tb vt ri cd sx rl wi wv gi gs gw nd ns nw il ai yv yr yi ys yw yt yh yf yo yk fr fg pl pc pg) (some 95) 0 1 = some (some 97) := Eq.trans rfl rfl
theorem pk_i95 {j : Nat} (hj : j < yi.length) : ss_gi (pk_C n g rc ti tb vt ri cd sx rl wi wv gi gs gw nd ns nw il ai yv yr yi ys yw yt yh yf yo yk fr fg pl pc pg) (some 95) 0 j = some (pv yi j) := (pb_gi pk_c95 j).trans (pv_get hj)
theorem pk_q95 {j : Nat} (hj : j < yi.length) (w : Int32) : ss_pi (pk_C n g rc ti tb vt ri cd sx rl wi wv gi gs gw nd ns nw il ai yv yr yi ys yw yt yh yf yo yk fr fg pl pc pg) (some 95) 0 j w = some (pk_C n g rc ti tb vt ri cd sx rl wi wv gi gs gw nd ns nw il ai yv yr (yi.set j w) ys yw yt yh yf yo yk fr fg pl pc pg) := by
  rw [pb_pi pk_c95 hj w]
  exact congrArg some (pk_hs2 rfl (by decide))
theorem pk_c96 : (pk_C n g rc ti tb vt ri cd sx rl wi wv gi gs gw nd ns nw il ai yv yr yi ys yw yt yh yf yo yk fr fg pl pc pg).2 96 = (20, ys, [], []) := rfl
theorem pk_a96 {i : Nat} (hl : i < ys.length) (hi : i < 2147483648) : ss_ai (pk_C n g rc ti tb vt ri cd sx rl wi wv gi gs gw nd ns nw il ai yv yr yi ys yw yt yh yf yo yk fr fg pl pc pg) (some 96) 20 (nI i) = some (pv ys i) := (pb_ai pk_c96 hi).trans (pv_get hl)
theorem pk_u96 {i : Nat} (hl : i < ys.length) (hi : i < 2147483648) (w : Int32) : ss_ui (pk_C n g rc ti tb vt ri cd sx rl wi wv gi gs gw nd ns nw il ai yv yr yi ys yw yt yh yf yo yk fr fg pl pc pg) (some 96) 20 (nI i) w = some (pk_C n g rc ti tb vt ri cd sx rl wi wv gi gs gw nd ns nw il ai yv yr yi (ys.set i w) yw yt yh yf yo yk fr fg pl pc pg) := by
  rw [pb_ui pk_c96 hi hl w]
  exact congrArg some (pk_hs2 rfl (by decide))
theorem pk_c97 : (pk_C n g rc ti tb vt ri cd sx rl wi wv gi gs gw nd ns nw il ai yv yr yi ys yw yt yh yf yo yk fr fg pl pc pg).2 97 = (20, yw, [], []) := rfl
theorem pk_a97 {i : Nat} (hl : i < yw.length) (hi : i < 2147483648) : ss_ai (pk_C n g rc ti tb vt ri cd sx rl wi wv gi gs gw nd ns nw il ai yv yr yi ys yw yt yh yf yo yk fr fg pl pc pg) (some 97) 20 (nI i) = some (pv yw i) := (pb_ai pk_c97 hi).trans (pv_get hl)
theorem pk_u97 {i : Nat} (hl : i < yw.length) (hi : i < 2147483648) (w : Int32) : ss_ui (pk_C n g rc ti tb vt ri cd sx rl wi wv gi gs gw nd ns nw il ai yv yr yi ys yw yt yh yf yo yk fr fg pl pc pg) (some 97) 20 (nI i) w = some (pk_C n g rc ti tb vt ri cd sx rl wi wv gi gs gw nd ns nw il ai yv yr yi ys (yw.set i w) yt yh yf yo yk fr fg pl pc pg) := by
  rw [pb_ui pk_c97 hi hl w]
  exact congrArg some (pk_hs2 rfl (by decide))
theorem pk_c98 : (pk_C n g rc ti tb vt ri cd sx rl wi wv gi gs gw nd ns nw il ai yv yr yi ys yw yt yh yf yo yk fr fg pl pc pg).2 98 = (20, yt, [], []) := rfl
theorem pk_a98 {i : Nat} (hl : i < yt.length) (hi : i < 2147483648) : ss_ai (pk_C n g rc ti tb vt ri cd sx rl wi wv gi gs gw nd ns nw il ai yv yr yi ys yw yt yh yf yo yk fr fg pl pc pg) (some 98) 20 (nI i) = some (pv yt i) := (pb_ai pk_c98 hi).trans (pv_get hl)
theorem pk_u98 {i : Nat} (hl : i < yt.length) (hi : i < 2147483648) (w : Int32) : ss_ui (pk_C n g rc ti tb vt ri cd sx rl wi wv gi gs gw nd ns nw il ai yv yr yi ys yw yt yh yf yo yk fr fg pl pc pg) (some 98) 20 (nI i) w = some (pk_C n g rc ti tb vt ri cd sx rl wi wv gi gs gw nd ns nw il ai yv yr yi ys yw (yt.set i w) yh yf yo yk fr fg pl pc pg) := by
  rw [pb_ui pk_c98 hi hl w]
  exact congrArg some (pk_hs2 rfl (by decide))
theorem pk_c99 : (pk_C n g rc ti tb vt ri cd sx rl wi wv gi gs gw nd ns nw il ai yv yr yi ys yw yt yh yf yo yk fr fg pl pc pg).2 99 = (20, yh, [], []) := rfl
theorem pk_a99 {i : Nat} (hl : i < yh.length) (hi : i < 2147483648) : ss_ai (pk_C n g rc ti tb vt ri cd sx rl wi wv gi gs gw nd ns nw il ai yv yr yi ys yw yt yh yf yo yk fr fg pl pc pg) (some 99) 20 (nI i) = some (pv yh i) := (pb_ai pk_c99 hi).trans (pv_get hl)
theorem pk_u99 {i : Nat} (hl : i < yh.length) (hi : i < 2147483648) (w : Int32) : ss_ui (pk_C n g rc ti tb vt ri cd sx rl wi wv gi gs gw nd ns nw il ai yv yr yi ys yw yt yh yf yo yk fr fg pl pc pg) (some 99) 20 (nI i) w = some (pk_C n g rc ti tb vt ri cd sx rl wi wv gi gs gw nd ns nw il ai yv yr yi ys yw yt (yh.set i w) yf yo yk fr fg pl pc pg) := by
  rw [pb_ui pk_c99 hi hl w]
  exact congrArg some (pk_hs2 rfl (by decide))
theorem pk_c100 : (pk_C n g rc ti tb vt ri cd sx rl wi wv gi gs gw nd ns nw il ai yv yr yi ys yw yt yh yf yo yk fr fg pl pc pg).2 100 = (20, yf, [], []) := rfl
theorem pk_a100 {i : Nat} (hl : i < yf.length) (hi : i < 2147483648) : ss_ai (pk_C n g rc ti tb vt ri cd sx rl wi wv gi gs gw nd ns nw il ai yv yr yi ys yw yt yh yf yo yk fr fg pl pc pg) (some 100) 20 (nI i) = some (pv yf i) := (pb_ai pk_c100 hi).trans (pv_get hl)
theorem pk_u100 {i : Nat} (hl : i < yf.length) (hi : i < 2147483648) (w : Int32) : ss_ui (pk_C n g rc ti tb vt ri cd sx rl wi wv gi gs gw nd ns nw il ai yv yr yi ys yw yt yh yf yo yk fr fg pl pc pg) (some 100) 20 (nI i) w = some (pk_C n g rc ti tb vt ri cd sx rl wi wv gi gs gw nd ns nw il ai yv yr yi ys yw yt yh (yf.set i w) yo yk fr fg pl pc pg) := by
  rw [pb_ui pk_c100 hi hl w]
  exact congrArg some (pk_hs2 rfl (by decide))
theorem pk_c101 : (pk_C n g rc ti tb vt ri cd sx rl wi wv gi gs gw nd ns nw il ai yv yr yi ys yw yt yh yf yo yk fr fg pl pc pg).2 101 = (23, [], yo, []) := rfl
theorem pk_a101 {i : Nat} (hl : i < yo.length) (hi : i < 2147483648) : ss_al (pk_C n g rc ti tb vt ri cd sx rl wi wv gi gs gw nd ns nw il ai yv yr yi ys yw yt yh yf yo yk fr fg pl pc pg) (some 101) 23 (nI i) = some (pvl yo i) := (pb_al pk_c101 hi).trans (pvl_get hl)
theorem pk_u101 {i : Nat} (hl : i < yo.length) (hi : i < 2147483648) (w : Int64) : ss_ul (pk_C n g rc ti tb vt ri cd sx rl wi wv gi gs gw nd ns nw il ai yv yr yi ys yw yt yh yf yo yk fr fg pl pc pg) (some 101) 23 (nI i) w = some (pk_C n g rc ti tb vt ri cd sx rl wi wv gi gs gw nd ns nw il ai yv yr yi ys yw yt yh yf (yo.set i w) yk fr fg pl pc pg) := by
  rw [pb_ul pk_c101 hi hl w]
  exact congrArg some (pk_hs2 rfl (by decide))
theorem pk_c102 : (pk_C n g rc ti tb vt ri cd sx rl wi wv gi gs gw nd ns nw il ai yv yr yi ys yw yt yh yf yo yk fr fg pl pc pg).2 102 = (23, [], yk, []) := rfl
theorem pk_a102 {i : Nat} (hl : i < yk.length) (hi : i < 2147483648) : ss_al (pk_C n g rc ti tb vt ri cd sx rl wi wv gi gs gw nd ns nw il ai yv yr yi ys yw yt yh yf yo yk fr fg pl pc pg) (some 102) 23 (nI i) = some (pvl yk i) := (pb_al pk_c102 hi).trans (pvl_get hl)
theorem pk_u102 {i : Nat} (hl : i < yk.length) (hi : i < 2147483648) (w : Int64) : ss_ul (pk_C n g rc ti tb vt ri cd sx rl wi wv gi gs gw nd ns nw il ai yv yr yi ys yw yt yh yf yo yk fr fg pl pc pg) (some 102) 23 (nI i) w = some (pk_C n g rc ti tb vt ri cd sx rl wi wv gi gs gw nd ns nw il ai yv yr yi ys yw yt yh yf yo (yk.set i w) fr fg pl pc pg) := by
  rw [pb_ul pk_c102 hi hl w]
  exact congrArg some (pk_hs2 rfl (by decide))
theorem pk_c103 : (pk_C n g rc ti tb vt ri cd sx rl wi wv gi gs gw nd ns nw il ai yv yr yi ys yw yt yh yf yo yk fr fg pl pc pg).2 103 = (9, [], [], [some 16, some 15, some 94, some 104, some 105]) := rfl
theorem pk_is103 : ss_is (pk_C n g rc ti tb vt ri cd sx rl wi wv gi gs gw nd ns nw il ai yv yr yi ys yw yt yh yf yo yk fr fg pl pc pg) (some 103) 9 = true := Eq.trans rfl rfl
theorem pk_r103_0 : ss_gr (pk_C n g rc ti tb vt ri cd sx rl wi wv gi gs gw nd ns nw il ai yv yr yi ys yw yt yh yf yo yk fr fg pl pc pg) (some 103) 9 0 = some (some 16) := Eq.trans rfl rfl
theorem pk_r103_1 : ss_gr (pk_C n g rc ti tb vt ri cd sx rl wi wv gi gs gw nd ns nw il ai yv yr yi ys yw yt yh yf yo yk fr fg pl pc pg) (some 103) 9 1 = some (some 15) := Eq.trans rfl rfl
theorem pk_r103_2 : ss_gr (pk_C n g rc ti tb vt ri cd sx rl wi wv gi gs gw nd ns nw il ai yv yr yi ys yw yt yh yf yo yk fr fg pl pc pg) (some 103) 9 2 = some (some 94) := Eq.trans rfl rfl
theorem pk_r103_3 : ss_gr (pk_C n g rc ti tb vt ri cd sx rl wi wv gi gs gw nd ns nw il ai yv yr yi ys yw yt yh yf yo yk fr fg pl pc pg) (some 103) 9 3 = some (some 104) := Eq.trans rfl rfl
theorem pk_r103_4 : ss_gr (pk_C n g rc ti tb vt ri cd sx rl wi wv gi gs gw nd ns nw il ai yv yr yi ys yw yt yh yf yo yk fr fg pl pc pg) (some 103) 9 4 = some (some 105) := Eq.trans rfl rfl
theorem pk_c104 : (pk_C n g rc ti tb vt ri cd sx rl wi wv gi gs gw nd ns nw il ai yv yr yi ys yw yt yh yf yo yk fr fg pl pc pg).2 104 = (20, fr, [], []) := rfl
theorem pk_a104 {i : Nat} (hl : i < fr.length) (hi : i < 2147483648) : ss_ai (pk_C n g rc ti tb vt ri cd sx rl wi wv gi gs gw nd ns nw il ai yv yr yi ys yw yt yh yf yo yk fr fg pl pc pg) (some 104) 20 (nI i) = some (pv fr i) := (pb_ai pk_c104 hi).trans (pv_get hl)
theorem pk_u104 {i : Nat} (hl : i < fr.length) (hi : i < 2147483648) (w : Int32) : ss_ui (pk_C n g rc ti tb vt ri cd sx rl wi wv gi gs gw nd ns nw il ai yv yr yi ys yw yt yh yf yo yk fr fg pl pc pg) (some 104) 20 (nI i) w = some (pk_C n g rc ti tb vt ri cd sx rl wi wv gi gs gw nd ns nw il ai yv yr yi ys yw yt yh yf yo yk (fr.set i w) fg pl pc pg) := by
  rw [pb_ui pk_c104 hi hl w]
  exact congrArg some (pk_hs2 rfl (by decide))
theorem pk_c105 : (pk_C n g rc ti tb vt ri cd sx rl wi wv gi gs gw nd ns nw il ai yv yr yi ys yw yt yh yf yo yk fr fg pl pc pg).2 105 = (22, fg, [], []) := rfl
theorem pk_a105 {i : Nat} (hl : i < fg.length) (hi : i < 2147483648) : ss_ai (pk_C n g rc ti tb vt ri cd sx rl wi wv gi gs gw nd ns nw il ai yv yr yi ys yw yt yh yf yo yk fr fg pl pc pg) (some 105) 22 (nI i) = some (pv fg i) := (pb_ai pk_c105 hi).trans (pv_get hl)
theorem pk_u105 {i : Nat} (hl : i < fg.length) (hi : i < 2147483648) (w : Int32) : ss_ui (pk_C n g rc ti tb vt ri cd sx rl wi wv gi gs gw nd ns nw il ai yv yr yi ys yw yt yh yf yo yk fr fg pl pc pg) (some 105) 22 (nI i) w = some (pk_C n g rc ti tb vt ri cd sx rl wi wv gi gs gw nd ns nw il ai yv yr yi ys yw yt yh yf yo yk fr (fg.set i w) pl pc pg) := by
  rw [pb_ui pk_c105 hi hl w]
  exact congrArg some (pk_hs2 rfl (by decide))
theorem pk_c106 : (pk_C n g rc ti tb vt ri cd sx rl wi wv gi gs gw nd ns nw il ai yv yr yi ys yw yt yh yf yo yk fr fg pl pc pg).2 106 = (10, [], [], [some 16, some 94, some 107, some 108, some 109]) := rfl
theorem pk_is106 : ss_is (pk_C n g rc ti tb vt ri cd sx rl wi wv gi gs gw nd ns nw il ai yv yr yi ys yw yt yh yf yo yk fr fg pl pc pg) (some 106) 10 = true := Eq.trans rfl rfl
theorem pk_r106_0 : ss_gr (pk_C n g rc ti tb vt ri cd sx rl wi wv gi gs gw nd ns nw il ai yv yr yi ys yw yt yh yf yo yk fr fg pl pc pg) (some 106) 10 0 = some (some 16) := Eq.trans rfl rfl
theorem pk_r106_1 : ss_gr (pk_C n g rc ti tb vt ri cd sx rl wi wv gi gs gw nd ns nw il ai yv yr yi ys yw yt yh yf yo yk fr fg pl pc pg) (some 106) 10 1 = some (some 94) := Eq.trans rfl rfl
theorem pk_r106_2 : ss_gr (pk_C n g rc ti tb vt ri cd sx rl wi wv gi gs gw nd ns nw il ai yv yr yi ys yw yt yh yf yo yk fr fg pl pc pg) (some 106) 10 2 = some (some 107) := Eq.trans rfl rfl
theorem pk_r106_3 : ss_gr (pk_C n g rc ti tb vt ri cd sx rl wi wv gi gs gw nd ns nw il ai yv yr yi ys yw yt yh yf yo yk fr fg pl pc pg) (some 106) 10 3 = some (some 108) := Eq.trans rfl rfl
theorem pk_r106_4 : ss_gr (pk_C n g rc ti tb vt ri cd sx rl wi wv gi gs gw nd ns nw il ai yv yr yi ys yw yt yh yf yo yk fr fg pl pc pg) (some 106) 10 4 = some (some 109) := Eq.trans rfl rfl
theorem pk_c107 : (pk_C n g rc ti tb vt ri cd sx rl wi wv gi gs gw nd ns nw il ai yv yr yi ys yw yt yh yf yo yk fr fg pl pc pg).2 107 = (20, pl, [], []) := rfl
theorem pk_a107 {i : Nat} (hl : i < pl.length) (hi : i < 2147483648) : ss_ai (pk_C n g rc ti tb vt ri cd sx rl wi wv gi gs gw nd ns nw il ai yv yr yi ys yw yt yh yf yo yk fr fg pl pc pg) (some 107) 20 (nI i) = some (pv pl i) := (pb_ai pk_c107 hi).trans (pv_get hl)
theorem pk_u107 {i : Nat} (hl : i < pl.length) (hi : i < 2147483648) (w : Int32) : ss_ui (pk_C n g rc ti tb vt ri cd sx rl wi wv gi gs gw nd ns nw il ai yv yr yi ys yw yt yh yf yo yk fr fg pl pc pg) (some 107) 20 (nI i) w = some (pk_C n g rc ti tb vt ri cd sx rl wi wv gi gs gw nd ns nw il ai yv yr yi ys yw yt yh yf yo yk fr fg (pl.set i w) pc pg) := by
  rw [pb_ui pk_c107 hi hl w]
  exact congrArg some (pk_hs2 rfl (by decide))
theorem pk_c108 : (pk_C n g rc ti tb vt ri cd sx rl wi wv gi gs gw nd ns nw il ai yv yr yi ys yw yt yh yf yo yk fr fg pl pc pg).2 108 = (20, pc, [], []) := rfl
theorem pk_a108 {i : Nat} (hl : i < pc.length) (hi : i < 2147483648) : ss_ai (pk_C n g rc ti tb vt ri cd sx rl wi wv gi gs gw nd ns nw il ai yv yr yi ys yw yt yh yf yo yk fr fg pl pc pg) (some 108) 20 (nI i) = some (pv pc i) := (pb_ai pk_c108 hi).trans (pv_get hl)
theorem pk_u108 {i : Nat} (hl : i < pc.length) (hi : i < 2147483648) (w : Int32) : ss_ui (pk_C n g rc ti tb vt ri cd sx rl wi wv gi gs gw nd ns nw il ai yv yr yi ys yw yt yh yf yo yk fr fg pl pc pg) (some 108) 20 (nI i) w = some (pk_C n g rc ti tb vt ri cd sx rl wi wv gi gs gw nd ns nw il ai yv yr yi ys yw yt yh yf yo yk fr fg pl (pc.set i w) pg) := by
  rw [pb_ui pk_c108 hi hl w]
  exact congrArg some (pk_hs2 rfl (by decide))
theorem pk_c109 : (pk_C n g rc ti tb vt ri cd sx rl wi wv gi gs gw nd ns nw il ai yv yr yi ys yw yt yh yf yo yk fr fg pl pc pg).2 109 = (20, pg, [], []) := rfl
theorem pk_a109 {i : Nat} (hl : i < pg.length) (hi : i < 2147483648) : ss_ai (pk_C n g rc ti tb vt ri cd sx rl wi wv gi gs gw nd ns nw il ai yv yr yi ys yw yt yh yf yo yk fr fg pl pc pg) (some 109) 20 (nI i) = some (pv pg i) := (pb_ai pk_c109 hi).trans (pv_get hl)
theorem pk_u109 {i : Nat} (hl : i < pg.length) (hi : i < 2147483648) (w : Int32) : ss_ui (pk_C n g rc ti tb vt ri cd sx rl wi wv gi gs gw nd ns nw il ai yv yr yi ys yw yt yh yf yo yk fr fg pl pc pg) (some 109) 20 (nI i) w = some (pk_C n g rc ti tb vt ri cd sx rl wi wv gi gs gw nd ns nw il ai yv yr yi ys yw yt yh yf yo yk fr fg pl pc (pg.set i w)) := by
  rw [pb_ui pk_c109 hi hl w]
  exact congrArg some (pk_hs2 rfl (by decide))
def pk_fr (a : Nat) : Prop := (4 ≤ a ∧ a < 12) ∨ (17 ≤ a ∧ a < 25) ∨ (34 ≤ a ∧ a < 94) ∨ 110 ≤ a
theorem pk_out {a : Nat} (h : pk_fr a) : (pk_C n g rc ti tb vt ri cd sx rl wi wv gi gs gw nd ns nw il ai yv yr yi ys yw yt yh yf yo yk fr fg pl pc pg).2 a = g a := by
  unfold pk_fr at h
  by_cases h1 : a < 34
  · have h2 : a = 4 ∨ a = 5 ∨ a = 6 ∨ a = 7 ∨ a = 8 ∨ a = 9 ∨ a = 10 ∨ a = 11 ∨ a = 17 ∨ a = 18 ∨ a = 19 ∨ a = 20 ∨ a = 21 ∨ a = 22 ∨ a = 23 ∨ a = 24 := by omega
    rcases h2 with h | h | h | h | h | h | h | h | h | h | h | h | h | h | h | h <;> subst h <;> rfl
  · have h2 : ¬ (94 ≤ a ∧ a < 110) := by omega
    show (if a < 34 then _ else _) = _
    rw [if_neg h1, if_neg h2]
theorem pk_hsg {a : Nat} {c : ss_Cl} (h : pk_fr a) : ss_hs (pk_C n g rc ti tb vt ri cd sx rl wi wv gi gs gw nd ns nw il ai yv yr yi ys yw yt yh yf yo yk fr fg pl pc pg) a c = (pk_C n (fun k => if k = a then c else g k) rc ti tb vt ri cd sx rl wi wv gi gs gw nd ns nw il ai yv yr yi ys yw yt yh yf yo yk fr fg pl pc pg) := by
  unfold pk_fr at h
  refine Prod.ext rfl (funext fun k => ?_)
  show (if k = a then c else (pk_C n g rc ti tb vt ri cd sx rl wi wv gi gs gw nd ns nw il ai yv yr yi ys yw yt yh yf yo yk fr fg pl pc pg).2 k) = _
  by_cases e : k = a
  · subst e
    rw [if_pos rfl, pk_out h, if_pos rfl]
  · rw [if_neg e]
    by_cases q : pk_fr k
    · rw [pk_out q, pk_out q, if_neg e]
    · unfold pk_fr at q
      by_cases h1 : k < 34
      · have h2 : k = 0 ∨ k = 1 ∨ k = 2 ∨ k = 3 ∨ k = 12 ∨ k = 13 ∨ k = 14 ∨ k = 15 ∨ k = 16 ∨ k = 25 ∨ k = 26 ∨ k = 27 ∨ k = 28 ∨ k = 29 ∨ k = 30 ∨ k = 31 ∨ k = 32 ∨ k = 33 := by omega
        rcases h2 with h | h | h | h | h | h | h | h | h | h | h | h | h | h | h | h | h | h <;> subst h <;> rfl
      · have h2 : k = 94 ∨ k = 95 ∨ k = 96 ∨ k = 97 ∨ k = 98 ∨ k = 99 ∨ k = 100 ∨ k = 101 ∨ k = 102 ∨ k = 103 ∨ k = 104 ∨ k = 105 ∨ k = 106 ∨ k = 107 ∨ k = 108 ∨ k = 109 := by omega
        rcases h2 with h | h | h | h | h | h | h | h | h | h | h | h | h | h | h | h <;> subst h <;> rfl
end PK
