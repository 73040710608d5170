/-! ===== the class by its fields and arrays, one row each (printed by gen50.py) ===== -/
theorem pb_bs {α β : Type} (a : α) (f : α → Option β) : (some a).bind f = f a := Eq.trans rfl rfl
theorem pb_b2n {α β γ : Type} (a : α) (b : β) (f : α → β → Option γ) : ss_b2 (some (a, b)) f = f a b := Eq.trans rfl rfl
theorem pb_l2 (n : Nat) : (OfNat.ofNat n : Int32) = nI n := Eq.trans rfl rfl
def pk_H (n : Nat) (g : Nat → ss_Cl) (L1 L2 : List ss_Cl) : ss_Hp := (n, fun k => if k < 42 then L1.getD k (g k) else if 102 ≤ k ∧ k < 118 then L2.getD (k - 102) (g k) else g k)
theorem pk_hs1 {n : Nat} {g : Nat → ss_Cl} {L1 L2 : List ss_Cl} {a : Nat} {c : ss_Cl} (hl : L1.length = 42) (ha : a < 42) : ss_hs (pk_H n g L1 L2) a c = pk_H n g (L1.set a c) L2 := by
  refine Prod.ext rfl (funext fun k => ?_)
  simp only [ss_hs, pk_H]
  by_cases e : k = a
  · subst e
    rw [if_pos rfl, if_pos ha]
    simp [hl, ha]
  · rw [if_neg e]
    simp only [List.getD_eq_getElem?_getD, List.getElem?_set_ne (fun z => e z.symm)]
theorem pk_hs2 {n : Nat} {g : Nat → ss_Cl} {L1 L2 : List ss_Cl} {a : Nat} {c : ss_Cl} (hl : L2.length = 16) (ha : 102 ≤ a ∧ a < 118) : ss_hs (pk_H n g L1 L2) a c = pk_H n g L1 (L2.set (a - 102) c) := by
  refine Prod.ext rfl (funext fun k => ?_)
  simp only [ss_hs, pk_H]
  by_cases e : k = a
  · subst e
    have h1 : ¬ k < 42 := by omega
    have h2 : k - 102 < 16 := by omega
    rw [if_pos rfl, if_neg h1, if_pos ha]
    simp [hl, h2]
  · rw [if_neg e]
    by_cases h1 : k < 42
    · rw [if_pos h1, if_pos h1]
    · rw [if_neg h1, if_neg h1]
      by_cases h2 : 102 ≤ k ∧ k < 118
      · have h3 : ¬ a - 102 = k - 102 := by omega
        rw [if_pos h2, if_pos h2]
        simp only [List.getD_eq_getElem?_getD, List.getElem?_set_ne h3]
      · rw [if_neg h2, if_neg h2]
def pk_C (n : Nat) (g : Nat → ss_Cl) (rc : Int32) (ti : List Int32) (tb : List Int32) (vt : Option Nat) (ri : List Int32) (cd : List Int32) (sx : List Int32) (rl : List (Option Nat)) (wi : List Int32) (wv : Option Nat) (gi : List Int32) (gs : List Int32) (gw : List Int32) (nd : List Int32) (ns : List Int32) (nw : List Int32) (il : List (Option Nat)) (ai : List Int32) (yv : Option Nat) (yr : Option Nat) (yi : List Int32) (ys : List Int32) (yw : List Int32) (yt : List Int32) (yh : List Int32) (yf : List Int32) (yo : List Int64) (yk : List Int64) (fr : List Int32) (fg : List Int32) (pl : List Int32) (pc : List Int32) (pg : List Int32) : ss_Hp := pk_H n g [(11, [rc], [], [some 1, some 3, some 20, some 23, some 24, some 39, some 40, some 102, some 111, some 114]), (2, ti, [], [some 2]), (20, tb, [], []), (6, [], [], [some 1, some 4, vt]), g 4, g 5, g 6, g 7, g 8, g 9, g 10, g 11, g 12, g 13, g 14, g 15, g 16, g 17, g 18, g 19, (4, ri, [], [some 1, some 21, some 22]), (20, cd, [], []), (20, sx, [], []), (25, [], [], rl), (8, wi, [], [wv, some 33, some 36, some 37, some 38]), g 25, g 26, g 27, g 28, g 29, g 30, g 31, g 32, (0, gi, [], [some 34, some 35]), (20, gs, [], []), (20, gw, [], []), (20, nd, [], []), (20, ns, [], []), (20, nw, [], []), (26, [], [], il), (3, ai, [], [some 41]), (24, [], [], [some 42, some 45, some 48, some 51, some 54, some 57, some 60, some 63, some 66, some 69, some 72, some 75, some 78, some 81, some 84, some 87, some 90, some 93, some 96, some 99])] [(7, [], [], [some 103, some 106, some 107, some 108, some 109, some 110, yv, yr]), (0, yi, [], [some 104, some 105]), (20, ys, [], []), (20, yw, [], []), (20, yt, [], []), (20, yh, [], []), (20, yf, [], []), (23, [], yo, []), (23, [], yk, []), (9, [], [], [some 24, some 23, some 102, some 112, some 113]), (20, fr, [], []), (22, fg, [], []), (10, [], [], [some 24, some 102, some 115, some 116, some 117]), (20, pl, [], []), (20, pc, [], []), (20, pg, [], [])]
section PK
variable {n : Nat} {g : Nat → ss_Cl} {rc : Int32} {ti : List Int32} {tb : List Int32} {vt : Option Nat} {ri : List Int32} {cd : List Int32} {sx : List Int32} {rl : List (Option Nat)} {wi : List Int32} {wv : Option Nat} {gi : List Int32} {gs : List Int32} {gw : List Int32} {nd : List Int32} {ns : List Int32} {nw : List Int32} {il : List (Option Nat)} {ai : List Int32} {yv : Option Nat} {yr : Option Nat} {yi : List Int32} {ys : List Int32} {yw : List Int32} {yt : List Int32} {yh : List Int32} {yf : List Int32} {yo : List Int64} {yk : List Int64} {fr : List Int32} {fg : List Int32} {pl : List Int32} {pc : List Int32} {pg : List Int32} {N : Nat}
theorem pk_c0 : (pk_C n g rc ti tb vt ri cd sx rl wi wv gi gs gw nd ns nw il ai yv yr yi ys yw yt yh yf yo yk fr fg pl pc pg).2 0 = (11, [rc], [], [some 1, some 3, some 20, some 23, some 24, some 39, some 40, some 102, some 111, some 114]) := rfl
theorem pk_is0 : ss_is (pk_C n g rc ti tb vt ri cd sx rl wi wv gi gs gw nd ns nw il ai yv yr yi ys yw yt yh yf yo yk fr fg pl pc pg) (some 0) 11 = true := Eq.trans rfl rfl
theorem pk_r0_0 : ss_gr (pk_C n g rc ti tb vt ri cd sx rl wi wv gi gs gw nd ns nw il ai yv yr yi ys yw yt yh yf yo yk fr fg pl pc pg) (some 0) 11 0 = some (some 1) := Eq.trans rfl rfl
theorem pk_r0_1 : ss_gr (pk_C n g rc ti tb vt ri cd sx rl wi wv gi gs gw nd ns nw il ai yv yr yi ys yw yt yh yf yo yk fr fg pl pc pg) (some 0) 11 1 = some (some 3) := Eq.trans rfl rfl
theorem pk_r0_2 : ss_gr (pk_C n g rc ti tb vt ri cd sx rl wi wv gi gs gw nd ns nw il ai yv yr yi ys yw yt yh yf yo yk fr fg pl pc pg) (some 0) 11 2 = some (some 20) := Eq.trans rfl rfl
theorem pk_r0_3 : ss_gr (pk_C n g rc ti tb vt ri cd sx rl wi wv gi gs gw nd ns nw il ai yv yr yi ys yw yt yh yf yo yk fr fg pl pc pg) (some 0) 11 3 = some (some 23) := Eq.trans rfl rfl
theorem pk_r0_4 : ss_gr (pk_C n g rc ti tb vt ri cd sx rl wi wv gi gs gw nd ns nw il ai yv yr yi ys yw yt yh yf yo yk fr fg pl pc pg) (some 0) 11 4 = some (some 24) := Eq.trans rfl rfl
theorem pk_r0_5 : ss_gr (pk_C n g rc ti tb vt ri cd sx rl wi wv gi gs gw nd ns nw il ai yv yr yi ys yw yt yh yf yo yk fr fg pl pc pg) (some 0) 11 5 = some (some 39) := Eq.trans rfl rfl
theorem pk_r0_6 : ss_gr (pk_C n g rc ti tb vt ri cd sx rl wi wv gi gs gw nd ns nw il ai yv yr yi ys yw yt yh yf yo yk fr fg pl pc pg) (some 0) 11 6 = some (some 40) := Eq.trans rfl rfl
theorem pk_r0_7 : ss_gr (pk_C n g rc ti tb vt ri cd sx rl wi wv gi gs gw nd ns nw il ai yv yr yi ys yw yt yh yf yo yk fr fg pl pc pg) (some 0) 11 7 = some (some 102) := Eq.trans rfl rfl
theorem pk_r0_8 : ss_gr (pk_C n g rc ti tb vt ri cd sx rl wi wv gi gs gw nd ns nw il ai yv yr yi ys yw yt yh yf yo yk fr fg pl pc pg) (some 0) 11 8 = some (some 111) := Eq.trans rfl rfl
theorem pk_r0_9 : ss_gr (pk_C n g rc ti tb vt ri cd sx rl wi wv gi gs gw nd ns nw il ai yv yr yi ys yw yt yh yf yo yk fr fg pl pc pg) (some 0) 11 9 = some (some 114) := Eq.trans rfl rfl
theorem pk_i0 : ss_gi (pk_C n g rc ti tb vt ri cd sx rl wi wv gi gs gw nd ns nw il ai yv yr yi ys yw yt yh yf yo yk fr fg pl pc pg) (some 0) 11 0 = some rc := Eq.trans rfl rfl
theorem pk_q0 (w : Int32) : ss_pi (pk_C n g rc ti tb vt ri cd sx rl wi wv gi gs gw nd ns nw il ai yv yr yi ys yw yt yh yf yo yk fr fg pl pc pg) (some 0) 11 0 w = some (pk_C n g w ti tb vt ri cd sx rl wi wv gi gs gw nd ns nw il ai yv yr yi ys yw yt yh yf yo yk fr fg pl pc pg) := by
  rw [pb_pi pk_c0 (by simp) w]
  exact congrArg some (pk_hs1 rfl (by decide))
theorem pk_c1 : (pk_C n g rc ti tb vt ri cd sx rl wi wv gi gs gw nd ns nw il ai yv yr yi ys yw yt yh yf yo yk fr fg pl pc pg).2 1 = (2, ti, [], [some 2]) := rfl
theorem pk_is1 : ss_is (pk_C n g rc ti tb vt ri cd sx rl wi wv gi gs gw nd ns nw il ai yv yr yi ys yw yt yh yf yo yk fr fg pl pc pg) (some 1) 2 = true := Eq.trans rfl rfl
theorem pk_r1_0 : ss_gr (pk_C n g rc ti tb vt ri cd sx rl wi wv gi gs gw nd ns nw il ai yv yr yi ys yw yt yh yf yo yk fr fg pl pc pg) (some 1) 2 0 = some (some 2) := Eq.trans rfl rfl
theorem pk_i1 {j : Nat} (hj : j < ti.length) : ss_gi (pk_C n g rc ti tb vt ri cd sx rl wi wv gi gs gw nd ns nw il ai yv yr yi ys yw yt yh yf yo yk fr fg pl pc pg) (some 1) 2 j = some (pv ti j) := (pb_gi pk_c1 j).trans (pv_get hj)
theorem pk_q1 {j : Nat} (hj : j < ti.length) (w : Int32) : ss_pi (pk_C n g rc ti tb vt ri cd sx rl wi wv gi gs gw nd ns nw il ai yv yr yi ys yw yt yh yf yo yk fr fg pl pc pg) (some 1) 2 j w = some (pk_C n g rc (ti.set j w) tb vt ri cd sx rl wi wv gi gs gw nd ns nw il ai yv yr yi ys yw yt yh yf yo yk fr fg pl pc pg) := by
  rw [pb_pi pk_c1 hj w]
  exact congrArg some (pk_hs1 rfl (by decide))
theorem pk_c2 : (pk_C n g rc ti tb vt ri cd sx rl wi wv gi gs gw nd ns nw il ai yv yr yi ys yw yt yh yf yo yk fr fg pl pc pg).2 2 = (20, tb, [], []) := rfl
theorem pk_a2 {i : Nat} (hl : i < tb.length) (hi : i < 2147483648) : ss_ai (pk_C n g rc ti tb vt ri cd sx rl wi wv gi gs gw nd ns nw il ai yv yr yi ys yw yt yh yf yo yk fr fg pl pc pg) (some 2) 20 (nI i) = some (pv tb i) := (pb_ai pk_c2 hi).trans (pv_get hl)
theorem pk_u2 {i : Nat} (hl : i < tb.length) (hi : i < 2147483648) (w : Int32) : ss_ui (pk_C n g rc ti tb vt ri cd sx rl wi wv gi gs gw nd ns nw il ai yv yr yi ys yw yt yh yf yo yk fr fg pl pc pg) (some 2) 20 (nI i) w = some (pk_C n g rc ti (tb.set i w) vt ri cd sx rl wi wv gi gs gw nd ns nw il ai yv yr yi ys yw yt yh yf yo yk fr fg pl pc pg) := by
  rw [pb_ui pk_c2 hi hl w]
  exact congrArg some (pk_hs1 rfl (by decide))
theorem pk_c3 : (pk_C n g rc ti tb vt ri cd sx rl wi wv gi gs gw nd ns nw il ai yv yr yi ys yw yt yh yf yo yk fr fg pl pc pg).2 3 = (6, [], [], [some 1, some 4, vt]) := rfl
theorem pk_is3 : ss_is (pk_C n g rc ti tb vt ri cd sx rl wi wv gi gs gw nd ns nw il ai yv yr yi ys yw yt yh yf yo yk fr fg pl pc pg) (some 3) 6 = true := Eq.trans rfl rfl
theorem pk_r3_0 : ss_gr (pk_C n g rc ti tb vt ri cd sx rl wi wv gi gs gw nd ns nw il ai yv yr yi ys yw yt yh yf yo yk fr fg pl pc pg) (some 3) 6 0 = some (some 1) := Eq.trans rfl rfl
theorem pk_r3_1 : ss_gr (pk_C n g rc ti tb vt ri cd sx rl wi wv gi gs gw nd ns nw il ai yv yr yi ys yw yt yh yf yo yk fr fg pl pc pg) (some 3) 6 1 = some (some 4) := Eq.trans rfl rfl
theorem pk_r3_2 : ss_gr (pk_C n g rc ti tb vt ri cd sx rl wi wv gi gs gw nd ns nw il ai yv yr yi ys yw yt yh yf yo yk fr fg pl pc pg) (some 3) 6 2 = some vt := Eq.trans rfl rfl
theorem pk_p3_2 (w : Option Nat) : ss_pr (pk_C n g rc ti tb vt ri cd sx rl wi wv gi gs gw nd ns nw il ai yv yr yi ys yw yt yh yf yo yk fr fg pl pc pg) (some 3) 6 2 w = some (pk_C n g rc ti tb w ri cd sx rl wi wv gi gs gw nd ns nw il ai yv yr yi ys yw yt yh yf yo yk fr fg pl pc pg) := by
  rw [pb_pr pk_c3 (by simp) w]
  exact congrArg some (pk_hs1 rfl (by decide))
theorem pk_c20 : (pk_C n g rc ti tb vt ri cd sx rl wi wv gi gs gw nd ns nw il ai yv yr yi ys yw yt yh yf yo yk fr fg pl pc pg).2 20 = (4, ri, [], [some 1, some 21, some 22]) := rfl
theorem pk_is20 : ss_is (pk_C n g rc ti tb vt ri cd sx rl wi wv gi gs gw nd ns nw il ai yv yr yi ys yw yt yh yf yo yk fr fg pl pc pg) (some 20) 4 = true := Eq.trans rfl rfl
theorem pk_r20_0 : ss_gr (pk_C n g rc ti tb vt ri cd sx rl wi wv gi gs gw nd ns nw il ai yv yr yi ys yw yt yh yf yo yk fr fg pl pc pg) (some 20) 4 0 = some (some 1) := Eq.trans rfl rfl
theorem pk_r20_1 : ss_gr (pk_C n g rc ti tb vt ri cd sx rl wi wv gi gs gw nd ns nw il ai yv yr yi ys yw yt yh yf yo yk fr fg pl pc pg) (some 20) 4 1 = some (some 21) := Eq.trans rfl rfl
theorem pk_r20_2 : ss_gr (pk_C n g rc ti tb vt ri cd sx rl wi wv gi gs gw nd ns nw il ai yv yr yi ys yw yt yh yf yo yk fr fg pl pc pg) (some 20) 4 2 = some (some 22) := Eq.trans rfl rfl
theorem pk_i20 {j : Nat} (hj : j < ri.length) : ss_gi (pk_C n g rc ti tb vt ri cd sx rl wi wv gi gs gw nd ns nw il ai yv yr yi ys yw yt yh yf yo yk fr fg pl pc pg) (some 20) 4 j = some (pv ri j) := (pb_gi pk_c20 j).trans (pv_get hj)
theorem pk_q20 {j : Nat} (hj : j < ri.length) (w : Int32) : ss_pi (pk_C n g rc ti tb vt ri cd sx rl wi wv gi gs gw nd ns nw il ai yv yr yi ys yw yt yh yf yo yk fr fg pl pc pg) (some 20) 4 j w = some (pk_C n g rc ti tb vt (ri.set j w) cd sx rl wi wv gi gs gw nd ns nw il ai yv yr yi ys yw yt yh yf yo yk fr fg pl pc pg) := by
  rw [pb_pi pk_c20 hj w]
  exact congrArg some (pk_hs1 rfl (by decide))
theorem pk_c21 : (pk_C n g rc ti tb vt ri cd sx rl wi wv gi gs gw nd ns nw il ai yv yr yi ys yw yt yh yf yo yk fr fg pl pc pg).2 21 = (20, cd, [], []) := rfl
theorem pk_a21 {i : Nat} (hl : i < cd.length) (hi : i < 2147483648) : ss_ai (pk_C n g rc ti tb vt ri cd sx rl wi wv gi gs gw nd ns nw il ai yv yr yi ys yw yt yh yf yo yk fr fg pl pc pg) (some 21) 20 (nI i) = some (pv cd i) := (pb_ai pk_c21 hi).trans (pv_get hl)
theorem pk_u21 {i : Nat} (hl : i < cd.length) (hi : i < 2147483648) (w : Int32) : ss_ui (pk_C n g rc ti tb vt ri cd sx rl wi wv gi gs gw nd ns nw il ai yv yr yi ys yw yt yh yf yo yk fr fg pl pc pg) (some 21) 20 (nI i) w = some (pk_C n g rc ti tb vt ri (cd.set i w) sx rl wi wv gi gs gw nd ns nw il ai yv yr yi ys yw yt yh yf yo yk fr fg pl pc pg) := by
  rw [pb_ui pk_c21 hi hl w]
  exact congrArg some (pk_hs1 rfl (by decide))
theorem pk_c22 : (pk_C n g rc ti tb vt ri cd sx rl wi wv gi gs gw nd ns nw il ai yv yr yi ys yw yt yh yf yo yk fr fg pl pc pg).2 22 = (20, sx, [], []) := rfl
theorem pk_a22 {i : Nat} (hl : i < sx.length) (hi : i < 2147483648) : ss_ai (pk_C n g rc ti tb vt ri cd sx rl wi wv gi gs gw nd ns nw il ai yv yr yi ys yw yt yh yf yo yk fr fg pl pc pg) (some 22) 20 (nI i) = some (pv sx i) := (pb_ai pk_c22 hi).trans (pv_get hl)
theorem pk_u22 {i : Nat} (hl : i < sx.length) (hi : i < 2147483648) (w : Int32) : ss_ui (pk_C n g rc ti tb vt ri cd sx rl wi wv gi gs gw nd ns nw il ai yv yr yi ys yw yt yh yf yo yk fr fg pl pc pg) (some 22) 20 (nI i) w = some (pk_C n g rc ti tb vt ri cd (sx.set i w) rl wi wv gi gs gw nd ns nw il ai yv yr yi ys yw yt yh yf yo yk fr fg pl pc pg) := by
  rw [pb_ui pk_c22 hi hl w]
  exact congrArg some (pk_hs1 rfl (by decide))
theorem pk_c23 : (pk_C n g rc ti tb vt ri cd sx rl wi wv gi gs gw nd ns nw il ai yv yr yi ys yw yt yh yf yo yk fr fg pl pc pg).2 23 = (25, [], [], rl) := rfl
theorem pk_c24 : (pk_C n g rc ti tb vt ri cd sx rl wi wv gi gs gw nd ns nw il ai yv yr yi ys yw yt yh yf yo yk fr fg pl pc pg).2 24 = (8, wi, [], [wv, some 33, some 36, some 37, some 38]) := rfl
theorem pk_is24 : ss_is (pk_C n g rc ti tb vt ri cd sx rl wi wv gi gs gw nd ns nw il ai yv yr yi ys yw yt yh yf yo yk fr fg pl pc pg) (some 24) 8 = true := Eq.trans rfl rfl
theorem pk_r24_0 : ss_gr (pk_C n g rc ti tb vt ri cd sx rl wi wv gi gs gw nd ns nw il ai yv yr yi ys yw yt yh yf yo yk fr fg pl pc pg) (some 24) 8 0 = some wv := Eq.trans rfl rfl
theorem pk_p24_0 (w : Option Nat) : ss_pr (pk_C n g rc ti tb vt ri cd sx rl wi wv gi gs gw nd ns nw il ai yv yr yi ys yw yt yh yf yo yk fr fg pl pc pg) (some 24) 8 0 w = some (pk_C n g rc ti tb vt ri cd sx rl wi w gi gs gw nd ns nw il ai yv yr yi ys yw yt yh yf yo yk fr fg pl pc pg) := by
  rw [pb_pr pk_c24 (by simp) w]
  exact congrArg some (pk_hs1 rfl (by decide))
theorem pk_r24_1 : ss_gr (pk_C n g rc ti tb vt ri cd sx rl wi wv gi gs gw nd ns nw il ai yv yr yi ys yw yt yh yf yo yk fr fg pl pc pg) (some 24) 8 1 = some (some 33) := Eq.trans rfl rfl
theorem pk_r24_2 : ss_gr (pk_C n g rc ti tb vt ri cd sx rl wi wv gi gs gw nd ns nw il ai yv yr yi ys yw yt yh yf yo yk fr fg pl pc pg) (some 24) 8 2 = some (some 36) := Eq.trans rfl rfl
theorem pk_r24_3 : ss_gr (pk_C n g rc ti tb vt ri cd sx rl wi wv gi gs gw nd ns nw il ai yv yr yi ys yw yt yh yf yo yk fr fg pl pc pg) (some 24) 8 3 = some (some 37) := Eq.trans rfl rfl
theorem pk_r24_4 : ss_gr (pk_C n g rc ti tb vt ri cd sx rl wi wv gi gs gw nd ns nw il ai yv yr yi ys yw yt yh yf yo yk fr fg pl pc pg) (some 24) 8 4 = some (some 38) := Eq.trans rfl rfl
theorem pk_i24 {j : Nat} (hj : j < wi.length) : ss_gi (pk_C n g rc ti tb vt ri cd sx rl wi wv gi gs gw nd ns nw il ai yv yr yi ys yw yt yh yf yo yk fr fg pl pc pg) (some 24) 8 j = some (pv wi j) := (pb_gi pk_c24 j).trans (pv_get hj)
theorem pk_q24 {j : Nat} (hj : j < wi.length) (w : Int32) : ss_pi (pk_C n g rc ti tb vt ri cd sx rl wi wv gi gs gw nd ns nw il ai yv yr yi ys yw yt yh yf yo yk fr fg pl pc pg) (some 24) 8 j w = some (pk_C n g rc ti tb vt ri cd sx rl (wi.set j w) wv gi gs gw nd ns nw il ai yv yr yi ys yw yt yh yf yo yk fr fg pl pc pg) := by
  rw [pb_pi pk_c24 hj w]
  exact congrArg some (pk_hs1 rfl (by decide))
theorem pk_c33 : (pk_C n g rc ti tb vt ri cd sx rl wi wv gi gs gw nd ns nw il ai yv yr yi ys yw yt yh yf yo yk fr fg pl pc pg).2 33 = (0, gi, [], [some 34, some 35]) := rfl
theorem pk_is33 : ss_is (pk_C n g rc ti tb vt ri cd sx rl wi wv gi gs gw nd ns nw il ai yv yr yi ys yw yt yh yf yo yk fr fg pl pc pg) (some 33) 0 = true := Eq.trans rfl rfl
theorem pk_r33_0 : ss_gr (pk_C n g rc ti tb vt ri cd sx rl wi wv gi gs gw nd ns nw il ai yv yr yi ys yw yt yh yf yo yk fr fg pl pc pg) (some 33) 0 0 = some (some 34) := Eq.trans rfl rfl
theorem pk_r33_1 : ss_gr (pk_C n g rc ti tb vt ri cd sx rl wi wv gi gs gw nd ns nw il ai yv yr yi ys yw yt yh yf yo yk fr fg pl pc pg) (some 33) 0 1 = some (some 35) := Eq.trans rfl rfl
theorem pk_i33 {j : Nat} (hj : j < gi.length) : ss_gi (pk_C n g rc ti tb vt ri cd sx rl wi wv gi gs gw nd ns nw il ai yv yr yi ys yw yt yh yf yo yk fr fg pl pc pg) (some 33) 0 j = some (pv gi j) := (pb_gi pk_c33 j).trans (pv_get hj)
theorem pk_q33 {j : Nat} (hj : j < gi.length) (w : Int32) : ss_pi (pk_C n g rc ti tb vt ri cd sx rl wi wv gi gs gw nd ns nw il ai yv yr yi ys yw yt yh yf yo yk fr fg pl pc pg) (some 33) 0 j w = some (pk_C n g rc ti tb vt ri cd sx rl wi wv (gi.set j w) gs gw nd ns nw il ai yv yr yi ys yw yt yh yf yo yk fr fg pl pc pg) := by
  rw [pb_pi pk_c33 hj w]
  exact congrArg some (pk_hs1 rfl (by decide))
theorem pk_c34 : (pk_C n g rc ti tb vt ri cd sx rl wi wv gi gs gw nd ns nw il ai yv yr yi ys yw yt yh yf yo yk fr fg pl pc pg).2 34 = (20, gs, [], []) := rfl
theorem pk_a34 {i : Nat} (hl : i < gs.length) (hi : i < 2147483648) : ss_ai (pk_C n g rc ti tb vt ri cd sx rl wi wv gi gs gw nd ns nw il ai yv yr yi ys yw yt yh yf yo yk fr fg pl pc pg) (some 34) 20 (nI i) = some (pv gs i) := (pb_ai pk_c34 hi).trans (pv_get hl)
theorem pk_u34 {i : Nat} (hl : i < gs.length) (hi : i < 2147483648) (w : Int32) : ss_ui (pk_C n g rc ti tb vt ri cd sx rl wi wv gi gs gw nd ns nw il ai yv yr yi ys yw yt yh yf yo yk fr fg pl pc pg) (some 34) 20 (nI i) w = some (pk_C n g rc ti tb vt ri cd sx rl wi wv gi (gs.set i w) gw nd ns nw il ai yv yr yi ys yw yt yh yf yo yk fr fg pl pc pg) := by
  rw [pb_ui pk_c34 hi hl w]
  exact congrArg some (pk_hs1 rfl (by decide))
theorem pk_c35 : (pk_C n g rc ti tb vt ri cd sx rl wi wv gi gs gw nd ns nw il ai yv yr yi ys yw yt yh yf yo yk fr fg pl pc pg).2 35 = (20, gw, [], []) := rfl
theorem pk_a35 {i : Nat} (hl : i < gw.length) (hi : i < 2147483648) : ss_ai (pk_C n g rc ti tb vt ri cd sx rl wi wv gi gs gw nd ns nw il ai yv yr yi ys yw yt yh yf yo yk fr fg pl pc pg) (some 35) 20 (nI i) = some (pv gw i) := (pb_ai pk_c35 hi).trans (pv_get hl)
theorem pk_u35 {i : Nat} (hl : i < gw.length) (hi : i < 2147483648) (w : Int32) : ss_ui (pk_C n g rc ti tb vt ri cd sx rl wi wv gi gs gw nd ns nw il ai yv yr yi ys yw yt yh yf yo yk fr fg pl pc pg) (some 35) 20 (nI i) w = some (pk_C n g rc ti tb vt ri cd sx rl wi wv gi gs (gw.set i w) nd ns nw il ai yv yr yi ys yw yt yh yf yo yk fr fg pl pc pg) := by
  rw [pb_ui pk_c35 hi hl w]
  exact congrArg some (pk_hs1 rfl (by decide))
theorem pk_c36 : (pk_C n g rc ti tb vt ri cd sx rl wi wv gi gs gw nd ns nw il ai yv yr yi ys yw yt yh yf yo yk fr fg pl pc pg).2 36 = (20, nd, [], []) := rfl
theorem pk_a36 {i : Nat} (hl : i < nd.length) (hi : i < 2147483648) : ss_ai (pk_C n g rc ti tb vt ri cd sx rl wi wv gi gs gw nd ns nw il ai yv yr yi ys yw yt yh yf yo yk fr fg pl pc pg) (some 36) 20 (nI i) = some (pv nd i) := (pb_ai pk_c36 hi).trans (pv_get hl)
theorem pk_u36 {i : Nat} (hl : i < nd.length) (hi : i < 2147483648) (w : Int32) : ss_ui (pk_C n g rc ti tb vt ri cd sx rl wi wv gi gs gw nd ns nw il ai yv yr yi ys yw yt yh yf yo yk fr fg pl pc pg) (some 36) 20 (nI i) w = some (pk_C n g rc ti tb vt ri cd sx rl wi wv gi gs gw (nd.set i w) ns nw il ai yv yr yi ys yw yt yh yf yo yk fr fg pl pc pg) := by
  rw [pb_ui pk_c36 hi hl w]
  exact congrArg some (pk_hs1 rfl (by decide))
theorem pk_c37 : (pk_C n g rc ti tb vt ri cd sx rl wi wv gi gs gw nd ns nw il ai yv yr yi ys yw yt yh yf yo yk fr fg pl pc pg).2 37 = (20, ns, [], []) := rfl
theorem pk_a37 {i : Nat} (hl : i < ns.length) (hi : i < 2147483648) : ss_ai (pk_C n g rc ti tb vt ri cd sx rl wi wv gi gs gw nd ns nw il ai yv yr yi ys yw yt yh yf yo yk fr fg pl pc pg) (some 37) 20 (nI i) = some (pv ns i) := (pb_ai pk_c37 hi).trans (pv_get hl)
theorem pk_u37 {i : Nat} (hl : i < ns.length) (hi : i < 2147483648) (w : Int32) : ss_ui (pk_C n g rc ti tb vt ri cd sx rl wi wv gi gs gw nd ns nw il ai yv yr yi ys yw yt yh yf yo yk fr fg pl pc pg) (some 37) 20 (nI i) w = some (pk_C n g rc ti tb vt ri cd sx rl wi wv gi gs gw nd (ns.set i w) nw il ai yv yr yi ys yw yt yh yf yo yk fr fg pl pc pg) := by
  rw [pb_ui pk_c37 hi hl w]
  exact congrArg some (pk_hs1 rfl (by decide))
theorem pk_c38 : (pk_C n g rc ti tb vt ri cd sx rl wi wv gi gs gw nd ns nw il ai yv yr yi ys yw yt yh yf yo yk fr fg pl pc pg).2 38 = (20, nw, [], []) := rfl
theorem pk_a38 {i : Nat} (hl : i < nw.length) (hi : i < 2147483648) : ss_ai (pk_C n g rc ti tb vt ri cd sx rl wi wv gi gs gw nd ns nw il ai yv yr yi ys yw yt yh yf yo yk fr fg pl pc pg) (some 38) 20 (nI i) = some (pv nw i) := (pb_ai pk_c38 hi).trans (pv_get hl)
theorem pk_u38 {i : Nat} (hl : i < nw.length) (hi : i < 2147483648) (w : Int32) : ss_ui (pk_C n g rc ti tb vt ri cd sx rl wi wv gi gs gw nd ns nw il ai yv yr yi ys yw yt yh yf yo yk fr fg pl pc pg) (some 38) 20 (nI i) w = some (pk_C n g rc ti tb vt ri cd sx rl wi wv gi gs gw nd ns (nw.set i w) il ai yv yr yi ys yw yt yh yf yo yk fr fg pl pc pg) := by
  rw [pb_ui pk_c38 hi hl w]
  exact congrArg some (pk_hs1 rfl (by decide))
theorem pk_c39 : (pk_C n g rc ti tb vt ri cd sx rl wi wv gi gs gw nd ns nw il ai yv yr yi ys yw yt yh yf yo yk fr fg pl pc pg).2 39 = (26, [], [], il) := rfl
theorem pk_c40 : (pk_C n g rc ti tb vt ri cd sx rl wi wv gi gs gw nd ns nw il ai yv yr yi ys yw yt yh yf yo yk fr fg pl pc pg).2 40 = (3, ai, [], [some 41]) := rfl
theorem pk_is40 : ss_is (pk_C n g rc ti tb vt ri cd sx rl wi wv gi gs gw nd ns nw il ai yv yr yi ys yw yt yh yf yo yk fr fg pl pc pg) (some 40) 3 = true := Eq.trans rfl rfl
theorem pk_r40_0 : ss_gr (pk_C n g rc ti tb vt ri cd sx rl wi wv gi gs gw nd ns nw il ai yv yr yi ys yw yt yh yf yo yk fr fg pl pc pg) (some 40) 3 0 = some (some 41) := Eq.trans rfl rfl
theorem pk_i40 {j : Nat} (hj : j < ai.length) : ss_gi (pk_C n g rc ti tb vt ri cd sx rl wi wv gi gs gw nd ns nw il ai yv yr yi ys yw yt yh yf yo yk fr fg pl pc pg) (some 40) 3 j = some (pv ai j) := (pb_gi pk_c40 j).trans (pv_get hj)
theorem pk_q40 {j : Nat} (hj : j < ai.length) (w : Int32) : ss_pi (pk_C n g rc ti tb vt ri cd sx rl wi wv gi gs gw nd ns nw il ai yv yr yi ys yw yt yh yf yo yk fr fg pl pc pg) (some 40) 3 j w = some (pk_C n g rc ti tb vt ri cd sx rl wi wv gi gs gw nd ns nw il (ai.set j w) yv yr yi ys yw yt yh yf yo yk fr fg pl pc pg) := by
  rw [pb_pi pk_c40 hj w]
  exact congrArg some (pk_hs1 rfl (by decide))
theorem pk_c41 : (pk_C n g rc ti tb vt ri cd sx rl wi wv gi gs gw nd ns nw il ai yv yr yi ys yw yt yh yf yo yk fr fg pl pc pg).2 41 = (24, [], [], [some 42, some 45, some 48, some 51, some 54, some 57, some 60, some 63, some 66, some 69, some 72, some 75, some 78, some 81, some 84, some 87, some 90, some 93, some 96, some 99]) := rfl
theorem pk_c102 : (pk_C n g rc ti tb vt ri cd sx rl wi wv gi gs gw nd ns nw il ai yv yr yi ys yw yt yh yf yo yk fr fg pl pc pg).2 102 = (7, [], [], [some 103, some 106, some 107, some 108, some 109, some 110, yv, yr]) := rfl
theorem pk_is102 : ss_is (pk_C n g rc ti tb vt ri cd sx rl wi wv gi gs gw nd ns nw il ai yv yr yi ys yw yt yh yf yo yk fr fg pl pc pg) (some 102) 7 = true := Eq.trans rfl rfl
theorem pk_r102_0 : ss_gr (pk_C n g rc ti tb vt ri cd sx rl wi wv gi gs gw nd ns nw il ai yv yr yi ys yw yt yh yf yo yk fr fg pl pc pg) (some 102) 7 0 = some (some 103) := Eq.trans rfl rfl
theorem pk_r102_1 : ss_gr (pk_C n g rc ti tb vt ri cd sx rl wi wv gi gs gw nd ns nw il ai yv yr yi ys yw yt yh yf yo yk fr fg pl pc pg) (some 102) 7 1 = some (some 106) := Eq.trans rfl rfl
theorem pk_r102_2 : ss_gr (pk_C n g rc ti tb vt ri cd sx rl wi wv gi gs gw nd ns nw il ai yv yr yi ys yw yt yh yf yo yk fr fg pl pc pg) (some 102) 7 2 = some (some 107) := Eq.trans rfl rfl
theorem pk_r102_3 : ss_gr (pk_C n g rc ti tb vt ri cd sx rl wi wv gi gs gw nd ns nw il ai yv yr yi ys yw yt yh yf yo yk fr fg pl pc pg) (some 102) 7 3 = some (some 108) := Eq.trans rfl rfl
theorem pk_r102_4 : ss_gr (pk_C n g rc ti tb vt ri cd sx rl wi wv gi gs gw nd ns nw il ai yv yr yi ys yw yt yh yf yo yk fr fg pl pc pg) (some 102) 7 4 = some (some 109) := Eq.trans rfl rfl
theorem pk_r102_5 : ss_gr (pk_C n g rc ti tb vt ri cd sx rl wi wv gi gs gw nd ns nw il ai yv yr yi ys yw yt yh yf yo yk fr fg pl pc pg) (some 102) 7 5 = some (some 110) := Eq.trans rfl rfl
theorem pk_r102_6 : ss_gr (pk_C n g rc ti tb vt ri cd sx rl wi wv gi gs gw nd ns nw il ai yv yr yi ys yw yt yh yf yo yk fr fg pl pc pg) (some 102) 7 6 = some yv := Eq.trans rfl rfl
theorem pk_p102_6 (w : Option Nat) : ss_pr (pk_C n g rc ti tb vt ri cd sx rl wi wv gi gs gw nd ns nw il ai yv yr yi ys yw yt yh yf yo yk fr fg pl pc pg) (some 102) 7 6 w = some (pk_C n g rc ti tb vt ri cd sx rl wi wv gi gs gw nd ns nw il ai w yr yi ys yw yt yh yf yo yk fr fg pl pc pg) := by
  rw [pb_pr pk_c102 (by simp) w]
  exact congrArg some (pk_hs2 rfl (by decide))
theorem pk_r102_7 : ss_gr (pk_C n g rc ti tb vt ri cd sx rl wi wv gi gs gw nd ns nw il ai yv yr yi ys yw yt yh yf yo yk fr fg pl pc pg) (some 102) 7 7 = some yr := Eq.trans rfl rfl
theorem pk_p102_7 (w : Option Nat) : ss_pr (pk_C n g rc ti tb vt ri cd sx rl wi wv gi gs gw nd ns nw il ai yv yr yi ys yw yt yh yf yo yk fr fg pl pc pg) (some 102) 7 7 w = some (pk_C n g rc ti tb vt ri cd sx rl wi wv gi gs gw nd ns nw il ai yv w yi ys yw yt yh yf yo yk fr fg pl pc pg) := by
  rw [pb_pr pk_c102 (by simp) w]
  exact congrArg some (pk_hs2 rfl (by decide))
theorem pk_c103 : (pk_C n g rc ti tb vt ri cd sx rl wi wv gi gs gw nd ns nw il ai yv yr yi ys yw yt yh yf yo yk fr fg pl pc pg).2 103 = (0, yi, [], [some 104, some 105]) := rfl
theorem pk_is103 : ss_is (pk_C n g rc ti tb vt ri cd sx rl wi wv gi gs gw nd ns nw il ai yv yr yi ys yw yt yh yf yo yk fr fg pl pc pg) (some 103) 0 = true := Eq.trans rfl rfl
theorem pk_r103_0 : ss_gr (pk_C n g rc ti tb vt ri cd sx rl wi wv gi gs gw nd ns nw il ai yv yr yi ys yw yt yh yf yo yk fr fg pl pc pg) (some 103) 0 0 = some (some 104) := Eq.trans rfl rfl
theorem pk_r103_1 : ss_gr (pk_C n g rc ti tb vt ri cd sx rl wi wv gi gs gw nd ns nw il ai yv yr yi ys yw yt yh yf yo yk fr fg pl pc pg) (some 103) 0 1 = some (some 105) := Eq.trans rfl rfl
theorem pk_i103 {j : Nat} (hj : j < yi.length) : ss_gi (pk_C n g rc ti tb vt ri cd sx rl wi wv gi gs gw nd ns nw il ai yv yr yi ys yw yt yh yf yo yk fr fg pl pc pg) (some 103) 0 j = some (pv yi j) := (pb_gi pk_c103 j).trans (pv_get hj)
theorem pk_q103 {j : Nat} (hj : j < yi.length) (w : Int32) : ss_pi (pk_C n g rc ti tb vt ri cd sx rl wi wv gi gs gw nd ns nw il ai yv yr yi ys yw yt yh yf yo yk fr fg pl pc pg) (some 103) 0 j w = some (pk_C n g rc ti tb vt ri cd sx rl wi wv gi gs gw nd ns nw il ai yv yr (yi.set j w) ys yw yt yh yf yo yk fr fg pl pc pg) := by
  rw [pb_pi pk_c103 hj w]
  exact congrArg some (pk_hs2 rfl (by decide))
theorem pk_c104 : (pk_C n g rc ti tb vt ri cd sx rl wi wv gi gs gw nd ns nw il ai yv yr yi ys yw yt yh yf yo yk fr fg pl pc pg).2 104 = (20, ys, [], []) := rfl
theorem pk_a104 {i : Nat} (hl : i < ys.length) (hi : i < 2147483648) : ss_ai (pk_C n g rc ti tb vt ri cd sx rl wi wv gi gs gw nd ns nw il ai yv yr yi ys yw yt yh yf yo yk fr fg pl pc pg) (some 104) 20 (nI i) = some (pv ys i) := (pb_ai pk_c104 hi).trans (pv_get hl)
theorem pk_u104 {i : Nat} (hl : i < ys.length) (hi : i < 2147483648) (w : Int32) : ss_ui (pk_C n g rc ti tb vt ri cd sx rl wi wv gi gs gw nd ns nw il ai yv yr yi ys yw yt yh yf yo yk fr fg pl pc pg) (some 104) 20 (nI i) w = some (pk_C n g rc ti tb vt ri cd sx rl wi wv gi gs gw nd ns nw il ai yv yr yi (ys.set i w) yw yt yh yf yo yk fr fg pl pc pg) := by
  rw [pb_ui pk_c104 hi hl w]
  exact congrArg some (pk_hs2 rfl (by decide))
theorem pk_c105 : (pk_C n g rc ti tb vt ri cd sx rl wi wv gi gs gw nd ns nw il ai yv yr yi ys yw yt yh yf yo yk fr fg pl pc pg).2 105 = (20, yw, [], []) := rfl
theorem pk_a105 {i : Nat} (hl : i < yw.length) (hi : i < 2147483648) : ss_ai (pk_C n g rc ti tb vt ri cd sx rl wi wv gi gs gw nd ns nw il ai yv yr yi ys yw yt yh yf yo yk fr fg pl pc pg) (some 105) 20 (nI i) = some (pv yw i) := (pb_ai pk_c105 hi).trans (pv_get hl)
theorem pk_u105 {i : Nat} (hl : i < yw.length) (hi : i < 2147483648) (w : Int32) : ss_ui (pk_C n g rc ti tb vt ri cd sx rl wi wv gi gs gw nd ns nw il ai yv yr yi ys yw yt yh yf yo yk fr fg pl pc pg) (some 105) 20 (nI i) w = some (pk_C n g rc ti tb vt ri cd sx rl wi wv gi gs gw nd ns nw il ai yv yr yi ys (yw.set i w) yt yh yf yo yk fr fg pl pc pg) := by
  rw [pb_ui pk_c105 hi hl w]
  exact congrArg some (pk_hs2 rfl (by decide))
theorem pk_c106 : (pk_C n g rc ti tb vt ri cd sx rl wi wv gi gs gw nd ns nw il ai yv yr yi ys yw yt yh yf yo yk fr fg pl pc pg).2 106 = (20, yt, [], []) := rfl
theorem pk_a106 {i : Nat} (hl : i < yt.length) (hi : i < 2147483648) : ss_ai (pk_C n g rc ti tb vt ri cd sx rl wi wv gi gs gw nd ns nw il ai yv yr yi ys yw yt yh yf yo yk fr fg pl pc pg) (some 106) 20 (nI i) = some (pv yt i) := (pb_ai pk_c106 hi).trans (pv_get hl)
theorem pk_u106 {i : Nat} (hl : i < yt.length) (hi : i < 2147483648) (w : Int32) : ss_ui (pk_C n g rc ti tb vt ri cd sx rl wi wv gi gs gw nd ns nw il ai yv yr yi ys yw yt yh yf yo yk fr fg pl pc pg) (some 106) 20 (nI i) w = some (pk_C n g rc ti tb vt ri cd sx rl wi wv gi gs gw nd ns nw il ai yv yr yi ys yw (yt.set i w) yh yf yo yk fr fg pl pc pg) := by
  rw [pb_ui pk_c106 hi hl w]
  exact congrArg some (pk_hs2 rfl (by decide))
theorem pk_c107 : (pk_C n g rc ti tb vt ri cd sx rl wi wv gi gs gw nd ns nw il ai yv yr yi ys yw yt yh yf yo yk fr fg pl pc pg).2 107 = (20, yh, [], []) := rfl
theorem pk_a107 {i : Nat} (hl : i < yh.length) (hi : i < 2147483648) : ss_ai (pk_C n g rc ti tb vt ri cd sx rl wi wv gi gs gw nd ns nw il ai yv yr yi ys yw yt yh yf yo yk fr fg pl pc pg) (some 107) 20 (nI i) = some (pv yh i) := (pb_ai pk_c107 hi).trans (pv_get hl)
theorem pk_u107 {i : Nat} (hl : i < yh.length) (hi : i < 2147483648) (w : Int32) : ss_ui (pk_C n g rc ti tb vt ri cd sx rl wi wv gi gs gw nd ns nw il ai yv yr yi ys yw yt yh yf yo yk fr fg pl pc pg) (some 107) 20 (nI i) w = some (pk_C n g rc ti tb vt ri cd sx rl wi wv gi gs gw nd ns nw il ai yv yr yi ys yw yt (yh.set i w) yf yo yk fr fg pl pc pg) := by
  rw [pb_ui pk_c107 hi hl w]
  exact congrArg some (pk_hs2 rfl (by decide))
theorem pk_c108 : (pk_C n g rc ti tb vt ri cd sx rl wi wv gi gs gw nd ns nw il ai yv yr yi ys yw yt yh yf yo yk fr fg pl pc pg).2 108 = (20, yf, [], []) := rfl
theorem pk_a108 {i : Nat} (hl : i < yf.length) (hi : i < 2147483648) : ss_ai (pk_C n g rc ti tb vt ri cd sx rl wi wv gi gs gw nd ns nw il ai yv yr yi ys yw yt yh yf yo yk fr fg pl pc pg) (some 108) 20 (nI i) = some (pv yf i) := (pb_ai pk_c108 hi).trans (pv_get hl)
theorem pk_u108 {i : Nat} (hl : i < yf.length) (hi : i < 2147483648) (w : Int32) : ss_ui (pk_C n g rc ti tb vt ri cd sx rl wi wv gi gs gw nd ns nw il ai yv yr yi ys yw yt yh yf yo yk fr fg pl pc pg) (some 108) 20 (nI i) w = some (pk_C n g rc ti tb vt ri cd sx rl wi wv gi gs gw nd ns nw il ai yv yr yi ys yw yt yh (yf.set i w) yo yk fr fg pl pc pg) := by
  rw [pb_ui pk_c108 hi hl w]
  exact congrArg some (pk_hs2 rfl (by decide))
theorem pk_c109 : (pk_C n g rc ti tb vt ri cd sx rl wi wv gi gs gw nd ns nw il ai yv yr yi ys yw yt yh yf yo yk fr fg pl pc pg).2 109 = (23, [], yo, []) := rfl
theorem pk_a109 {i : Nat} (hl : i < yo.length) (hi : i < 2147483648) : ss_al (pk_C n g rc ti tb vt ri cd sx rl wi wv gi gs gw nd ns nw il ai yv yr yi ys yw yt yh yf yo yk fr fg pl pc pg) (some 109) 23 (nI i) = some (pvl yo i) := (pb_al pk_c109 hi).trans (pvl_get hl)
theorem pk_u109 {i : Nat} (hl : i < yo.length) (hi : i < 2147483648) (w : Int64) : ss_ul (pk_C n g rc ti tb vt ri cd sx rl wi wv gi gs gw nd ns nw il ai yv yr yi ys yw yt yh yf yo yk fr fg pl pc pg) (some 109) 23 (nI i) w = some (pk_C n g rc ti tb vt ri cd sx rl wi wv gi gs gw nd ns nw il ai yv yr yi ys yw yt yh yf (yo.set i w) yk fr fg pl pc pg) := by
  rw [pb_ul pk_c109 hi hl w]
  exact congrArg some (pk_hs2 rfl (by decide))
theorem pk_c110 : (pk_C n g rc ti tb vt ri cd sx rl wi wv gi gs gw nd ns nw il ai yv yr yi ys yw yt yh yf yo yk fr fg pl pc pg).2 110 = (23, [], yk, []) := rfl
theorem pk_a110 {i : Nat} (hl : i < yk.length) (hi : i < 2147483648) : ss_al (pk_C n g rc ti tb vt ri cd sx rl wi wv gi gs gw nd ns nw il ai yv yr yi ys yw yt yh yf yo yk fr fg pl pc pg) (some 110) 23 (nI i) = some (pvl yk i) := (pb_al pk_c110 hi).trans (pvl_get hl)
theorem pk_u110 {i : Nat} (hl : i < yk.length) (hi : i < 2147483648) (w : Int64) : ss_ul (pk_C n g rc ti tb vt ri cd sx rl wi wv gi gs gw nd ns nw il ai yv yr yi ys yw yt yh yf yo yk fr fg pl pc pg) (some 110) 23 (nI i) w = some (pk_C n g rc ti tb vt ri cd sx rl wi wv gi gs gw nd ns nw il ai yv yr yi ys yw yt yh yf yo (yk.set i w) fr fg pl pc pg) := by
  rw [pb_ul pk_c110 hi hl w]
  exact congrArg some (pk_hs2 rfl (by decide))
theorem pk_c111 : (pk_C n g rc ti tb vt ri cd sx rl wi wv gi gs gw nd ns nw il ai yv yr yi ys yw yt yh yf yo yk fr fg pl pc pg).2 111 = (9, [], [], [some 24, some 23, some 102, some 112, some 113]) := rfl
theorem pk_is111 : ss_is (pk_C n g rc ti tb vt ri cd sx rl wi wv gi gs gw nd ns nw il ai yv yr yi ys yw yt yh yf yo yk fr fg pl pc pg) (some 111) 9 = true := Eq.trans rfl rfl
theorem pk_r111_0 : ss_gr (pk_C n g rc ti tb vt ri cd sx rl wi wv gi gs gw nd ns nw il ai yv yr yi ys yw yt yh yf yo yk fr fg pl pc pg) (some 111) 9 0 = some (some 24) := Eq.trans rfl rfl
theorem pk_r111_1 : ss_gr (pk_C n g rc ti tb vt ri cd sx rl wi wv gi gs gw nd ns nw il ai yv yr yi ys yw yt yh yf yo yk fr fg pl pc pg) (some 111) 9 1 = some (some 23) := Eq.trans rfl rfl
theorem pk_r111_2 : ss_gr (pk_C n g rc ti tb vt ri cd sx rl wi wv gi gs gw nd ns nw il ai yv yr yi ys yw yt yh yf yo yk fr fg pl pc pg) (some 111) 9 2 = some (some 102) := Eq.trans rfl rfl
theorem pk_r111_3 : ss_gr (pk_C n g rc ti tb vt ri cd sx rl wi wv gi gs gw nd ns nw il ai yv yr yi ys yw yt yh yf yo yk fr fg pl pc pg) (some 111) 9 3 = some (some 112) := Eq.trans rfl rfl
theorem pk_r111_4 : ss_gr (pk_C n g rc ti tb vt ri cd sx rl wi wv gi gs gw nd ns nw il ai yv yr yi ys yw yt yh yf yo yk fr fg pl pc pg) (some 111) 9 4 = some (some 113) := Eq.trans rfl rfl
theorem pk_c112 : (pk_C n g rc ti tb vt ri cd sx rl wi wv gi gs gw nd ns nw il ai yv yr yi ys yw yt yh yf yo yk fr fg pl pc pg).2 112 = (20, fr, [], []) := rfl
theorem pk_a112 {i : Nat} (hl : i < fr.length) (hi : i < 2147483648) : ss_ai (pk_C n g rc ti tb vt ri cd sx rl wi wv gi gs gw nd ns nw il ai yv yr yi ys yw yt yh yf yo yk fr fg pl pc pg) (some 112) 20 (nI i) = some (pv fr i) := (pb_ai pk_c112 hi).trans (pv_get hl)
theorem pk_u112 {i : Nat} (hl : i < fr.length) (hi : i < 2147483648) (w : Int32) : ss_ui (pk_C n g rc ti tb vt ri cd sx rl wi wv gi gs gw nd ns nw il ai yv yr yi ys yw yt yh yf yo yk fr fg pl pc pg) (some 112) 20 (nI i) w = some (pk_C n g rc ti tb vt ri cd sx rl wi wv gi gs gw nd ns nw il ai yv yr yi ys yw yt yh yf yo yk (fr.set i w) fg pl pc pg) := by
  rw [pb_ui pk_c112 hi hl w]
  exact congrArg some (pk_hs2 rfl (by decide))
theorem pk_c113 : (pk_C n g rc ti tb vt ri cd sx rl wi wv gi gs gw nd ns nw il ai yv yr yi ys yw yt yh yf yo yk fr fg pl pc pg).2 113 = (22, fg, [], []) := rfl
theorem pk_a113 {i : Nat} (hl : i < fg.length) (hi : i < 2147483648) : ss_ai (pk_C n g rc ti tb vt ri cd sx rl wi wv gi gs gw nd ns nw il ai yv yr yi ys yw yt yh yf yo yk fr fg pl pc pg) (some 113) 22 (nI i) = some (pv fg i) := (pb_ai pk_c113 hi).trans (pv_get hl)
theorem pk_u113 {i : Nat} (hl : i < fg.length) (hi : i < 2147483648) (w : Int32) : ss_ui (pk_C n g rc ti tb vt ri cd sx rl wi wv gi gs gw nd ns nw il ai yv yr yi ys yw yt yh yf yo yk fr fg pl pc pg) (some 113) 22 (nI i) w = some (pk_C n g rc ti tb vt ri cd sx rl wi wv gi gs gw nd ns nw il ai yv yr yi ys yw yt yh yf yo yk fr (fg.set i w) pl pc pg) := by
  rw [pb_ui pk_c113 hi hl w]
  exact congrArg some (pk_hs2 rfl (by decide))
theorem pk_c114 : (pk_C n g rc ti tb vt ri cd sx rl wi wv gi gs gw nd ns nw il ai yv yr yi ys yw yt yh yf yo yk fr fg pl pc pg).2 114 = (10, [], [], [some 24, some 102, some 115, some 116, some 117]) := rfl
theorem pk_is114 : ss_is (pk_C n g rc ti tb vt ri cd sx rl wi wv gi gs gw nd ns nw il ai yv yr yi ys yw yt yh yf yo yk fr fg pl pc pg) (some 114) 10 = true := Eq.trans rfl rfl
theorem pk_r114_0 : ss_gr (pk_C n g rc ti tb vt ri cd sx rl wi wv gi gs gw nd ns nw il ai yv yr yi ys yw yt yh yf yo yk fr fg pl pc pg) (some 114) 10 0 = some (some 24) := Eq.trans rfl rfl
theorem pk_r114_1 : ss_gr (pk_C n g rc ti tb vt ri cd sx rl wi wv gi gs gw nd ns nw il ai yv yr yi ys yw yt yh yf yo yk fr fg pl pc pg) (some 114) 10 1 = some (some 102) := Eq.trans rfl rfl
theorem pk_r114_2 : ss_gr (pk_C n g rc ti tb vt ri cd sx rl wi wv gi gs gw nd ns nw il ai yv yr yi ys yw yt yh yf yo yk fr fg pl pc pg) (some 114) 10 2 = some (some 115) := Eq.trans rfl rfl
theorem pk_r114_3 : ss_gr (pk_C n g rc ti tb vt ri cd sx rl wi wv gi gs gw nd ns nw il ai yv yr yi ys yw yt yh yf yo yk fr fg pl pc pg) (some 114) 10 3 = some (some 116) := Eq.trans rfl rfl
theorem pk_r114_4 : ss_gr (pk_C n g rc ti tb vt ri cd sx rl wi wv gi gs gw nd ns nw il ai yv yr yi ys yw yt yh yf yo yk fr fg pl pc pg) (some 114) 10 4 = some (some 117) := Eq.trans rfl rfl
theorem pk_c115 : (pk_C n g rc ti tb vt ri cd sx rl wi wv gi gs gw nd ns nw il ai yv yr yi ys yw yt yh yf yo yk fr fg pl pc pg).2 115 = (20, pl, [], []) := rfl
theorem pk_a115 {i : Nat} (hl : i < pl.length) (hi : i < 2147483648) : ss_ai (pk_C n g rc ti tb vt ri cd sx rl wi wv gi gs gw nd ns nw il ai yv yr yi ys yw yt yh yf yo yk fr fg pl pc pg) (some 115) 20 (nI i) = some (pv pl i) := (pb_ai pk_c115 hi).trans (pv_get hl)
theorem pk_u115 {i : Nat} (hl : i < pl.length) (hi : i < 2147483648) (w : Int32) : ss_ui (pk_C n g rc ti tb vt ri cd sx rl wi wv gi gs gw nd ns nw il ai yv yr yi ys yw yt yh yf yo yk fr fg pl pc pg) (some 115) 20 (nI i) w = some (pk_C n g rc ti tb vt ri cd sx rl wi wv gi gs gw nd ns nw il ai yv yr yi ys yw yt yh yf yo yk fr fg (pl.set i w) pc pg) := by
  rw [pb_ui pk_c115 hi hl w]
  exact congrArg some (pk_hs2 rfl (by decide))
theorem pk_c116 : (pk_C n g rc ti tb vt ri cd sx rl wi wv gi gs gw nd ns nw il ai yv yr yi ys yw yt yh yf yo yk fr fg pl pc pg).2 116 = (20, pc, [], []) := rfl
theorem pk_a116 {i : Nat} (hl : i < pc.length) (hi : i < 2147483648) : ss_ai (pk_C n g rc ti tb vt ri cd sx rl wi wv gi gs gw nd ns nw il ai yv yr yi ys yw yt yh yf yo yk fr fg pl pc pg) (some 116) 20 (nI i) = some (pv pc i) := (pb_ai pk_c116 hi).trans (pv_get hl)
theorem pk_u116 {i : Nat} (hl : i < pc.length) (hi : i < 2147483648) (w : Int32) : ss_ui (pk_C n g rc ti tb vt ri cd sx rl wi wv gi gs gw nd ns nw il ai yv yr yi ys yw yt yh yf yo yk fr fg pl pc pg) (some 116) 20 (nI i) w = some (pk_C n g rc ti tb vt ri cd sx rl wi wv gi gs gw nd ns nw il ai yv yr yi ys yw yt yh yf yo yk fr fg pl (pc.set i w) pg) := by
  rw [pb_ui pk_c116 hi hl w]
  exact congrArg some (pk_hs2 rfl (by decide))
theorem pk_c117 : (pk_C n g rc ti tb vt ri cd sx rl wi wv gi gs gw nd ns nw il ai yv yr yi ys yw yt yh yf yo yk fr fg pl pc pg).2 117 = (20, pg, [], []) := rfl
theorem pk_a117 {i : Nat} (hl : i < pg.length) (hi : i < 2147483648) : ss_ai (pk_C n g rc ti tb vt ri cd sx rl wi wv gi gs gw nd ns nw il ai yv yr yi ys yw yt yh yf yo yk fr fg pl pc pg) (some 117) 20 (nI i) = some (pv pg i) := (pb_ai pk_c117 hi).trans (pv_get hl)
theorem pk_u117 {i : Nat} (hl : i < pg.length) (hi : i < 2147483648) (w : Int32) : ss_ui (pk_C n g rc ti tb vt ri cd sx rl wi wv gi gs gw nd ns nw il ai yv yr yi ys yw yt yh yf yo yk fr fg pl pc pg) (some 117) 20 (nI i) w = some (pk_C n g rc ti tb vt ri cd sx rl wi wv gi gs gw nd ns nw il ai yv yr yi ys yw yt yh yf yo yk fr fg pl pc (pg.set i w)) := by
  rw [pb_ui pk_c117 hi hl w]
  exact congrArg some (pk_hs2 rfl (by decide))
def pk_fr (a : Nat) : Prop := (4 ≤ a ∧ a < 20) ∨ (25 ≤ a ∧ a < 33) ∨ (42 ≤ a ∧ a < 102) ∨ 118 ≤ a
theorem pk_out {a : Nat} (h : pk_fr a) : (pk_C n g rc ti tb vt ri cd sx rl wi wv gi gs gw nd ns nw il ai yv yr yi ys yw yt yh yf yo yk fr fg pl pc pg).2 a = g a := by
  unfold pk_fr at h
  by_cases h1 : a < 42
  · have h2 : a = 4 ∨ a = 5 ∨ a = 6 ∨ a = 7 ∨ a = 8 ∨ a = 9 ∨ a = 10 ∨ a = 11 ∨ a = 12 ∨ a = 13 ∨ a = 14 ∨ a = 15 ∨ a = 16 ∨ a = 17 ∨ a = 18 ∨ a = 19 ∨ a = 25 ∨ a = 26 ∨ a = 27 ∨ a = 28 ∨ a = 29 ∨ a = 30 ∨ a = 31 ∨ a = 32 := by omega
    rcases h2 with h | h | h | h | h | h | h | h | h | h | h | h | h | h | h | h | h | h | h | h | h | h | h | h <;> subst h <;> rfl
  · have h2 : ¬ (102 ≤ a ∧ a < 118) := by omega
    show (if a < 42 then _ else _) = _
    rw [if_neg h1, if_neg h2]
theorem pk_hsg {a : Nat} {c : ss_Cl} (h : pk_fr a) : ss_hs (pk_C n g rc ti tb vt ri cd sx rl wi wv gi gs gw nd ns nw il ai yv yr yi ys yw yt yh yf yo yk fr fg pl pc pg) a c = (pk_C n (fun k => if k = a then c else g k) rc ti tb vt ri cd sx rl wi wv gi gs gw nd ns nw il ai yv yr yi ys yw yt yh yf yo yk fr fg pl pc pg) := by
  unfold pk_fr at h
  refine Prod.ext rfl (funext fun k => ?_)
  show (if k = a then c else (pk_C n g rc ti tb vt ri cd sx rl wi wv gi gs gw nd ns nw il ai yv yr yi ys yw yt yh yf yo yk fr fg pl pc pg).2 k) = _
  by_cases e : k = a
  · subst e
    rw [if_pos rfl, pk_out h, if_pos rfl]
  · rw [if_neg e]
    by_cases q : pk_fr k
    · rw [pk_out q, pk_out q, if_neg e]
    · unfold pk_fr at q
      by_cases h1 : k < 42
      · have h2 : k = 0 ∨ k = 1 ∨ k = 2 ∨ k = 3 ∨ k = 20 ∨ k = 21 ∨ k = 22 ∨ k = 23 ∨ k = 24 ∨ k = 33 ∨ k = 34 ∨ k = 35 ∨ k = 36 ∨ k = 37 ∨ k = 38 ∨ k = 39 ∨ k = 40 ∨ k = 41 := by omega
        rcases h2 with h | h | h | h | h | h | h | h | h | h | h | h | h | h | h | h | h | h <;> subst h <;> rfl
      · have h2 : k = 102 ∨ k = 103 ∨ k = 104 ∨ k = 105 ∨ k = 106 ∨ k = 107 ∨ k = 108 ∨ k = 109 ∨ k = 110 ∨ k = 111 ∨ k = 112 ∨ k = 113 ∨ k = 114 ∨ k = 115 ∨ k = 116 ∨ k = 117 := by omega
        rcases h2 with h | h | h | h | h | h | h | h | h | h | h | h | h | h | h | h <;> subst h <;> rfl
end PK
