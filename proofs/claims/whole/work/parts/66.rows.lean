/-! ===== asked of days: ring, best, might ===== -/
theorem cl_F_z {T : List Nat} {a : List Int32} {fo x : Int32} {RS : List (List ru_C)} {US : List (List Int32)} {I : Nat → Option (List Int32 × Int32 × Int32)} {n : Nat} {g : Nat → ss_Cl} {rc : Int32} {ti : List Int32} {tb : List Int32} {vt : Option Nat} {ri : List Int32} {cd : List Int32} {sx : List Int32} {rl : List (Option Nat)} {wi : List Int32} {wv : Option Nat} {gi : List Int32} {gs : List Int32} {gw : List Int32} {nd : List Int32} {ns : List Int32} {nw : List Int32} {il : List (Option Nat)} {ai : List Int32} {yv : Option Nat} {yr : Option Nat} {yi : List Int32} {ys : List Int32} {yw : List Int32} {yt : List Int32} {yh : List Int32} {yf : List Int32} {yo : List Int64} {yk : List Int64} {fr : List Int32} {fg : List Int32} {pl : List Int32} {pc : List Int32} {pg : List Int32} {fr' fg' pl' pc' pg' : List Int32} (F : cl_F n g rc ti tb vt ri cd sx rl wi wv gi gs gw nd ns nw il ai yv yr yi ys yw yt yh yf yo yk fr fg pl pc pg T a fo x RS US I) (hz : cf_L fr' fg' pl' pc' pg') : cl_F n g rc ti tb vt ri cd sx rl wi wv gi gs gw nd ns nw il ai yv yr yi ys yw yt yh yf yo yk fr' fg' pl' pc' pg' T a fo x RS US I := ⟨F.1, F.2.1, F.2.2.1, F.2.2.2.1, F.2.2.2.2.1, F.2.2.2.2.2.1, F.2.2.2.2.2.2.1, F.2.2.2.2.2.2.2.1, F.2.2.2.2.2.2.2.2.1, hz⟩
theorem cb_z0 {h0 h : ss_Hp} {T : List Nat} {a : List Int32} {fo x : Int32} {RS : List (List ru_C)} {US : List (List Int32)} {I : Nat → Option (List Int32 × Int32 × Int32)} {Z : Nat → List Int32} {i : Nat} (hc : cb_h h0 h T a fo x RS US I Z) (hi : i < 488) : ss_ai h (some 112) 20 (nI i) = some (pv (Z 0) i) := by
  have hl := cb_len hc
  obtain ⟨n, g, rc, ti, tb, vt, ri, cd, sx, rl, wi, wv, gi, gs, gw, nd, ns, nw, il, ai, yv, yr, yi, ys, yw, yt, yh, yf, yo, yk, fr, fg, pl, pc, pg, rfl, F, hg, z0, z1, z2, z3, z4⟩ := hc
  rw [← z0] at hl ⊢
  exact pk_a112 (by omega) (by omega)
theorem cb_y0 {h0 h : ss_Hp} {T : List Nat} {a : List Int32} {fo x : Int32} {RS : List (List ru_C)} {US : List (List Int32)} {I : Nat → Option (List Int32 × Int32 × Int32)} {Z : Nat → List Int32} {i : Nat} {y : Int32} (hc : cb_h h0 h T a fo x RS US I Z) (hi : i < 488) : ∃ h', ss_ui h (some 112) 20 (nI i) y = some h' ∧ cb_h h0 h' T a fo x RS US I (zs Z 0 ((Z 0).set i y)) := by
  have hl := cb_len hc
  obtain ⟨n, g, rc, ti, tb, vt, ri, cd, sx, rl, wi, wv, gi, gs, gw, nd, ns, nw, il, ai, yv, yr, yi, ys, yw, yt, yh, yf, yo, yk, fr, fg, pl, pc, pg, rfl, F, hg, z0, z1, z2, z3, z4⟩ := hc
  obtain ⟨f1, f2, f3, f4, f5⟩ := F.2.2.2.2.2.2.2.2.2
  rw [← z0] at hl
  refine ⟨_, pk_u112 (by omega) (by omega) y, n, g, rc, ti, tb, vt, ri, cd, sx, rl, wi, wv, gi, gs, gw, nd, ns, nw, il, ai, yv, yr, yi, _, yw, yt, yh, yf, yo, yk, _, _, _, _, _, rfl, cl_F_z F ⟨by rw [List.length_set]; exact f1, f2, f3, f4, f5⟩, hg, ?_, z1.trans (zs_ne Z _ (show 1 ≠ 0 by omega)).symm, z2.trans (zs_ne Z _ (show 2 ≠ 0 by omega)).symm, z3.trans (zs_ne Z _ (show 3 ≠ 0 by omega)).symm, z4.trans (zs_ne Z _ (show 4 ≠ 0 by omega)).symm⟩
  rw [zs_eq, z0]
theorem cw_y0 {h0 h : ss_Hp} {T : List Nat} {a : List Int32} {fo x : Int32} {RS : List (List ru_C)} {US : List (List Int32)} {I : Nat → Option (List Int32 × Int32 × Int32)} {Z : Nat → List Int32} {ro : Option (List ru_C)} {b : List Int32} {bu : Int32} {th fa : List Int32} {i : Nat} {y : Int32} (hc : cw_h h0 h T a fo x RS US I Z ro b bu th fa) (hi : i < 488) : ∃ h', ss_ui h (some 112) 20 (nI i) y = some h' ∧ cw_h h0 h' T a fo x RS US I (zs Z 0 ((Z 0).set i y)) ro b bu th fa := by
  have hl := cb_len (cw_cb hc)
  obtain ⟨n, g, rc, ti, tb, vt, ri, cd, sx, rl, wi, wv, gi, gs, gw, nd, ns, nw, il, ai, yv, yr, yi, ys, yw, yt, yh, yf, yo, yk, fr, fg, pl, pc, pg, rfl, F, hg, ⟨z0, z1, z2, z3, z4⟩, hW, hV, hr⟩ := hc
  obtain ⟨f1, f2, f3, f4, f5⟩ := F.2.2.2.2.2.2.2.2.2
  rw [← z0] at hl
  refine ⟨_, pk_u112 (by omega) (by omega) y, n, g, rc, ti, tb, vt, ri, cd, sx, rl, wi, wv, gi, gs, gw, nd, ns, nw, il, ai, yv, yr, yi, _, yw, yt, yh, yf, yo, yk, _, _, _, _, _, rfl, cl_F_z F ⟨by rw [List.length_set]; exact f1, f2, f3, f4, f5⟩, hg, ⟨?_, z1.trans (zs_ne Z _ (show 1 ≠ 0 by omega)).symm, z2.trans (zs_ne Z _ (show 2 ≠ 0 by omega)).symm, z3.trans (zs_ne Z _ (show 3 ≠ 0 by omega)).symm, z4.trans (zs_ne Z _ (show 4 ≠ 0 by omega)).symm⟩, hW, hV, hr⟩
  rw [zs_eq, z0]
theorem cb_z1 {h0 h : ss_Hp} {T : List Nat} {a : List Int32} {fo x : Int32} {RS : List (List ru_C)} {US : List (List Int32)} {I : Nat → Option (List Int32 × Int32 × Int32)} {Z : Nat → List Int32} {i : Nat} (hc : cb_h h0 h T a fo x RS US I Z) (hi : i < 7) : ss_ai h (some 113) 22 (nI i) = some (pv (Z 1) i) := by
  have hl := cb_len hc
  obtain ⟨n, g, rc, ti, tb, vt, ri, cd, sx, rl, wi, wv, gi, gs, gw, nd, ns, nw, il, ai, yv, yr, yi, ys, yw, yt, yh, yf, yo, yk, fr, fg, pl, pc, pg, rfl, F, hg, z0, z1, z2, z3, z4⟩ := hc
  rw [← z1] at hl ⊢
  exact pk_a113 (by omega) (by omega)
theorem cb_y1 {h0 h : ss_Hp} {T : List Nat} {a : List Int32} {fo x : Int32} {RS : List (List ru_C)} {US : List (List Int32)} {I : Nat → Option (List Int32 × Int32 × Int32)} {Z : Nat → List Int32} {i : Nat} {y : Int32} (hc : cb_h h0 h T a fo x RS US I Z) (hi : i < 7) : ∃ h', ss_ui h (some 113) 22 (nI i) y = some h' ∧ cb_h h0 h' T a fo x RS US I (zs Z 1 ((Z 1).set i y)) := by
  have hl := cb_len hc
  obtain ⟨n, g, rc, ti, tb, vt, ri, cd, sx, rl, wi, wv, gi, gs, gw, nd, ns, nw, il, ai, yv, yr, yi, ys, yw, yt, yh, yf, yo, yk, fr, fg, pl, pc, pg, rfl, F, hg, z0, z1, z2, z3, z4⟩ := hc
  obtain ⟨f1, f2, f3, f4, f5⟩ := F.2.2.2.2.2.2.2.2.2
  rw [← z1] at hl
  refine ⟨_, pk_u113 (by omega) (by omega) y, n, g, rc, ti, tb, vt, ri, cd, sx, rl, wi, wv, gi, gs, gw, nd, ns, nw, il, ai, yv, yr, yi, _, yw, yt, yh, yf, yo, yk, _, _, _, _, _, rfl, cl_F_z F ⟨f1, by rw [List.length_set]; exact f2, f3, f4, f5⟩, hg, z0.trans (zs_ne Z _ (show 0 ≠ 1 by omega)).symm, ?_, z2.trans (zs_ne Z _ (show 2 ≠ 1 by omega)).symm, z3.trans (zs_ne Z _ (show 3 ≠ 1 by omega)).symm, z4.trans (zs_ne Z _ (show 4 ≠ 1 by omega)).symm⟩
  rw [zs_eq, z1]
theorem cw_y1 {h0 h : ss_Hp} {T : List Nat} {a : List Int32} {fo x : Int32} {RS : List (List ru_C)} {US : List (List Int32)} {I : Nat → Option (List Int32 × Int32 × Int32)} {Z : Nat → List Int32} {ro : Option (List ru_C)} {b : List Int32} {bu : Int32} {th fa : List Int32} {i : Nat} {y : Int32} (hc : cw_h h0 h T a fo x RS US I Z ro b bu th fa) (hi : i < 7) : ∃ h', ss_ui h (some 113) 22 (nI i) y = some h' ∧ cw_h h0 h' T a fo x RS US I (zs Z 1 ((Z 1).set i y)) ro b bu th fa := by
  have hl := cb_len (cw_cb hc)
  obtain ⟨n, g, rc, ti, tb, vt, ri, cd, sx, rl, wi, wv, gi, gs, gw, nd, ns, nw, il, ai, yv, yr, yi, ys, yw, yt, yh, yf, yo, yk, fr, fg, pl, pc, pg, rfl, F, hg, ⟨z0, z1, z2, z3, z4⟩, hW, hV, hr⟩ := hc
  obtain ⟨f1, f2, f3, f4, f5⟩ := F.2.2.2.2.2.2.2.2.2
  rw [← z1] at hl
  refine ⟨_, pk_u113 (by omega) (by omega) y, n, g, rc, ti, tb, vt, ri, cd, sx, rl, wi, wv, gi, gs, gw, nd, ns, nw, il, ai, yv, yr, yi, _, yw, yt, yh, yf, yo, yk, _, _, _, _, _, rfl, cl_F_z F ⟨f1, by rw [List.length_set]; exact f2, f3, f4, f5⟩, hg, ⟨z0.trans (zs_ne Z _ (show 0 ≠ 1 by omega)).symm, ?_, z2.trans (zs_ne Z _ (show 2 ≠ 1 by omega)).symm, z3.trans (zs_ne Z _ (show 3 ≠ 1 by omega)).symm, z4.trans (zs_ne Z _ (show 4 ≠ 1 by omega)).symm⟩, hW, hV, hr⟩
  rw [zs_eq, z1]
theorem cb_z2 {h0 h : ss_Hp} {T : List Nat} {a : List Int32} {fo x : Int32} {RS : List (List ru_C)} {US : List (List Int32)} {I : Nat → Option (List Int32 × Int32 × Int32)} {Z : Nat → List Int32} {i : Nat} (hc : cb_h h0 h T a fo x RS US I Z) (hi : i < 8) : ss_ai h (some 115) 20 (nI i) = some (pv (Z 2) i) := by
  have hl := cb_len hc
  obtain ⟨n, g, rc, ti, tb, vt, ri, cd, sx, rl, wi, wv, gi, gs, gw, nd, ns, nw, il, ai, yv, yr, yi, ys, yw, yt, yh, yf, yo, yk, fr, fg, pl, pc, pg, rfl, F, hg, z0, z1, z2, z3, z4⟩ := hc
  rw [← z2] at hl ⊢
  exact pk_a115 (by omega) (by omega)
theorem cb_y2 {h0 h : ss_Hp} {T : List Nat} {a : List Int32} {fo x : Int32} {RS : List (List ru_C)} {US : List (List Int32)} {I : Nat → Option (List Int32 × Int32 × Int32)} {Z : Nat → List Int32} {i : Nat} {y : Int32} (hc : cb_h h0 h T a fo x RS US I Z) (hi : i < 8) : ∃ h', ss_ui h (some 115) 20 (nI i) y = some h' ∧ cb_h h0 h' T a fo x RS US I (zs Z 2 ((Z 2).set i y)) := by
  have hl := cb_len hc
  obtain ⟨n, g, rc, ti, tb, vt, ri, cd, sx, rl, wi, wv, gi, gs, gw, nd, ns, nw, il, ai, yv, yr, yi, ys, yw, yt, yh, yf, yo, yk, fr, fg, pl, pc, pg, rfl, F, hg, z0, z1, z2, z3, z4⟩ := hc
  obtain ⟨f1, f2, f3, f4, f5⟩ := F.2.2.2.2.2.2.2.2.2
  rw [← z2] at hl
  refine ⟨_, pk_u115 (by omega) (by omega) y, n, g, rc, ti, tb, vt, ri, cd, sx, rl, wi, wv, gi, gs, gw, nd, ns, nw, il, ai, yv, yr, yi, _, yw, yt, yh, yf, yo, yk, _, _, _, _, _, rfl, cl_F_z F ⟨f1, f2, by rw [List.length_set]; exact f3, f4, f5⟩, hg, z0.trans (zs_ne Z _ (show 0 ≠ 2 by omega)).symm, z1.trans (zs_ne Z _ (show 1 ≠ 2 by omega)).symm, ?_, z3.trans (zs_ne Z _ (show 3 ≠ 2 by omega)).symm, z4.trans (zs_ne Z _ (show 4 ≠ 2 by omega)).symm⟩
  rw [zs_eq, z2]
theorem cw_y2 {h0 h : ss_Hp} {T : List Nat} {a : List Int32} {fo x : Int32} {RS : List (List ru_C)} {US : List (List Int32)} {I : Nat → Option (List Int32 × Int32 × Int32)} {Z : Nat → List Int32} {ro : Option (List ru_C)} {b : List Int32} {bu : Int32} {th fa : List Int32} {i : Nat} {y : Int32} (hc : cw_h h0 h T a fo x RS US I Z ro b bu th fa) (hi : i < 8) : ∃ h', ss_ui h (some 115) 20 (nI i) y = some h' ∧ cw_h h0 h' T a fo x RS US I (zs Z 2 ((Z 2).set i y)) ro b bu th fa := by
  have hl := cb_len (cw_cb hc)
  obtain ⟨n, g, rc, ti, tb, vt, ri, cd, sx, rl, wi, wv, gi, gs, gw, nd, ns, nw, il, ai, yv, yr, yi, ys, yw, yt, yh, yf, yo, yk, fr, fg, pl, pc, pg, rfl, F, hg, ⟨z0, z1, z2, z3, z4⟩, hW, hV, hr⟩ := hc
  obtain ⟨f1, f2, f3, f4, f5⟩ := F.2.2.2.2.2.2.2.2.2
  rw [← z2] at hl
  refine ⟨_, pk_u115 (by omega) (by omega) y, n, g, rc, ti, tb, vt, ri, cd, sx, rl, wi, wv, gi, gs, gw, nd, ns, nw, il, ai, yv, yr, yi, _, yw, yt, yh, yf, yo, yk, _, _, _, _, _, rfl, cl_F_z F ⟨f1, f2, by rw [List.length_set]; exact f3, f4, f5⟩, hg, ⟨z0.trans (zs_ne Z _ (show 0 ≠ 2 by omega)).symm, z1.trans (zs_ne Z _ (show 1 ≠ 2 by omega)).symm, ?_, z3.trans (zs_ne Z _ (show 3 ≠ 2 by omega)).symm, z4.trans (zs_ne Z _ (show 4 ≠ 2 by omega)).symm⟩, hW, hV, hr⟩
  rw [zs_eq, z2]
theorem cb_z3 {h0 h : ss_Hp} {T : List Nat} {a : List Int32} {fo x : Int32} {RS : List (List ru_C)} {US : List (List Int32)} {I : Nat → Option (List Int32 × Int32 × Int32)} {Z : Nat → List Int32} {i : Nat} (hc : cb_h h0 h T a fo x RS US I Z) (hi : i < 8) : ss_ai h (some 116) 20 (nI i) = some (pv (Z 3) i) := by
  have hl := cb_len hc
  obtain ⟨n, g, rc, ti, tb, vt, ri, cd, sx, rl, wi, wv, gi, gs, gw, nd, ns, nw, il, ai, yv, yr, yi, ys, yw, yt, yh, yf, yo, yk, fr, fg, pl, pc, pg, rfl, F, hg, z0, z1, z2, z3, z4⟩ := hc
  rw [← z3] at hl ⊢
  exact pk_a116 (by omega) (by omega)
theorem cb_y3 {h0 h : ss_Hp} {T : List Nat} {a : List Int32} {fo x : Int32} {RS : List (List ru_C)} {US : List (List Int32)} {I : Nat → Option (List Int32 × Int32 × Int32)} {Z : Nat → List Int32} {i : Nat} {y : Int32} (hc : cb_h h0 h T a fo x RS US I Z) (hi : i < 8) : ∃ h', ss_ui h (some 116) 20 (nI i) y = some h' ∧ cb_h h0 h' T a fo x RS US I (zs Z 3 ((Z 3).set i y)) := by
  have hl := cb_len hc
  obtain ⟨n, g, rc, ti, tb, vt, ri, cd, sx, rl, wi, wv, gi, gs, gw, nd, ns, nw, il, ai, yv, yr, yi, ys, yw, yt, yh, yf, yo, yk, fr, fg, pl, pc, pg, rfl, F, hg, z0, z1, z2, z3, z4⟩ := hc
  obtain ⟨f1, f2, f3, f4, f5⟩ := F.2.2.2.2.2.2.2.2.2
  rw [← z3] at hl
  refine ⟨_, pk_u116 (by omega) (by omega) y, n, g, rc, ti, tb, vt, ri, cd, sx, rl, wi, wv, gi, gs, gw, nd, ns, nw, il, ai, yv, yr, yi, _, yw, yt, yh, yf, yo, yk, _, _, _, _, _, rfl, cl_F_z F ⟨f1, f2, f3, by rw [List.length_set]; exact f4, f5⟩, hg, z0.trans (zs_ne Z _ (show 0 ≠ 3 by omega)).symm, z1.trans (zs_ne Z _ (show 1 ≠ 3 by omega)).symm, z2.trans (zs_ne Z _ (show 2 ≠ 3 by omega)).symm, ?_, z4.trans (zs_ne Z _ (show 4 ≠ 3 by omega)).symm⟩
  rw [zs_eq, z3]
theorem cw_y3 {h0 h : ss_Hp} {T : List Nat} {a : List Int32} {fo x : Int32} {RS : List (List ru_C)} {US : List (List Int32)} {I : Nat → Option (List Int32 × Int32 × Int32)} {Z : Nat → List Int32} {ro : Option (List ru_C)} {b : List Int32} {bu : Int32} {th fa : List Int32} {i : Nat} {y : Int32} (hc : cw_h h0 h T a fo x RS US I Z ro b bu th fa) (hi : i < 8) : ∃ h', ss_ui h (some 116) 20 (nI i) y = some h' ∧ cw_h h0 h' T a fo x RS US I (zs Z 3 ((Z 3).set i y)) ro b bu th fa := by
  have hl := cb_len (cw_cb hc)
  obtain ⟨n, g, rc, ti, tb, vt, ri, cd, sx, rl, wi, wv, gi, gs, gw, nd, ns, nw, il, ai, yv, yr, yi, ys, yw, yt, yh, yf, yo, yk, fr, fg, pl, pc, pg, rfl, F, hg, ⟨z0, z1, z2, z3, z4⟩, hW, hV, hr⟩ := hc
  obtain ⟨f1, f2, f3, f4, f5⟩ := F.2.2.2.2.2.2.2.2.2
  rw [← z3] at hl
  refine ⟨_, pk_u116 (by omega) (by omega) y, n, g, rc, ti, tb, vt, ri, cd, sx, rl, wi, wv, gi, gs, gw, nd, ns, nw, il, ai, yv, yr, yi, _, yw, yt, yh, yf, yo, yk, _, _, _, _, _, rfl, cl_F_z F ⟨f1, f2, f3, by rw [List.length_set]; exact f4, f5⟩, hg, ⟨z0.trans (zs_ne Z _ (show 0 ≠ 3 by omega)).symm, z1.trans (zs_ne Z _ (show 1 ≠ 3 by omega)).symm, z2.trans (zs_ne Z _ (show 2 ≠ 3 by omega)).symm, ?_, z4.trans (zs_ne Z _ (show 4 ≠ 3 by omega)).symm⟩, hW, hV, hr⟩
  rw [zs_eq, z3]
theorem cb_z4 {h0 h : ss_Hp} {T : List Nat} {a : List Int32} {fo x : Int32} {RS : List (List ru_C)} {US : List (List Int32)} {I : Nat → Option (List Int32 × Int32 × Int32)} {Z : Nat → List Int32} {i : Nat} (hc : cb_h h0 h T a fo x RS US I Z) (hi : i < 64) : ss_ai h (some 117) 20 (nI i) = some (pv (Z 4) i) := by
  have hl := cb_len hc
  obtain ⟨n, g, rc, ti, tb, vt, ri, cd, sx, rl, wi, wv, gi, gs, gw, nd, ns, nw, il, ai, yv, yr, yi, ys, yw, yt, yh, yf, yo, yk, fr, fg, pl, pc, pg, rfl, F, hg, z0, z1, z2, z3, z4⟩ := hc
  rw [← z4] at hl ⊢
  exact pk_a117 (by omega) (by omega)
theorem cb_y4 {h0 h : ss_Hp} {T : List Nat} {a : List Int32} {fo x : Int32} {RS : List (List ru_C)} {US : List (List Int32)} {I : Nat → Option (List Int32 × Int32 × Int32)} {Z : Nat → List Int32} {i : Nat} {y : Int32} (hc : cb_h h0 h T a fo x RS US I Z) (hi : i < 64) : ∃ h', ss_ui h (some 117) 20 (nI i) y = some h' ∧ cb_h h0 h' T a fo x RS US I (zs Z 4 ((Z 4).set i y)) := by
  have hl := cb_len hc
  obtain ⟨n, g, rc, ti, tb, vt, ri, cd, sx, rl, wi, wv, gi, gs, gw, nd, ns, nw, il, ai, yv, yr, yi, ys, yw, yt, yh, yf, yo, yk, fr, fg, pl, pc, pg, rfl, F, hg, z0, z1, z2, z3, z4⟩ := hc
  obtain ⟨f1, f2, f3, f4, f5⟩ := F.2.2.2.2.2.2.2.2.2
  rw [← z4] at hl
  refine ⟨_, pk_u117 (by omega) (by omega) y, n, g, rc, ti, tb, vt, ri, cd, sx, rl, wi, wv, gi, gs, gw, nd, ns, nw, il, ai, yv, yr, yi, _, yw, yt, yh, yf, yo, yk, _, _, _, _, _, rfl, cl_F_z F ⟨f1, f2, f3, f4, by rw [List.length_set]; exact f5⟩, hg, z0.trans (zs_ne Z _ (show 0 ≠ 4 by omega)).symm, z1.trans (zs_ne Z _ (show 1 ≠ 4 by omega)).symm, z2.trans (zs_ne Z _ (show 2 ≠ 4 by omega)).symm, z3.trans (zs_ne Z _ (show 3 ≠ 4 by omega)).symm, ?_⟩
  rw [zs_eq, z4]
theorem cw_y4 {h0 h : ss_Hp} {T : List Nat} {a : List Int32} {fo x : Int32} {RS : List (List ru_C)} {US : List (List Int32)} {I : Nat → Option (List Int32 × Int32 × Int32)} {Z : Nat → List Int32} {ro : Option (List ru_C)} {b : List Int32} {bu : Int32} {th fa : List Int32} {i : Nat} {y : Int32} (hc : cw_h h0 h T a fo x RS US I Z ro b bu th fa) (hi : i < 64) : ∃ h', ss_ui h (some 117) 20 (nI i) y = some h' ∧ cw_h h0 h' T a fo x RS US I (zs Z 4 ((Z 4).set i y)) ro b bu th fa := by
  have hl := cb_len (cw_cb hc)
  obtain ⟨n, g, rc, ti, tb, vt, ri, cd, sx, rl, wi, wv, gi, gs, gw, nd, ns, nw, il, ai, yv, yr, yi, ys, yw, yt, yh, yf, yo, yk, fr, fg, pl, pc, pg, rfl, F, hg, ⟨z0, z1, z2, z3, z4⟩, hW, hV, hr⟩ := hc
  obtain ⟨f1, f2, f3, f4, f5⟩ := F.2.2.2.2.2.2.2.2.2
  rw [← z4] at hl
  refine ⟨_, pk_u117 (by omega) (by omega) y, n, g, rc, ti, tb, vt, ri, cd, sx, rl, wi, wv, gi, gs, gw, nd, ns, nw, il, ai, yv, yr, yi, _, yw, yt, yh, yf, yo, yk, _, _, _, _, _, rfl, cl_F_z F ⟨f1, f2, f3, f4, by rw [List.length_set]; exact f5⟩, hg, ⟨z0.trans (zs_ne Z _ (show 0 ≠ 4 by omega)).symm, z1.trans (zs_ne Z _ (show 1 ≠ 4 by omega)).symm, z2.trans (zs_ne Z _ (show 2 ≠ 4 by omega)).symm, z3.trans (zs_ne Z _ (show 3 ≠ 4 by omega)).symm, ?_⟩, hW, hV, hr⟩
  rw [zs_eq, z4]

theorem cpl_eq {S S' : List Int32} {dp n : Nat} (h1 : S.length = n) (h2 : dp + n ≤ S'.length) : S'.take dp ++ (S ++ S'.drop (dp + n)) = cpl S' S dp 0 n := by
  have hl : (S'.take dp ++ (S ++ S'.drop (dp + n))).length = S'.length := by
    rw [List.length_append, List.length_append, List.length_take, List.length_drop]; omega
  refine pv_ext (by rw [cpl_len]; exact hl) (fun i hi => ?_)
  rw [hl] at hi
  rw [cpl_pv n h2]
  have ht : (S'.take dp).length = dp := by rw [List.length_take]; omega
  unfold pv
  simp only [List.getD_eq_getElem?_getD]
  by_cases c1 : i < dp
  · rw [List.getElem?_append_left (by omega), if_neg (by omega), List.getElem?_take_of_lt c1]
  · rw [List.getElem?_append_right (by omega), ht]
    by_cases c2 : i < dp + n
    · rw [List.getElem?_append_left (by omega), if_pos (by omega), Nat.zero_add]
    · rw [List.getElem?_append_right (by omega), if_neg (by omega), List.getElem?_drop, h1]
      congr 2
      omega
theorem pb_cpo {h : ss_Hp} {q p n dp : Nat} {S S' : List Int32} (hq : h.2 q = (20, S, [], [])) (hp : h.2 p = (20, S', [], [])) (h1 : S.length = n) (h2 : dp + n ≤ S'.length) (hn : dp + n < 2 ^ 31) : ss_cp h (some q) (nI 0) (some p) (nI dp) (nI n) = some (ss_hs h p (20, cpl S' S dp 0 n, [], [])) := by
  have e0 : (nI 0).toNatClampNeg = 0 := nI_clamp (by omega)
  have e1 : (nI n).toNatClampNeg = n := nI_clamp (by omega)
  have e2 : (nI dp).toNatClampNeg = dp := nI_clamp (by omega)
  have z0 : ¬ nI 0 < 0 := nI_pos (by omega)
  have z1 : ¬ nI n < 0 := nI_pos (by omega)
  have z2 : ¬ nI dp < 0 := nI_pos (by omega)
  have t1 : S.take n = S := List.take_of_length_le (by omega)
  rw [← cpl_eq h1 h2]
  simp [ss_cp, hq, hp, e0, e1, e2, z0, z1, z2, h1, h2, t1]
theorem cw_rows {h0 h : ss_Hp} {T : List Nat} {a : List Int32} {fo x : Int32} {RS : List (List ru_C)} {US : List (List Int32)} {I : Nat → Option (List Int32 × Int32 × Int32)} {Z : Nat → List Int32} {ro : Option (List ru_C)} {b : List Int32} {bu : Int32} {th fa : List Int32} {i : Nat} (hc : cw_h h0 h T a fo x RS US I Z ro b bu th fa) (hi : i < 61) : ∃ h', ss_cp h (some 104) (nI 0) (some 112) (nI (i * 8)) (nI 8) = some h' ∧ cw_h h0 h' T a fo x RS US I (zs Z 0 (cpl (Z 0) (sl b 14 8) (i * 8) 0 8)) ro b bu th fa := by
  have hl := cb_len (cw_cb hc)
  obtain ⟨n, g, rc, ti, tb, vt, ri, cd, sx, rl, wi, wv, gi, gs, gw, nd, ns, nw, il, ai, yv, yr, yi, ys, yw, yt, yh, yf, yo, yk, fr, fg, pl, pc, pg, rfl, F, hg, ⟨z0, z1, z2, z3, z4⟩, ⟨w1, w2, w3, w4, w5, w6⟩, hV, hr⟩ := hc
  obtain ⟨f1, f2, f3, f4, f5⟩ := F.2.2.2.2.2.2.2.2.2
  rw [← z0] at hl
  subst w2
  refine ⟨_, (pb_cpo pk_c104 pk_c112 (sl_len _ _ _) (by omega) (by omega)).trans (congrArg some (pk_s112 _)), n, g, rc, ti, tb, vt, ri, cd, sx, rl, wi, wv, gi, gs, gw, nd, ns, nw, il, ai, yv, yr, yi, _, yw, yt, yh, yf, yo, yk, _, _, _, _, _, rfl, cl_F_z F ⟨by rw [cpl_len]; exact f1, f2, f3, f4, f5⟩, hg, ⟨?_, z1.trans (zs_ne Z _ (show 1 ≠ 0 by omega)).symm, z2.trans (zs_ne Z _ (show 2 ≠ 0 by omega)).symm, z3.trans (zs_ne Z _ (show 3 ≠ 0 by omega)).symm, z4.trans (zs_ne Z _ (show 4 ≠ 0 by omega)).symm⟩, ⟨w1, rfl, w3, w4, w5, w6⟩, hV, hr⟩
  rw [zs_eq, z0]
/-- the rows are alike -/
def rwQ (ro : Option (List ru_C)) (k m : Nat) (a : List Int32) (i j : Nat) : Prop := ∀ s, s < k → pv (dN ro k m a i) (14 + s) = pv (dN ro k m a j) (14 + s)
def rw_S (X : Nat → Nat → Option Int32) (Q : Nat → Nat → Prop) : Prop := ∀ i j, i < 61 → j < 61 → X i j = some (@ite _ (Q i j) (Classical.propDecidable _) (nI 1) (nI 0))
theorem rw_first (Q : Nat → Nat → Prop) : (∀ i j, i < 60 → i < j → j < 61 → ¬ Q i j) ∨ ∃ i j, i < 60 ∧ i < j ∧ j < 61 ∧ Q i j ∧ (∀ j', i < j' → j' < j → ¬ Q i j') ∧ ∀ i' j', i' < i → i' < j' → j' < 61 → ¬ Q i' j' := by
  rcases ex_least (fun i => ∃ j, i < j ∧ j < 61 ∧ Q i j) 60 with h | ⟨i, h1, ⟨j0, q1, q2, q3⟩, h3⟩
  · exact Or.inl (fun i j h1 h2 h3 q => h i h1 ⟨j, h2, h3, q⟩)
  · rcases ex_least (fun t => Q i (i + 1 + t)) (60 - i) with h | ⟨t, t1, t2, t3⟩
    · exact absurd (show Q i (i + 1 + (j0 - i - 1)) by rw [show i + 1 + (j0 - i - 1) = j0 by omega]; exact q3) (h (j0 - i - 1) (by omega))
    · refine Or.inr ⟨i, i + 1 + t, h1, by omega, by omega, t2, fun j' a1 a2 q => t3 (j' - i - 1) (by omega) (by rw [show i + 1 + (j' - i - 1) = j' by omega]; exact q), fun i' j' a1 a2 a3 q => h3 i' a1 ⟨j', a2, a3, q⟩⟩
theorem rc_in0 {N : Nat} {h : ss_Hp} {w : Int32} {Q : Nat → Nat → Prop} {i : Nat} (hS : rw_S (fun i j => mm_F_isSameRow N (some 111) (nI i) (nI j) h) Q) (hi : i < 60) (hno : ∀ j, i < j → j < 61 → ¬ Q i j) (hN : 100 < N) : ss_lp (mm_F_ringOf_b62 N (some 111) w (nI i) h) N (nI (i + 1)) = some (.inl ()) := by
  have st0 : nI (i + 1) = (fun t => nI (i + 1 + t)) 0 := rfl
  rw [st0]
  refine pb_lp (fun t => nI (i + 1 + t)) (60 - i) (by omega) (fun t ht => ?_) ?_
  · unfold mm_F_ringOf_b62
    have h1 : ¬ nI 60 < nI (i + 1 + t) := nI_nlt (by omega) (by omega)
    have h2 := hS i (i + 1 + t) (by omega) (by omega)
    simp only at h2
    simp (disch := omega) only [pb_its, pb_l2, pb_ll, nI_add, pb_mul, if_true, if_false, pb_bs, pb_b2n, pb_bz0, pb_bz1, pb_10, pb_01, pb_i31, h1, h2, pb_cf (hno (i + 1 + t) (by omega) (by omega))]
    rfl
  · unfold mm_F_ringOf_b62
    have h1 : nI 60 < nI (i + 1 + (60 - i)) := nI_lt (by omega) (by omega)
    simp (disch := omega) only [pb_its, pb_l2, pb_ll, nI_add, pb_mul, if_true, if_false, pb_bs, pb_b2n, pb_bz0, pb_bz1, pb_10, pb_01, pb_i31, h1]
theorem rc_in1 {N : Nat} {h : ss_Hp} {w : Int32} {Q : Nat → Nat → Prop} {i j : Nat} (hS : rw_S (fun i j => mm_F_isSameRow N (some 111) (nI i) (nI j) h) Q) (hi : i < 60) (hij : i < j) (hj : j < 61) (hq : Q i j) (hno : ∀ j', i < j' → j' < j → ¬ Q i j') (hN : 100 < N) : ss_lp (mm_F_ringOf_b62 N (some 111) w (nI i) h) N (nI (i + 1)) = some (.inr (nI j)) := by
  have st0 : nI (i + 1) = (fun t => nI (i + 1 + t)) 0 := rfl
  rw [st0]
  refine pb_lp (fun t => nI (i + 1 + t)) (j - i - 1) (by omega) (fun t ht => ?_) ?_
  · unfold mm_F_ringOf_b62
    have h1 : ¬ nI 60 < nI (i + 1 + t) := nI_nlt (by omega) (by omega)
    have h2 := hS i (i + 1 + t) (by omega) (by omega)
    simp only at h2
    simp (disch := omega) only [pb_its, pb_l2, pb_ll, nI_add, pb_mul, if_true, if_false, pb_bs, pb_b2n, pb_bz0, pb_bz1, pb_10, pb_01, pb_i31, h1, h2, pb_cf (hno (i + 1 + t) (by omega) (by omega))]
    rfl
  · unfold mm_F_ringOf_b62
    have e : i + 1 + (j - i - 1) = j := by omega
    have h1 : ¬ nI 60 < nI j := nI_nlt (by omega) (by omega)
    have h2 := hS i j (by omega) (by omega)
    simp only at h2
    simp only [e]
    simp (disch := omega) only [pb_its, pb_l2, pb_ll, nI_add, pb_mul, if_true, if_false, pb_bs, pb_b2n, pb_bz0, pb_bz1, pb_10, pb_01, pb_i31, h1, h2, pb_ct hq]
theorem rc_out0 {N : Nat} {h : ss_Hp} {w : Int32} {Q : Nat → Nat → Prop} (hS : rw_S (fun i j => mm_F_isSameRow N (some 111) (nI i) (nI j) h) Q) (hno : ∀ i j, i < 60 → i < j → j < 61 → ¬ Q i j) (hN : 100 < N) : ss_lp (mm_F_ringOf_b52 N (some 111) w h) N (nI 0) = some (.inl ()) := by
  refine pb_lp (fun t => nI t) 60 (by omega) (fun t ht => ?_) ?_
  · unfold mm_F_ringOf_b52
    have h1 : ¬ nI 60 ≤ nI t := nI_ge ht (by omega)
    simp (disch := omega) only [pb_its, pb_l2, pb_ll, nI_add, pb_mul, if_true, if_false, pb_bs, pb_b2n, pb_bz0, pb_bz1, pb_10, pb_01, pb_i31, h1, rc_in0 hS ht (fun j a b => hno t j ht a b) hN]
  · unfold mm_F_ringOf_b52
    simp (disch := omega) only [pb_its, pb_l2, pb_ll, nI_add, pb_mul, if_true, if_false, pb_bs, pb_b2n, pb_bz0, pb_bz1, pb_10, pb_01, pb_i31, nI_le (Nat.le_refl 60) (by omega : 60 < 2 ^ 31)]
theorem rc_out1 {N : Nat} {h : ss_Hp} {w : Int32} {Q : Nat → Nat → Prop} {i j : Nat} (hS : rw_S (fun i j => mm_F_isSameRow N (some 111) (nI i) (nI j) h) Q) (hi : i < 60) (hij : i < j) (hj : j < 61) (hq : Q i j) (hno : ∀ j', i < j' → j' < j → ¬ Q i j') (hne : ∀ i' j', i' < i → i' < j' → j' < 61 → ¬ Q i' j') (hN : 100 < N) : ss_lp (mm_F_ringOf_b52 N (some 111) w h) N (nI 0) = some (.inr (nI i, nI j)) := by
  refine pb_lp (fun t => nI t) i (by omega) (fun t ht => ?_) ?_
  · unfold mm_F_ringOf_b52
    have h1 : ¬ nI 60 ≤ nI t := nI_ge (by omega) (by omega)
    simp (disch := omega) only [pb_its, pb_l2, pb_ll, nI_add, pb_mul, if_true, if_false, pb_bs, pb_b2n, pb_bz0, pb_bz1, pb_10, pb_01, pb_i31, h1, rc_in0 hS (by omega : t < 60) (fun j a b => hne t j ht a b) hN]
  · unfold mm_F_ringOf_b52
    have h1 : ¬ nI 60 ≤ nI i := nI_ge (by omega) (by omega)
    simp (disch := omega) only [pb_its, pb_l2, pb_ll, nI_add, pb_mul, if_true, if_false, pb_bs, pb_b2n, pb_bz0, pb_bz1, pb_10, pb_01, pb_i31, h1, rc_in1 hS hi hij hj hq hno hN]
theorem rm_in0 {N : Nat} {h : ss_Hp} {w : Int32} {Q : Nat → Nat → Prop} {i : Nat} (hS : rw_S (fun i j => mm_M_areAlike N (some 118) (nI i) (nI j) h) Q) (hi : i < 60) (hno : ∀ j, i < j → j < 61 → ¬ Q i j) (hN : 100 < N) : ss_lp (mm_M_ring_b92 N (some 118) w (nI i) h) N (nI (i + 1)) = some (.inl ()) := by
  have st0 : nI (i + 1) = (fun t => nI (i + 1 + t)) 0 := rfl
  rw [st0]
  refine pb_lp (fun t => nI (i + 1 + t)) (60 - i) (by omega) (fun t ht => ?_) ?_
  · unfold mm_M_ring_b92
    have h1 : ¬ nI 60 < nI (i + 1 + t) := nI_nlt (by omega) (by omega)
    have h2 := hS i (i + 1 + t) (by omega) (by omega)
    simp only at h2
    simp (disch := omega) only [pb_its, pb_l2, pb_ll, nI_add, pb_mul, if_true, if_false, pb_bs, pb_b2n, pb_bz0, pb_bz1, pb_10, pb_01, pb_i31, h1, h2, pb_cf (hno (i + 1 + t) (by omega) (by omega))]
    rfl
  · unfold mm_M_ring_b92
    have h1 : nI 60 < nI (i + 1 + (60 - i)) := nI_lt (by omega) (by omega)
    simp (disch := omega) only [pb_its, pb_l2, pb_ll, nI_add, pb_mul, if_true, if_false, pb_bs, pb_b2n, pb_bz0, pb_bz1, pb_10, pb_01, pb_i31, h1]
theorem rm_in1 {N : Nat} {h : ss_Hp} {w : Int32} {Q : Nat → Nat → Prop} {i j : Nat} (hS : rw_S (fun i j => mm_M_areAlike N (some 118) (nI i) (nI j) h) Q) (hi : i < 60) (hij : i < j) (hj : j < 61) (hq : Q i j) (hno : ∀ j', i < j' → j' < j → ¬ Q i j') (hN : 100 < N) : ss_lp (mm_M_ring_b92 N (some 118) w (nI i) h) N (nI (i + 1)) = some (.inr (nI j)) := by
  have st0 : nI (i + 1) = (fun t => nI (i + 1 + t)) 0 := rfl
  rw [st0]
  refine pb_lp (fun t => nI (i + 1 + t)) (j - i - 1) (by omega) (fun t ht => ?_) ?_
  · unfold mm_M_ring_b92
    have h1 : ¬ nI 60 < nI (i + 1 + t) := nI_nlt (by omega) (by omega)
    have h2 := hS i (i + 1 + t) (by omega) (by omega)
    simp only at h2
    simp (disch := omega) only [pb_its, pb_l2, pb_ll, nI_add, pb_mul, if_true, if_false, pb_bs, pb_b2n, pb_bz0, pb_bz1, pb_10, pb_01, pb_i31, h1, h2, pb_cf (hno (i + 1 + t) (by omega) (by omega))]
    rfl
  · unfold mm_M_ring_b92
    have e : i + 1 + (j - i - 1) = j := by omega
    have h1 : ¬ nI 60 < nI j := nI_nlt (by omega) (by omega)
    have h2 := hS i j (by omega) (by omega)
    simp only at h2
    simp only [e]
    simp (disch := omega) only [pb_its, pb_l2, pb_ll, nI_add, pb_mul, if_true, if_false, pb_bs, pb_b2n, pb_bz0, pb_bz1, pb_10, pb_01, pb_i31, h1, h2, pb_ct hq]
theorem rm_out0 {N : Nat} {h : ss_Hp} {w : Int32} {Q : Nat → Nat → Prop} (hS : rw_S (fun i j => mm_M_areAlike N (some 118) (nI i) (nI j) h) Q) (hno : ∀ i j, i < 60 → i < j → j < 61 → ¬ Q i j) (hN : 100 < N) : ss_lp (mm_M_ring_b82 N (some 118) w h) N (nI 0) = some (.inl ()) := by
  refine pb_lp (fun t => nI t) 60 (by omega) (fun t ht => ?_) ?_
  · unfold mm_M_ring_b82
    have h1 : ¬ nI 60 ≤ nI t := nI_ge ht (by omega)
    simp (disch := omega) only [pb_its, pb_l2, pb_ll, nI_add, pb_mul, if_true, if_false, pb_bs, pb_b2n, pb_bz0, pb_bz1, pb_10, pb_01, pb_i31, h1, rm_in0 hS ht (fun j a b => hno t j ht a b) hN]
  · unfold mm_M_ring_b82
    simp (disch := omega) only [pb_its, pb_l2, pb_ll, nI_add, pb_mul, if_true, if_false, pb_bs, pb_b2n, pb_bz0, pb_bz1, pb_10, pb_01, pb_i31, nI_le (Nat.le_refl 60) (by omega : 60 < 2 ^ 31)]
theorem rm_out1 {N : Nat} {h : ss_Hp} {w : Int32} {Q : Nat → Nat → Prop} {i j : Nat} (hS : rw_S (fun i j => mm_M_areAlike N (some 118) (nI i) (nI j) h) Q) (hi : i < 60) (hij : i < j) (hj : j < 61) (hq : Q i j) (hno : ∀ j', i < j' → j' < j → ¬ Q i j') (hne : ∀ i' j', i' < i → i' < j' → j' < 61 → ¬ Q i' j') (hN : 100 < N) : ss_lp (mm_M_ring_b82 N (some 118) w h) N (nI 0) = some (.inr (nI i, nI j)) := by
  refine pb_lp (fun t => nI t) i (by omega) (fun t ht => ?_) ?_
  · unfold mm_M_ring_b82
    have h1 : ¬ nI 60 ≤ nI t := nI_ge (by omega) (by omega)
    simp (disch := omega) only [pb_its, pb_l2, pb_ll, nI_add, pb_mul, if_true, if_false, pb_bs, pb_b2n, pb_bz0, pb_bz1, pb_10, pb_01, pb_i31, h1, rm_in0 hS (by omega : t < 60) (fun j a b => hne t j ht a b) hN]
  · unfold mm_M_ring_b82
    have h1 : ¬ nI 60 ≤ nI i := nI_ge (by omega) (by omega)
    simp (disch := omega) only [pb_its, pb_l2, pb_ll, nI_add, pb_mul, if_true, if_false, pb_bs, pb_b2n, pb_bz0, pb_bz1, pb_10, pb_01, pb_i31, h1, rm_in1 hS hi hij hj hq hno hN]
